theorem rOK_kind {G : GT} {v : V} : rts G v = (match v with | none => [] | some x => [vv G (some x)]) := by cases v <;> rfl
def vO (G : GT) (v : V) : Option Value := match v with
  | none => none
  | some x => some (vv G (some x))
theorem vO_list {G : GT} {v : V} : (vO G v).toList = rts G v := by cases v <;> rfl
def WS (y : Md) : List Cond := Cond.code (mN y) (mB y) (mL y) (mR y) :: LW
theorem WS_good {y : Md} {n : Nat} (h : MOK y n) : GoodIn LW (WS y) := fun w hw => (List.mem_cons.mp hw).elim (fun e => e ▸ LW_good _ h.1) (fun e => LW_good _ e)
def lsOf : List V → List V
  | [] => []
  | v :: t => if isL v then v :: vn :: lsOf t else v :: lsOf t
def entryL (n : Nat) (As : List V) : List V := lsOf As ++ List.replicate (n - (lsOf As).length) vn
theorem lsOf_len {G : GT} : ∀ As : List V, (lg_sl (As.map (vv G))).length = (lsOf As).length
  | [] => rfl
  | v :: t => by
    have ih := lsOf_len (G := G) t
    have hc := cat_isL (G := G) (v := v)
    unfold lg_sl at ih ⊢
    simp only [List.map_cons, List.flatMap_cons, List.length_append, ih, lsOf]
    by_cases h : isL v = true
    · rw [if_pos (hc.mpr h), if_pos h]; simp only [List.length_cons, List.length_nil]; omega
    · rw [if_neg (fun q => h (hc.mp q)), if_neg h]; simp only [List.length_cons, List.length_nil]; omega
theorem lsOf_args {G : GT} : ∀ (As : List V) (i j : Nat) (v : V), (lsOf As)[j]? = some v → v ≠ vn → (i + j, vv G v) ∈ lv_args i (As.map (vv G))
  | [], i, j, v, h, _ => by simp [lsOf] at h
  | w :: t, i, j, v, h, hv => by
    have hc := cat_isL (G := G) (v := w)
    simp only [List.map_cons, lv_args]
    by_cases hw : isL w = true
    · rw [if_pos (hc.mpr hw)]
      simp only [lsOf, hw, if_true] at h
      match j, h with
      | 0, h =>
        simp only [List.getElem?_cons_zero, Option.some.injEq] at h
        subst h
        exact List.mem_cons_self
      | 1, h =>
        simp only [List.getElem?_cons_succ, List.getElem?_cons_zero, Option.some.injEq] at h
        exact absurd h.symm hv
      | j + 2, h =>
        simp only [List.getElem?_cons_succ] at h
        have := lsOf_args (G := G) t (i + 2) j v h hv
        rw [show i + 2 + j = i + (j + 2) by omega] at this
        exact List.mem_cons_of_mem _ this
    · rw [if_neg (fun q => hw (hc.mp q))]
      simp only [lsOf, hw] at h
      match j, h with
      | 0, h =>
        simp only [Bool.false_eq_true, if_false, List.getElem?_cons_zero, Option.some.injEq] at h
        subst h
        exact List.mem_cons_self
      | j + 1, h =>
        simp only [Bool.false_eq_true, if_false, List.getElem?_cons_succ] at h
        have := lsOf_args (G := G) t (i + 1) j v h hv
        rw [show i + 1 + j = i + (j + 1) by omega] at this
        exact List.mem_cons_of_mem _ this
theorem lsOf_mem : ∀ (As : List V) (v : V), v ∈ lsOf As → v ∈ As ∨ v = vn
  | [], v, h => by simp [lsOf] at h
  | w :: t, v, h => by
    unfold lsOf at h
    split at h
    · rcases List.mem_cons.mp h with e | h
      · exact Or.inl (e ▸ List.mem_cons_self)
      · rcases List.mem_cons.mp h with e | h
        · exact Or.inr e
        · exact (lsOf_mem t v h).imp (List.mem_cons_of_mem _) id
    · rcases List.mem_cons.mp h with e | h
      · exact Or.inl (e ▸ List.mem_cons_self)
      · exact (lsOf_mem t v h).imp (List.mem_cons_of_mem _) id
theorem entry_LsR {G : GT} {As : List V} {n : Nat} (hn : (lsOf As).length ≤ n) (hok : ∀ v ∈ As, vOK v) : LsR G (entryL n As) ((lg_sl (As.map (vv G)) ++ List.replicate (n - (lg_sl (As.map (vv G))).length) Slot.unset).toArray) n := by
  have hl := lsOf_len (G := G) As
  refine ⟨lv_mono (lv_entry (As.map (vv G)) (n := n) (by rw [hl]; exact hn)) fun q hq => ?_, by unfold entryL; simp; omega, fun v hv => ?_⟩
  · obtain ⟨v, h1, h2, h3⟩ := lvl_mem.mp hq
    obtain ⟨j, x⟩ := q
    dsimp only at h1 h3
    subst h3
    unfold entryL at h1
    by_cases hj : j < (lsOf As).length
    · rw [List.getElem?_append_left hj] at h1
      have := lsOf_args (G := G) As 0 j v h1 h2
      rwa [Nat.zero_add] at this
    · rw [List.getElem?_append_right (by omega)] at h1
      have := List.mem_of_getElem? h1
      exact absurd (List.mem_replicate.mp this).2 h2
  · unfold entryL at hv
    rcases List.mem_append.mp hv with h | h
    · rcases lsOf_mem As v h with h | h
      · exact hok v h
      · rw [h]; exact trivial
    · rw [(List.mem_replicate.mp h).2]; exact trivial
/-- what a callee is given beside its words -/
def FX (G : GT) (U : State) : Prop := va_K (gD G) CL (tys0 G) U ∧ (∀ w ∈ NW, va_Nw w U) ∧ (va_AO "LitByLosers$Script" U ∧ va_AO "LitByLosers$State" U) ∧ OLD G U U.heap
def PP (G : GT) (σ : Hp) (As : List V) : Array Value → State → Prop := va_Pc (As.map (vv G)) (fun U => FX G U ∧ HR G σ U.heap)
def QQ (G : GT) (Q : V → Hp → Prop) : Array Value → State → Outcome → State → Prop := fun _ st o t => (∃ (v : V) (σ' : Hp), o = .returned (vO G v) ∧ Q v σ' ∧ HR G σ' t.heap ∧ vOK v) ∧ va_F (AG G) st t
def rmOf (δ mc ms : Nat) : Room := { frames := 2048 - (δ + 1), cells := mc, slots := ms, locals := 84000 - 40 * (δ + 1) }
theorem nw_warm {w : Cond} {s U : State} (hi : isNw w = true) (hW : s.WarmedH U.vm) (h : va_Nw w s) : va_Nw w U := by
  cases w <;> first | exact va_Nw.warmF hW h | exact va_Nw.warmM hW h | cases hi
theorem FX.go {G : GT} {y : Md} {p : Program} {s : State} {m : MethodId} {args : Array Value} {meth : Method} {c : Code} {H : Heap} {locs : List Loc} {U : State} (C : CX G y p s m args meth c) (hS : va_S (AG G) s.heap H locs) (hU : U.heap = H) (hW : s.WarmedH U.vm) : FX G U := by
  refine ⟨va_K.moved hW.alike C.2.2.2.2.2.1, fun w hw => nw_warm (List.mem_filter.mp hw).2 hW (C.2.2.2.2.2.2.1 w hw), ⟨va_AO.moved hW.alike C.2.2.2.2.2.2.2.1.1, va_AO.moved hW.alike C.2.2.2.2.2.2.2.1.2⟩, ?_⟩
  exact C.2.2.2.2.2.2.2.2.1.go hW (fun q h1 h2 => by rw [hU]; exact hS.2.1 q h1 h2)
theorem nw_vm {w : Cond} {u U : State} (hi : isNw w = true) (h : u.vm = U.vm) (hw : va_Nw w u) : va_Nw w U := by
  cases w <;> first | exact va_tabs rfl h hw | cases hi
theorem PP_blind {G : GT} {σ : Hp} {As : List V} : FrameBlind (PP G σ As) := by
  rintro a U g mk ⟨h1, ⟨h2, h3, h4, h5⟩, h6⟩
  have hW : Vm.Alike U.vm (U.calling g mk a).vm := Vm.Alike.refl U.vm
  refine ⟨h1, ⟨va_K.moved (u := U) (U := U.calling g mk a) hW h2, fun w hw => nw_vm (u := U) (U := U.calling g mk a) (List.mem_filter.mp hw).2 rfl (h3 w hw), ⟨va_AO.moved (u := U) (U := U.calling g mk a) hW h4.1, va_AO.moved (u := U) (U := U.calling g mk a) hW h4.2⟩, ?_⟩, h6⟩
  obtain ⟨o1, o2, o3, o4, o5, o6, o7, o8⟩ := h5
  exact ⟨o1.moved (u := U) (U := U.calling g mk a) hW, o2, o3, o4, o5.moved (u := U) (U := U.calling g mk a) hW, vk_R.same (u := U) (U := U.calling g mk a) rfl o6, o7.moved (u := U) (U := U.calling g mk a) hW, o8.moved (u := U) (U := U.calling g mk a) hW⟩
theorem vs_ref {G : GT} (x : Nat) : vv G (vs x) = .null ∨ ∃ a, vv G (vs x) = .ref a := by
  match x with
  | 0 => exact Or.inr ⟨_, rfl⟩
  | 1 => exact Or.inr ⟨_, rfl⟩
  | 2 => exact Or.inr ⟨_, rfl⟩
  | x + 3 =>
    show va_rf (gf G) = .null ∨ ∃ a, va_rf (gf G) = .ref a
    cases gf G with
    | none => exact Or.inl rfl
    | some a => exact Or.inr ⟨a, rfl⟩
theorem met_of {G : GT} {δ mc ms n : Nat} {y : Md} {As : List V} {σ : Hp} {Q : V → Hp → Prop} (hM : MOK y n) (hδ : δ < 2000) (hok : ∀ v ∈ As, vOK v) (hl : (lsOf As).length ≤ mL y) (k : WP G (δ + 1) mc ms y 0 (entryL (mL y) As) [] σ Q) :
    Met (gl G) (mN y) (WS y) (rmOf δ mc ms) (PP G σ As) (QQ G Q) mc ms (AG G) := by
  refine Met.ofW (cc := mB y) (maxL := mL y) (ret := mR y) hM.2.2.1 rfl ?_
  intro p e s m args below meth c s₁ B hml hv
  obtain ⟨rfl, ⟨hK, hN, hA, hO⟩, hH⟩ := hv
  have hts := atoms_spec (ws := WS y) B.pre
  rw [lg_entry_eq]
  have C : CX G y p s m (As.map (vv G)).toArray meth c := ⟨B.exec, B.bytes, hml, by rw [← hM.2.2.2.1]; exact findClass_of_methodNamed B.named, fun w hw => hts w (List.mem_cons_of_mem _ hw), hK, hN, hA, hO, (name_of_methodNamed B.named B.method).1⟩
  have hr := B.returns
  refine k p e (headSpec (WS y) (rmOf δ mc ms)).room s m (As.map (vv G)).toArray below meth c s.heap [] 0 0 _ (MQ below (QQ G Q) (As.map (vv G)).toArray s mc ms (AG G)) C hH va_S.rf (entry_LsR hl hok) (fun v h => by cases h) (by show 0 + mc ≤ mc; omega) (by show 0 + ms ≤ ms; omega) (by show 2048 ≤ (2048 - (δ + 1)) + (δ + 1); omega) (by show 84000 ≤ (84000 - 40 * (δ + 1)) + 40 * (δ + 1); omega) ?_
  intro pcr v σ' H' locs' cells' slots' lsa' q hH' hS' hc' hs' hok' hd
  refine W.widen (k := mc) (n := ms) (by omega) (by omega) ?_
  rcases v with _ | x | x | x | x
  · exact W.vret C.exec C.bytes (by rw [hr]; exact hd.1) (fun t ht hW => ⟨⟨none, σ', rfl, q, by rw [ht]; exact hH', hok'⟩, hS'.F ht⟩) hS'.2.2 hd.2
  · obtain ⟨hd1, t0, h2, h3⟩ := hd
    exact W.zret C.exec C.bytes (by rw [hr]; exact h2) h3 (fun t ht hW => ⟨⟨_, σ', rfl, q, by rw [ht]; exact hH', hok'⟩, hS'.F ht⟩) hS'.2.2 hd1
  · exact W.lret C.exec C.bytes (by rw [hr]; exact hd.1) (fun t ht hW => ⟨⟨_, σ', rfl, q, by rw [ht]; exact hH', hok'⟩, hS'.F ht⟩) hS'.2.2 hd.2
  · obtain ⟨hd1, t0, h2, h3⟩ := hd
    exact W.aret C.exec C.bytes (by rw [hr]; exact h2) h3 (Or.inr ⟨_, rfl⟩) (fun t ht hW => ⟨⟨_, σ', rfl, q, by rw [ht]; exact hH', hok'⟩, hS'.F ht⟩) hS'.2.2 hd1
  · obtain ⟨hd1, t0, h2, h3⟩ := hd
    exact W.aret (v := vv G (vs x)) C.exec C.bytes (by rw [hr]; exact h2) h3 (vs_ref x) (fun t ht hW => ⟨⟨vs x, σ', rfl, q, by rw [ht]; exact hH', hok'⟩, hS'.F ht⟩) hS'.2.2 hd1
section CALL
variable {p : Program} {e : Env} {R : Room} {s : State} {m : MethodId} {args : Array Value} {below : List Frame} {meth : Method} {c : Code} {H : Heap} {locs : List Loc} {cells slots : Nat} {Qf : State → Prop} {G : GT}
theorem call_go {pc mc ms : Nat} {lsa : Array Slot} {rest st0 : List Value} {a : Array Value} {Q : V → Hp → Prop} (hr : va_Run p (gl G) e R s m args below meth c H locs cells slots mc ms (F0 m pc lsa st0) rest (QQ G Q a) (AG G)) (hS : va_S (AG G) s.heap H locs)
    (kk : ∀ (v : V) (σ' : Hp) (H1 : Heap) (locs1 : List Loc), Q v σ' → HR G σ' H1 → vOK v → va_S (AG G) s.heap H1 locs1 → W p (gl G) e R s m args below meth c H1 locs1 (cells + mc) (slots + ms) Qf (F0 m (pc + 3) lsa (rts G v ++ rest))) : W p (gl G) e R s m args below meth c H locs cells slots Qf (F0 m pc lsa st0) := by
  intro T hT X
  obtain ⟨v, st₀, t, T', L, h0, X', hL, e1, e2, ⟨⟨v', σ', hv, hq, hH, hok⟩, hz, hk⟩, st⟩ := hr T hT X
  cases hv
  rw [h0] at hz hk
  have hS1 : va_S (AG G) s.heap T'.heap (locs ++ L) := ⟨Nat.le_trans hS.1 (by rw [e1]; exact hz), fun q h1 h2 => by rw [e1, hk q (Nat.lt_of_lt_of_le h1 hS.1) h2]; exact hS.2.1 q h1 h2, fun q hq => by
      rcases List.mem_append.mp hq with h | h
      · exact hS.2.2 q h
      · exact hL q h⟩
  obtain ⟨t2, a1, b1⟩ := kk v' σ' T'.heap (locs ++ L) hq (by rw [e1]; exact hH) hok hS1 T' rfl X'
  rw [← vO_list] at a1
  exact ⟨t2, st t2 a1, b1⟩
end CALL
def catS (l : List V) : Nat := (l.map fun v => if isL v then 2 else 1).sum
theorem catS_le {G : GT} : ∀ l : List V, (((l.map (vv G)).map fun v => v.category).sum) = catS l
  | [] => rfl
  | v :: t => by
    have ih := catS_le (G := G) t
    unfold catS at ih ⊢
    simp only [List.map_cons, List.sum_cons]
    rw [ih]
    congr 1
    by_cases h : isL v = true
    · rw [if_pos h, cat_isL.mpr h]
    · rw [if_neg h]; exact nl_cat (by simpa using h)
def pushV (v : V) (rest : List V) : List V := match v with
  | none => rest
  | some x => some x :: rest
theorem push_map {G : GT} {v : V} {rest : List V} : rts G v ++ rest.map (vv G) = (pushV v rest).map (vv G) := by cases v <;> rfl
theorem push_ok {v : V} {rest : List V} (hv : vOK v) (hr : ∀ w ∈ rest, vOK w) : ∀ w ∈ pushV v rest, vOK w := by
  cases v with
  | none => exact hr
  | some x => exact ok_c hv hr
section CALLS
variable {G : GT} {δ mc ms mc1 ms1 n : Nat} {y y' : Md} {pc idx : Nat} {ls st : List V} {T : List Ty} {h hl : Nat → Int → Int} {r : Nat → Int → Nat} {σ : Hp} {Q : V → Hp → Prop} {As rest ls0 : List V}
theorem pay_LW {s : State} {args : Array Value} (hts : ∀ w ∈ LW, w.before args s = true) (hM : MOK y' n) : ∀ w ∈ WS y', ∀ (a' : Array Value) (U : State), s.WarmedH U.vm → w.before a' U = true := pay_in hts (WS_good hM)
theorem wp_callS (hd : decode (mB y) pc = .ok (.invokestatic idx, 3)) (hM : MOK y' n) (hl : Cond.methodLink (mO y) idx (mN y') ∈ LW ∨ Cond.methodLinkNest (mO y) idx (mN y') "LitByLosers" ∈ NW) (hs : Cond.static (mN y') ∈ LW) (hst : st = As.reverse ++ rest) (hn : As.length = n) (he : entryL (mL y') As = ls0) (hle : (lsOf As).length ≤ mL y') (hc : catS rest ≤ 8) (hδ : δ < 2000)
    (k : WP G (δ + 1) mc1 ms1 y' 0 ls0 [] σ (fun v σ' => WP G δ mc ms y (pc + 3) ls (pushV v rest) σ' Q)) : WP G δ (mc1 + mc) (ms1 + ms) y pc ls st σ Q :=
  fun p e R s m args below meth c H locs cells slots lsa Qf C hH hS hL hok hcs hss hf hlo hr => by
    subst hst he
    have hA : ∀ v ∈ As, vOK v := fun v hv => hok v (List.mem_append_left _ (List.mem_reverse.mpr hv))
    have hRest : ∀ v ∈ rest, vOK v := fun v hv => hok v (List.mem_append_right _ hv)
    have hts := C.2.2.2.2.1
    have hmt := met_of hM hδ hA hle k
    have hpre : PreS s H (PP G σ As) (As.map (vv G)) := ⟨PP_blind, fun U hU hW => ⟨rfl, FX.go C hS hU hW, by rw [hU]; exact hH⟩⟩
    have hstk : (As.reverse ++ rest).map (vv G) = (As.map (vv G)).reverse ++ rest.map (vv G) := by rw [List.map_append, List.map_reverse]
    have hlen : ∀ sig, parseMethodDescriptor (mN y').desc = some sig → n = sig.parameters.length := fun sig hsg => by
      have h2 := hM.2.2.2.2.2.2
      rw [hsg] at h2
      exact (Option.some.inj h2).symm
    have hcls := hM.2.2.2.1
    have hrun : va_Run p (gl G) e R s m args below meth c H locs cells slots mc1 ms1 (F0 m pc lsa ((As.reverse ++ rest).map (vv G))) (rest.map (vv G)) (QQ G (fun v σ' => WP G δ mc ms y (pc + 3) ls (pushV v rest) σ' Q) (As.map (vv G)).toArray) (AG G) := by
      rcases hl with hl | hl
      · exact va_runS (Ts := LW) (own := mO y) ⟨C.exec, C.bytes, C.2.2.1, C.2.2.2.1, hts⟩ hmt ⟨⟨rfl, rfl, by show 2048 - (δ + 1) + 1 ≤ R.frames; omega, by show 8 + (mL y' + 11) + (84000 - 40 * (δ + 1)) ≤ R.locals; have := hM.2.2.2.2.1; omega, pay_LW hts hM, List.mem_cons_self, hts _ hM.1, by rw [hcls]; exact hts _ hM.2.1, by rw [hcls]; exact hM.2.2.2.2.2.1, hlen, hts _ hl⟩, hts _ hs⟩ hpre rfl (by rw [List.length_map]; exact hn) hL.1.1 hstk (lv_room (by rw [catS_le]; exact hc)) hd ⟨by omega, by omega⟩
      · exact va_runSN (Ts := LW) (own := mO y) ⟨C.exec, C.bytes, C.2.2.1, C.2.2.2.1, hts⟩ hmt ⟨⟨⟨rfl, rfl, by show 2048 - (δ + 1) + 1 ≤ R.frames; omega, by show 8 + (mL y' + 11) + (84000 - 40 * (δ + 1)) ≤ R.locals; have := hM.2.2.2.2.1; omega, pay_LW hts hM, List.mem_cons_self⟩, hts _ hM.1, by rw [hcls]; exact hts _ hM.2.1, by rw [hcls]; exact hM.2.2.2.2.2.1, hlen, va_Nw.use rfl (C.2.2.2.2.2.2.1 _ hl)⟩, hts _ hs, trivial⟩ hpre rfl (by rw [List.length_map]; exact hn) hL.1.1 hstk (lv_room (by rw [catS_le]; exact hc)) hd ⟨by omega, by omega⟩
    refine call_go hrun hS fun v σ' H1 locs1 q hH1 hv hS1 => ?_
    rw [push_map]
    exact q p e R s m args below meth c H1 locs1 (cells + mc1) (slots + ms1) lsa Qf C hH1 hS1 hL (push_ok hv hRest) (by omega) (by omega) hf hlo (fun pcr v σ' H' locs' cells' slots' lsa' a1 a2 a3 a4 a5 => hr pcr v σ' H' locs' cells' slots' lsa' a1 a2 a3 (by omega) (by omega))
theorem wp_callV {o ci : Nat} (hd : decode (mB y) pc = .ok (.invokevirtual idx, 3)) (hM : MOK y' n) (hl : Cond.methodLink (mO y) idx (mN y') ∈ LW ∨ Cond.methodLinkNest (mO y) idx (mN y') "LitByLosers" ∈ NW) (hs : Cond.instanceMethod (mN y') ∈ LW ∧ Cond.selects (mO y') (mN y') (mN y') ∈ LW) (ht : ty σ.1 o = some (.inl ci)) (hci : ci < 10) (hcn : (cq ci).1 = mO y') (hst : st = As.reverse ++ vr o :: rest) (hn : As.length = n) (he : entryL (mL y') (vr o :: As) = ls0) (hle : (lsOf (vr o :: As)).length ≤ mL y') (hc : catS rest ≤ 8) (hδ : δ < 2000)
    (k : WP G (δ + 1) mc1 ms1 y' 0 ls0 [] σ (fun v σ' => WP G δ mc ms y (pc + 3) ls (pushV v rest) σ' Q)) : WP G δ (mc1 + mc) (ms1 + ms) y pc ls st σ Q :=
  fun p e R s m args below meth c H locs cells slots lsa Qf C hH hS hL hok hcs hss hf hlo hr => by
    subst hst he
    have hA : ∀ v ∈ vr o :: As, vOK v := ok_c trivial fun v hv => hok v (List.mem_append_left _ (List.mem_reverse.mpr hv))
    have hRest : ∀ v ∈ rest, vOK v := fun v hv => hok v (List.mem_append_right _ (List.mem_cons_of_mem _ hv))
    have hts := C.2.2.2.2.1
    have hmt := met_of hM hδ hA hle k
    obtain ⟨q1, q2, q3, q4, q5⟩ := CQ_ok ci hci
    have hrec := va_recv C.2.2.2.2.2.1 hH.2.1 q2 (Wd_at ht)
    rw [hcn] at hrec
    have hpre : PreV s H (mO y') (gB G + o) (PP G σ (vr o :: As)) (As.map (vv G)) := ⟨PP_blind, hrec, fun U hU hW => ⟨rfl, FX.go C hS hU hW, by rw [hU]; exact hH⟩⟩
    have hstk : (As.reverse ++ vr o :: rest).map (vv G) = (As.map (vv G)).reverse ++ .ref (gB G + o) :: rest.map (vv G) := by rw [List.map_append, List.map_reverse]; rfl
    have hlen : ∀ sig, parseMethodDescriptor (mN y').desc = some sig → n = sig.parameters.length := fun sig hsg => by
      have h2 := hM.2.2.2.2.2.2
      rw [hsg] at h2
      exact (Option.some.inj h2).symm
    have hcls := hM.2.2.2.1
    have hrun : va_Run p (gl G) e R s m args below meth c H locs cells slots mc1 ms1 (F0 m pc lsa ((As.reverse ++ vr o :: rest).map (vv G))) (rest.map (vv G)) (QQ G (fun v σ' => WP G δ mc ms y (pc + 3) ls (pushV v rest) σ' Q) (Value.ref (gB G + o) :: As.map (vv G)).toArray) (AG G) := by
      rcases hl with hl | hl
      · exact va_runV (Ts := LW) (own := mO y) (C := mO y') ⟨C.exec, C.bytes, C.2.2.1, C.2.2.2.1, hts⟩ hmt ⟨⟨rfl, rfl, by show 2048 - (δ + 1) + 1 ≤ R.frames; omega, by show 8 + (mL y' + 11) + (84000 - 40 * (δ + 1)) ≤ R.locals; have := hM.2.2.2.2.1; omega, pay_LW hts hM, List.mem_cons_self, hts _ hM.1, by rw [hcls]; exact hts _ hM.2.1, by rw [hcls]; exact hM.2.2.2.2.2.1, hlen, hts _ hl⟩, hts _ hs.1, hts _ hs.2⟩ hpre rfl (by rw [List.length_map]; exact hn) hL.1.1 hstk (lv_room (by rw [catS_le]; exact hc)) hd ⟨by omega, by omega⟩
      · exact va_runVN (Ts := LW) (own := mO y) (C := mO y') ⟨C.exec, C.bytes, C.2.2.1, C.2.2.2.1, hts⟩ hmt ⟨⟨⟨rfl, rfl, by show 2048 - (δ + 1) + 1 ≤ R.frames; omega, by show 8 + (mL y' + 11) + (84000 - 40 * (δ + 1)) ≤ R.locals; have := hM.2.2.2.2.1; omega, pay_LW hts hM, List.mem_cons_self⟩, hts _ hM.1, by rw [hcls]; exact hts _ hM.2.1, by rw [hcls]; exact hM.2.2.2.2.2.1, hlen, va_Nw.use rfl (C.2.2.2.2.2.2.1 _ hl)⟩, hts _ hs.1, hts _ hs.2⟩ hpre rfl (by rw [List.length_map]; exact hn) hL.1.1 hstk (lv_room (by rw [catS_le]; exact hc)) hd ⟨by omega, by omega⟩
    refine call_go hrun hS fun v σ' H1 locs1 q hH1 hv hS1 => ?_
    rw [push_map]
    exact q p e R s m args below meth c H1 locs1 (cells + mc1) (slots + ms1) lsa Qf C hH1 hS1 hL (push_ok hv hRest) (by omega) (by omega) hf hlo (fun pcr v σ' H' locs' cells' slots' lsa' a1 a2 a3 a4 a5 => hr pcr v σ' H' locs' cells' slots' lsa' a1 a2 a3 (by omega) (by omega))
theorem wp_callI {o : Nat} (hd : decode (mB y) pc = .ok (.invokespecial idx, 3)) (hM : MOK y' n) (hl : Cond.methodLink (mO y) idx (mN y') ∈ LW ∨ Cond.methodLinkNest (mO y) idx (mN y') "LitByLosers" ∈ NW) (hs : Cond.instanceMethod (mN y') ∈ LW) (hnm : (mN y').name = "<init>") (hR : mR y' = none) (hst : st = As.reverse ++ vr o :: rest) (hn : As.length = n) (he : entryL (mL y') (vr o :: As) = ls0) (hle : (lsOf (vr o :: As)).length ≤ mL y') (hc : catS rest ≤ 8) (hδ : δ < 2000)
    (k : WP G (δ + 1) mc1 ms1 y' 0 ls0 [] σ (fun v σ' => WP G δ mc ms y (pc + 3) ls (pushV v rest) σ' Q)) : WP G δ (mc1 + mc) (ms1 + ms) y pc ls st σ Q :=
  fun p e R s m args below meth c H locs cells slots lsa Qf C hH hS hL hok hcs hss hf hlo hr => by
    subst hst he
    have hA : ∀ v ∈ vr o :: As, vOK v := ok_c trivial fun v hv => hok v (List.mem_append_left _ (List.mem_reverse.mpr hv))
    have hRest : ∀ v ∈ rest, vOK v := fun v hv => hok v (List.mem_append_right _ (List.mem_cons_of_mem _ hv))
    have hts := C.2.2.2.2.1
    have hmt := met_of hM hδ hA hle k
    have hpre : PreS s H (PP G σ (vr o :: As)) (.ref (gB G + o) :: As.map (vv G)) := ⟨PP_blind, fun U hU hW => ⟨rfl, FX.go C hS hU hW, by rw [hU]; exact hH⟩⟩
    have hstk : (As.reverse ++ vr o :: rest).map (vv G) = (As.map (vv G)).reverse ++ .ref (gB G + o) :: rest.map (vv G) := by rw [List.map_append, List.map_reverse]; rfl
    have hlen : ∀ sig, parseMethodDescriptor (mN y').desc = some sig → n = sig.parameters.length := fun sig hsg => by
      have h2 := hM.2.2.2.2.2.2
      rw [hsg] at h2
      exact (Option.some.inj h2).symm
    have hcls := hM.2.2.2.1
    have hrun : va_Run p (gl G) e R s m args below meth c H locs cells slots mc1 ms1 (F0 m pc lsa ((As.reverse ++ vr o :: rest).map (vv G))) (rest.map (vv G)) (QQ G (fun v σ' => WP G δ mc ms y (pc + 3) ls (pushV v rest) σ' Q) (Value.ref (gB G + o) :: As.map (vv G)).toArray) (AG G) := by
      have hpl := pay_LW hts hM
      have hcw : Cond.code (mN y') (mB y') (mL y') (mR y') ∈ WS y' := List.mem_cons_self
      have hcb := hts _ hM.1
      rw [hR] at hcw hcb
      rcases hl with hl | hl
      · exact va_runI (Ts := LW) (own := mO y) ⟨C.exec, C.bytes, C.2.2.1, C.2.2.2.1, hts⟩ hmt ⟨⟨rfl, rfl, by show 2048 - (δ + 1) + 1 ≤ R.frames; omega, by show 8 + (mL y' + 11) + (84000 - 40 * (δ + 1)) ≤ R.locals; have := hM.2.2.2.2.1; omega, hpl, hcw, hcb, by rw [hcls]; exact hts _ hM.2.1, by rw [hcls]; exact hM.2.2.2.2.2.1, hlen, hts _ hl⟩, hnm, hts _ hs⟩ hpre rfl (by rw [List.length_map]; exact hn) hL.1.1 hstk (lv_room (by rw [catS_le]; exact hc)) hd ⟨by omega, by omega⟩
      · exact va_runIN (Ts := LW) (own := mO y) ⟨C.exec, C.bytes, C.2.2.1, C.2.2.2.1, hts⟩ hmt ⟨⟨⟨rfl, rfl, by show 2048 - (δ + 1) + 1 ≤ R.frames; omega, by show 8 + (mL y' + 11) + (84000 - 40 * (δ + 1)) ≤ R.locals; have := hM.2.2.2.2.1; omega, hpl, hcw⟩, hcb, by rw [hcls]; exact hts _ hM.2.1, by rw [hcls]; exact hM.2.2.2.2.2.1, hlen, va_Nw.use rfl (C.2.2.2.2.2.2.1 _ hl)⟩, hnm, hts _ hs⟩ hpre rfl (by rw [List.length_map]; exact hn) hL.1.1 hstk (lv_room (by rw [catS_le]; exact hc)) hd ⟨by omega, by omega⟩
    refine call_go hrun hS fun v σ' H1 locs1 q hH1 hv hS1 => ?_
    rw [push_map]
    exact q p e R s m args below meth c H1 locs1 (cells + mc1) (slots + ms1) lsa Qf C hH1 hS1 hL (push_ok hv hRest) (by omega) (by omega) hf hlo (fun pcr v σ' H' locs' cells' slots' lsa' a1 a2 a3 a4 a5 => hr pcr v σ' H' locs' cells' slots' lsa' a1 a2 a3 (by omega) (by omega))
end CALLS
