theorem ty_pos {T : List Ty} {o : Nat} {t : Ty} (h : ty T o = some t) : 0 < o ∧ T[o - 1]? = some t := by
  cases o with
  | zero => cases h
  | succ o => exact ⟨Nat.succ_pos o, h⟩
theorem Wd_get {G : GT} {σ : Hp} {i : Nat} {q : Nat × va_E} : (Wd G σ)[i]? = some q ↔ ∃ t, σ.1[i]? = some t ∧ q = (gB G + (i + 1), cellOf G σ (i + 1) t) := by
  unfold Wd
  rw [List.getElem?_mapIdx]
  cases h : σ.1[i]? with
  | none => simp
  | some t => simp [eq_comm]
theorem Wd_at {G : GT} {σ : Hp} {o : Nat} {t : Ty} (h : ty σ.1 o = some t) : (Wd G σ)[o - 1]? = some (gB G + o, cellOf G σ o t) := by
  obtain ⟨h0, h1⟩ := ty_pos h
  have e : o - 1 + 1 = o := by omega
  exact Wd_get.mpr ⟨t, h1, by rw [e]⟩
theorem Wd_D {G : GT} {σ : Hp} : va_D (AG G) (Wd G σ) := by
  refine ⟨fun i j p q hi hj e => ?_, fun k q hk => ?_⟩
  · obtain ⟨t, -, rfl⟩ := Wd_get.mp hi
    obtain ⟨t', -, rfl⟩ := Wd_get.mp hj
    dsimp only at e
    omega
  · obtain ⟨t, -, rfl⟩ := Wd_get.mp hk
    show gB G < gB G + (k + 1)
    omega
def eqOff (σ σ' : Hp) (o : Nat) : Prop := σ'.1 = σ.1 ∧ ∀ q : Nat, q ≠ o → ∀ k : Int, σ'.2.1 q k = σ.2.1 q k ∧ σ'.2.2.1 q k = σ.2.2.1 q k ∧ σ'.2.2.2 q k = σ.2.2.2 q k
theorem cell_congr {G : GT} {σ σ' : Hp} {o : Nat} (h : ∀ k : Int, σ'.2.1 o k = σ.2.1 o k ∧ σ'.2.2.1 o k = σ.2.2.1 o k ∧ σ'.2.2.2 o k = σ.2.2.2 o k) (t : Ty) : cellOf G σ' o t = cellOf G σ o t := by
  have h1 : ∀ k, σ'.2.1 o k = σ.2.1 o k := fun k => (h k).1
  have h2 : ∀ k, σ'.2.2.1 o k = σ.2.2.1 o k := fun k => (h k).2.1
  have h3 : ∀ k, σ'.2.2.2 o k = σ.2.2.2 o k := fun k => (h k).2.2
  cases t with
  | inl ci => simp only [cellOf, fv, h1, h2, h3]
  | inr a => simp only [cellOf, arrOf, h1, h2, h3]
theorem Wd_set {G : GT} {σ σ' : Hp} {o : Nat} {t : Ty} (e : eqOff σ σ' o) (h : ty σ.1 o = some t) : Wd G σ' = (Wd G σ).set (o - 1) (gB G + o, cellOf G σ' o t) := by
  obtain ⟨h0, h1⟩ := ty_pos h
  apply List.ext_getElem?
  intro i
  by_cases hi : i = o - 1
  · subst hi
    have hl : o - 1 < (Wd G σ).length := (List.getElem?_eq_some_iff.mp (Wd_at (G := G) h)).1
    rw [List.getElem?_set_self hl, Wd_at (t := t) (by rw [e.1]; exact h)]
  · rw [List.getElem?_set_ne (fun z => hi z.symm)]
    cases hT : σ.1[i]? with
    | none =>
      have n1 : (Wd G σ)[i]? = none := by unfold Wd; rw [List.getElem?_mapIdx, hT]; rfl
      have n2 : (Wd G σ')[i]? = none := by unfold Wd; rw [List.getElem?_mapIdx, e.1, hT]; rfl
      rw [n1, n2]
    | some t' =>
      rw [Wd_get.mpr ⟨t', hT, rfl⟩, Wd_get.mpr ⟨t', (by rw [e.1]; exact hT), rfl⟩, cell_congr (e.2 (i + 1) (by omega))]
def up {α : Type} (h : Nat → Int → α) (o : Nat) (k : Int) (x : α) : Nat → Int → α := fun q j => if q = o ∧ j = k then x else h q j
theorem up_s {α : Type} {h : Nat → Int → α} {o : Nat} {k : Int} {x : α} : up h o k x o k = x := by simp [up]
theorem up_o {α : Type} {h : Nat → Int → α} {o q : Nat} {k j : Int} {x : α} (e : q ≠ o) : up h o k x q j = h q j := by simp [up, e]
theorem up_k {α : Type} {h : Nat → Int → α} {o q : Nat} {k j : Int} {x : α} (e : j ≠ k) : up h o k x q j = h q j := by simp [up, e]
theorem up_R {h : Nat → Int → Int} {P : Int → Prop} {o : Nat} {k x : Int} (hh : ∀ o k, P (h o k)) (hx : P x) : ∀ q j, P (up h o k x q j) := by
  intro q j
  unfold up
  split
  · exact hx
  · exact hh q j
theorem map_set {f f' : Nat → Value} {n k : Nat} {v : Value} (hk : f' k = v) (ho : ∀ j, j ≠ k → f' j = f j) : (List.range n).map f' = ((List.range n).map f).set k v := by
  apply List.ext_getElem?
  intro i
  by_cases hi : i = k
  · subst hi
    by_cases hn : i < n
    · rw [List.getElem?_set_self (by simp [hn])]
      simp [hn, hk]
    · rw [List.getElem?_eq_none (by simp; omega), List.getElem?_eq_none (by simp; omega)]
  · rw [List.getElem?_set_ne (fun z => hi z.symm)]
    by_cases hn : i < n
    · simp [hn, ho i hi]
    · rw [List.getElem?_eq_none (by simp; omega), List.getElem?_eq_none (by simp; omega)]
theorem cq_1 (ci : Nat) : ∀ k, ((cq ci).2.1 k).1 = (cq ci).1 := by
  intro k
  unfold cq
  split <;> (first | (simp only [TX0, RX0]; split <;> rfl) | (simp only [TX1, RX1]; split <;> rfl) | (simp only [TX2, RX2]; split <;> rfl) | (simp only [TX3, RX3]; split <;> rfl) | (simp only [TX4, RX4]; split <;> rfl) | (simp only [TX5, RX5]; split <;> rfl) | (simp only [TX6, RX6]; split <;> rfl) | (simp only [TX7, RX7]; split <;> rfl) | (simp only [TX8, RX8]; split <;> rfl) | (simp only [TX9, RX9]; split <;> rfl))
theorem HR_put {G : GT} {σ σ' : Hp} {o : Nat} {t : Ty} {H H1 : Heap} (hH : HR G σ H) (e : eqOff σ σ' o) (ht : ty σ.1 o = some t) (hc : va_at (gD G) CL (gB G + o, cellOf G σ' o t) H1) (z : H1.size = H.size) (off : ∀ q : Nat, q ≠ gB G + o → H1[q]? = H[q]?) (hR : ∀ o k, R32 (σ'.2.1 o k)) (hR6 : ∀ o k, R64 (σ'.2.2.1 o k)) : HR G σ' H1 := by
  refine ⟨by rw [z, e.1]; exact hH.1, ?_, hR, hR6⟩
  rw [Wd_set e ht]
  exact hH.2.1.set Wd_D (Wd_at ht) hc off
section HEAP
variable {G : GT} {δ mc ms : Nat} {y : Md} {pc : Nat} {ls st : List V} {T : List Ty} {h hl : Nat → Int → Int} {r : Nat → Int → Nat} {Q : V → Hp → Prop}
theorem wp_getv {ci k idx o : Nat} (v : V) (hd : decode (mB y) pc = .ok (.getfield idx, 3)) (hk : FLK (mO y) idx ci k) (hci : ci < 10) (hkn : k < cN ci) (ht : ty T o = some (.inl ci)) (hv : vv G v = fv G (fkOf (ctys ci k)) (T, h, hl, r) o k) (hok : (∀ o k, R32 (h o k)) → (∀ o k, R64 (hl o k)) → vOK v)
    (kk : WP G δ mc ms y (pc + 3) ls (v :: st) (T, h, hl, r) Q) : WP G δ mc ms y pc ls (vr o :: st) (T, h, hl, r) Q :=
  fun p e R s m args below meth c H locs cells slots lsa Qf C hH hS hL hst hc hs hf hlo hr => by
    obtain ⟨q1, q2, q3, q4, q5⟩ := CQ_ok ci hci
    have hP := hH.2.1
    have e1 := Wd_at (G := G) (σ := (T, h, hl, r)) ht
    have hget : ((List.range (cN ci)).map (fun k => fv G (fkOf (ctys ci k)) (T, h, hl, r) o k))[k]? = some (vv G v) := by simp [hkn, hv]
    have w := kk p e R s m args below meth c H locs cells slots lsa Qf C hH hS hL (ok_c (hok hH.2.2.1 hH.2.2.2) (ok_t hst)) hc hs hf hlo hr
    rcases hk with hk | hk
    · exact va_get C.exec C.bytes (C.2.2.2.2.1) q1 C.2.2.2.1 C.2.2.2.2.2.1 hP (o - 1) e1 q2 k (by rw [q3]; exact hkn) (C.2.2.2.2.1 _ hk) (fun x hx => by rw [cq_1] at hx; exact hx) hget hd w
    · exact va_getN C.exec C.bytes (C.2.2.2.2.1) q1 C.2.2.2.1 C.2.2.2.2.2.1 hP (o - 1) e1 q2 k (by rw [q3]; exact hkn) (va_Nw.use rfl (C.2.2.2.2.2.2.1 _ hk)) (fun x hx => by rw [cq_1] at hx; exact hx) hget hd w
theorem wp_getI {ci k idx o : Nat} (hd : decode (mB y) pc = .ok (.getfield idx, 3)) (hk : FLK (mO y) idx ci k) (hci : ci < 10) (hkn : k < cN ci) (ht : ty T o = some (.inl ci)) (hkd : fkOf (ctys ci k) ≠ 1 ∧ fkOf (ctys ci k) ≠ 2)
    (kk : WP G δ mc ms y (pc + 3) ls (vi (h o k) :: st) (T, h, hl, r) Q) : WP G δ mc ms y pc ls (vr o :: st) (T, h, hl, r) Q :=
  wp_getv (vi (h o k)) hd hk hci hkn ht (by unfold fv; rw [if_neg hkd.1, if_neg hkd.2]; rfl) (fun q _ => q _ _) kk
theorem wp_getL {ci k idx o : Nat} (hd : decode (mB y) pc = .ok (.getfield idx, 3)) (hk : FLK (mO y) idx ci k) (hci : ci < 10) (hkn : k < cN ci) (ht : ty T o = some (.inl ci)) (hkd : fkOf (ctys ci k) = 1)
    (kk : WP G δ mc ms y (pc + 3) ls (vl (hl o k) :: st) (T, h, hl, r) Q) : WP G δ mc ms y pc ls (vr o :: st) (T, h, hl, r) Q :=
  wp_getv (vl (hl o k)) hd hk hci hkn ht (by unfold fv; rw [if_pos hkd]; rfl) (fun _ q => q _ _) kk
theorem wp_getR {ci k idx o : Nat} (q : Nat) (hd : decode (mB y) pc = .ok (.getfield idx, 3)) (hk : FLK (mO y) idx ci k) (hci : ci < 10) (hkn : k < cN ci) (ht : ty T o = some (.inl ci)) (hkd : fkOf (ctys ci k) = 2) (hq : r o k = q) (h0 : q ≠ 0)
    (kk : WP G δ mc ms y (pc + 3) ls (vr q :: st) (T, h, hl, r) Q) : WP G δ mc ms y pc ls (vr o :: st) (T, h, hl, r) Q :=
  wp_getv (vr q) hd hk hci hkn ht (by unfold fv; rw [hkd, if_neg (by decide), if_pos rfl]; dsimp only; simp only [hq]; rw [if_neg h0]; rfl) (fun _ _ => trivial) kk
theorem wp_putv {ci k idx o : Nat} {h' hl' : Nat → Int → Int} {r' : Nat → Int → Nat} (v : V) (hd : decode (mB y) pc = .ok (.putfield idx, 3)) (hk : FLK (mO y) idx ci k) (hci : ci < 10) (hkn : k < cN ci) (ht : ty T o = some (.inl ci))
    (hfin : ((cq ci).2.1 k).2.2.2 = false ∨ (Cond.fieldLink (mO y) idx (cq ci).1 ((cq ci).2.1 k).2.1 ((cq ci).2.1 k).2.2.1 ∈ LW ∧ ((cq ci).2.1 k).2.2.2 = true ∧ (mN y).name = "<init>" ∧ (cq ci).1 = mO y)) (hna : narrow (ctys ci k) (vv G v) = vv G v) (hfi : fits (ctys ci k) (vv G v) = true)
    (ho : eqOff (T, h, hl, r) (T, h', hl', r') o) (hv : fv G (fkOf (ctys ci k)) (T, h', hl', r') o k = vv G v) (hj : ∀ j : Nat, j ≠ k → ∀ kd, fv G kd (T, h', hl', r') o j = fv G kd (T, h, hl, r) o j) (hR : (∀ o k, R32 (h o k)) → vOK v → ∀ o k, R32 (h' o k)) (hR6 : (∀ o k, R64 (hl o k)) → vOK v → ∀ o k, R64 (hl' o k))
    (kk : WP G δ mc ms y (pc + 3) ls st (T, h', hl', r') Q) : WP G δ mc ms y pc ls (v :: vr o :: st) (T, h, hl, r) Q :=
  fun p e R s m args below meth c H locs cells slots lsa Qf C hH hS hL hst hc hs hf hlo hr => by
    obtain ⟨q1, q2, q3, q4, q5⟩ := CQ_ok ci hci
    have hP := hH.2.1
    have e1 := Wd_at (G := G) (σ := (T, h, hl, r)) ht
    have hts := C.2.2.2.2.1
    have hown := C.2.2.2.1
    have hK := C.2.2.2.2.2.1
    obtain ⟨rc, g1, cell, g2, g3, g4, g5⟩ := hP (o - 1) _ e1
    obtain rfl : rc = cq ci := Option.some.inj (g1.symm.trans q2)
    obtain ⟨hSl, hfc, kC, hkC, hkind⟩ := hK.1 ci _ q2
    have hkn' : k < (cq ci).2.2 := by rw [q3]; exact hkn
    obtain ⟨cf, kf, fi, f, hi, hsl⟩ := hSl k hkn'
    have hlay := hts _ (q1 _ (u_in_lay hkn'))
    have hst2 := (u_facts hfc hkC (u_lays hts q1 hkn') hi).1
    have hap := va_apart (own := mO y) hts q1 (ctys ci) (fun k hk => q4 k (by rw [← q3]; exact hk)) (fun a ha b hb => q5 a (by rw [← q3]; exact ha) b (by rw [← q3]; exact hb)) hK q2
    have hlen : k < ((List.range (cN ci)).map (fun k => fv G (fkOf (ctys ci k)) (T, h, hl, r) o k)).length := by simp [hkn]
    have hdp := q4 k hkn
    have hi' : s.fieldFound? (cq ci).1 ((cq ci).2.1 k).2.1 ((cq ci).2.1 k).2.2.1 = some (cf, kf, fi, f) := by rw [cq_1] at hi; exact hi
    have go : ∀ H' : Heap, H'[gB G + o]? = some (cell.setSlot f.slot (vv G v)) → H'.size = H.size → (∀ q : Nat, q ≠ gB G + o → H'[q]? = H[q]?) → W p (gl G) e R s m args below meth c H' (locs ++ [⟨gB G + o, f.slot⟩]) cells slots Qf (F0 m (pc + 3) lsa (st.map (vv G))) := fun H' e2 e3 e4 => by
      rw [hsl] at e2
      refine kk p e R s m args below meth c H' _ cells slots lsa Qf C (HR_put hH ho ht ?_ e3 e4 (hR hH.2.2.1 (ok_h hst)) (hR6 hH.2.2.2 (ok_h hst))) (hS.put e3 e4 (show gB G < gB G + o by have := (ty_pos ht).1; omega)) hL (ok_t (ok_t hst)) hc hs hf hlo hr
      refine ⟨cq ci, q2, t_OB.to (V := updV (vp_V ((List.range (cN ci)).map (fun k => fv G (fkOf (ctys ci k)) (T, h, hl, r) o k))) k (vv G v)) ⟨_, e2, g3, g4, t_set g5 hap hkn' (vv G v)⟩ (fun j _ => ?_)⟩
      rw [vp_updV_set hlen]
      have := map_set (n := cN ci) (k := k) (f' := fun k => fv G (fkOf (ctys ci k)) (T, h', hl', r') o k) (f := fun k => fv G (fkOf (ctys ci k)) (T, h, hl, r) o k) hv (fun j e => hj j e _)
      rw [← this]
    unfold u_lay at hlay
    rcases hfin with hfin | ⟨hk, hfin, hin2, hdecl⟩
    · rw [if_neg (by rw [hfin]; decide)] at hlay
      have h6 := u_store hfc hkC hkind hlay hi hdp hna hfi
      rcases hk with hk | hk
      · exact W.putK C.exec C.bytes (f := f) ⟨hown, hts _ hk, ⟨_, _, _, hi'⟩, hst2⟩ (by rw [g3]; exact h6) g2 g4 (by rw [hsl]; exact k2_hasslot (g5 k hkn')) rfl rfl hd go
      · exact va_WputK C.exec C.bytes (f := f) hown (va_Nw.use rfl (C.2.2.2.2.2.2.1 _ hk)) hi' hst2 (by rw [g3]; exact h6) g2 g4 (by rw [hsl]; exact k2_hasslot (g5 k hkn')) rfl rfl hd go
    · rw [if_pos hfin] at hlay
      have hcf : m.cls = cf := by
        obtain ⟨_, _, c', _, _, _, -, -, hf', -, -, -, hown2, -⟩ := Cond.laysFinal_spec hlay
        have e1 : c' = cf := by have := hi.symm.trans hf'; simp at this; exact this.1.symm
        rw [cq_1, hdecl] at hown2
        rw [← e1]; exact Option.some.inj (hown.symm.trans hown2)
      have h6 := u_fits hfc hkC hkind (Or.inr hlay) hi hdp hna hfi
      exact W.putFinK C.exec C.bytes hown (hts _ hk) hi' hst2 hcf (C.2.2.2.2.2.2.2.2.2.trans hin2) (by rw [g3]; exact h6) g2 g4 (by rw [hsl]; exact k2_hasslot (g5 k hkn')) rfl rfl hd go
theorem eqOff_h {o : Nat} {k x : Int} : eqOff (T, h, hl, r) (T, up h o k x, hl, r) o := ⟨rfl, fun q hq j => ⟨up_o hq, rfl, rfl⟩⟩
theorem eqOff_l {o : Nat} {k x : Int} : eqOff (T, h, hl, r) (T, h, up hl o k x, r) o := ⟨rfl, fun q hq j => ⟨rfl, up_o hq, rfl⟩⟩
theorem eqOff_r {o x : Nat} {k : Int} : eqOff (T, h, hl, r) (T, h, hl, up r o k x) o := ⟨rfl, fun q hq j => ⟨rfl, rfl, up_o hq⟩⟩
theorem ncast {j k : Nat} (e : j ≠ k) : (j : Int) ≠ (k : Int) := fun z => e (Int.ofNat.inj z)
theorem wp_putI {ci k idx o : Nat} {x : Int} (hd : decode (mB y) pc = .ok (.putfield idx, 3)) (hk : FLK (mO y) idx ci k) (hci : ci < 10) (hkn : k < cN ci) (ht : ty T o = some (.inl ci)) (hfin : ((cq ci).2.1 k).2.2.2 = false) (hkd : ctys ci k = .int)
    (kk : WP G δ mc ms y (pc + 3) ls st (T, up h o k x, hl, r) Q) : WP G δ mc ms y pc ls (vi x :: vr o :: st) (T, h, hl, r) Q :=
  wp_putv (vi x) hd hk hci hkn ht (Or.inl hfin) (by rw [hkd]; rfl) (by rw [hkd]; rfl) eqOff_h (by rw [hkd]; show Value.int (Int32.ofInt (up h o k x o k)) = _; rw [up_s]; rfl) (fun j e kd => by unfold fv; simp only [up_k (ncast e)]) (fun a b => up_R a b) (fun a _ => a) kk
theorem wp_putZ {ci k idx o : Nat} {x : Int} (hd : decode (mB y) pc = .ok (.putfield idx, 3)) (hk : FLK (mO y) idx ci k) (hci : ci < 10) (hkn : k < cN ci) (ht : ty T o = some (.inl ci)) (hfin : ((cq ci).2.1 k).2.2.2 = false) (hkd : ctys ci k = .boolean) (hx : x = 0 ∨ x = 1)
    (kk : WP G δ mc ms y (pc + 3) ls st (T, up h o k x, hl, r) Q) : WP G δ mc ms y pc ls (vi x :: vr o :: st) (T, h, hl, r) Q :=
  wp_putv (vi x) hd hk hci hkn ht (Or.inl hfin) (by rw [hkd]; rcases hx with rfl | rfl <;> rfl) (by rw [hkd]; rcases hx with rfl | rfl <;> rfl) eqOff_h (by rw [hkd]; show Value.int (Int32.ofInt (up h o k x o k)) = _; rw [up_s]; rfl) (fun j e kd => by unfold fv; simp only [up_k (ncast e)]) (fun a b => up_R a b) (fun a _ => a) kk
theorem wp_putL {ci k idx o : Nat} {x : Int} (hd : decode (mB y) pc = .ok (.putfield idx, 3)) (hk : FLK (mO y) idx ci k) (hci : ci < 10) (hkn : k < cN ci) (ht : ty T o = some (.inl ci)) (hfin : ((cq ci).2.1 k).2.2.2 = false) (hkd : ctys ci k = .long)
    (kk : WP G δ mc ms y (pc + 3) ls st (T, h, up hl o k x, r) Q) : WP G δ mc ms y pc ls (vl x :: vr o :: st) (T, h, hl, r) Q :=
  wp_putv (vl x) hd hk hci hkn ht (Or.inl hfin) (by rw [hkd]; rfl) (by rw [hkd]; rfl) eqOff_l (by rw [hkd]; show Value.long (Int64.ofInt (up hl o k x o k)) = _; rw [up_s]; rfl) (fun j e kd => by unfold fv; simp only [up_k (ncast e)]) (fun a _ => a) (fun a b => up_R a b) kk
theorem fk_ref {t : FieldType} (h : (∃ n, t = .object n) ∨ ∃ u, t = .array u) : fkOf t = 2 ∧ ∀ a, narrow t (.ref a) = .ref a ∧ fits t (.ref a) = true := by
  rcases h with ⟨n, rfl⟩ | ⟨u, rfl⟩ <;> exact ⟨rfl, fun a => ⟨rfl, rfl⟩⟩
theorem wp_putR {ci k idx o x : Nat} (hd : decode (mB y) pc = .ok (.putfield idx, 3)) (hk : FLK (mO y) idx ci k) (hci : ci < 10) (hkn : k < cN ci) (ht : ty T o = some (.inl ci)) (hfin : ((cq ci).2.1 k).2.2.2 = false ∨ (Cond.fieldLink (mO y) idx (cq ci).1 ((cq ci).2.1 k).2.1 ((cq ci).2.1 k).2.2.1 ∈ LW ∧ ((cq ci).2.1 k).2.2.2 = true ∧ (mN y).name = "<init>" ∧ (cq ci).1 = mO y)) (hkd : (∃ n, ctys ci k = .object n) ∨ ∃ u, ctys ci k = .array u) (h0 : x ≠ 0)
    (kk : WP G δ mc ms y (pc + 3) ls st (T, h, hl, up r o k x) Q) : WP G δ mc ms y pc ls (vr x :: vr o :: st) (T, h, hl, r) Q :=
  wp_putv (vr x) hd hk hci hkn ht hfin ((fk_ref hkd).2 _).1 ((fk_ref hkd).2 _).2 eqOff_r (by rw [(fk_ref hkd).1]; show (if up r o k x o k = 0 then Value.null else Value.ref (gB G + up r o k x o k)) = _; rw [up_s, if_neg h0]; rfl) (fun j e kd => by unfold fv; simp only [up_k (ncast e)]) (fun a _ => a) (fun a _ => a) kk
-- arrays
theorem arr_at {o n kd : Nat} (ht : ty T o = some (.inr (kd, n))) : (Wd G (T, h, hl, r))[o - 1]? = some (gB G + o, arrOf G (T, h, hl, r) o kd n) := Wd_at (G := G) (σ := (T, h, hl, r)) ht
theorem toN {i : Int} (h0 : 0 ≤ i) : ((i.toNat : Nat) : Int) = i := Int.toNat_of_nonneg h0
theorem wp_iaload {o n : Nat} {i : Int} (hd : decode (mB y) pc = .ok (.iaload, 1)) (ht : ty T o = some (.inr (0, n))) (h0 : 0 ≤ i) (h1 : i < n)
    (kk : WP G δ mc ms y (pc + 1) ls (vi (h o i) :: st) (T, h, hl, r) Q) : WP G δ mc ms y pc ls (vi i :: vr o :: st) (T, h, hl, r) Q :=
  fun p e R s m args below meth c H locs cells slots lsa Qf C hH hS hL hst hc hs hf hlo hr => by
    have hi : R32 i := ok_h hst
    have w := kk p e R s m args below meth c H locs cells slots lsa Qf C hH hS hL (ok_c (v := vi (h o i)) (hH.2.2.1 _ _) (ok_t (ok_t hst))) hc hs hf hlo hr
    refine va_iald C.exec C.bytes C.2.2.2.2.2.1 hH.2.1 (o - 1) 0 (cA := gA G 0) (n := n) (f := fun j => Int32.ofInt (h o j)) (arr_at ht) rfl (vin_of hi h0 h1) hd ?_
    rw [cl_of hi, toN h0]
    exact w
theorem wp_zaload {o n : Nat} {i : Int} (hd : decode (mB y) pc = .ok (.baload, 1)) (ht : ty T o = some (.inr (1, n))) (h0 : 0 ≤ i) (h1 : i < n)
    (kk : WP G δ mc ms y (pc + 1) ls (vi (h o i) :: st) (T, h, hl, r) Q) : WP G δ mc ms y pc ls (vi i :: vr o :: st) (T, h, hl, r) Q :=
  fun p e R s m args below meth c H locs cells slots lsa Qf C hH hS hL hst hc hs hf hlo hr => by
    have hi : R32 i := ok_h hst
    have w := kk p e R s m args below meth c H locs cells slots lsa Qf C hH hS hL (ok_c (v := vi (h o i)) (hH.2.2.1 _ _) (ok_t (ok_t hst))) hc hs hf hlo hr
    refine va_zald C.exec C.bytes C.2.2.2.2.2.1 hH.2.1 (o - 1) 1 (cA := gA G 1) (n := n) (f := fun j => Int32.ofInt (h o j)) (arr_at ht) rfl (vin_of hi h0 h1) hd ?_
    rw [cl_of hi, toN h0]
    exact w
theorem wp_laload {o n : Nat} {i : Int} (hd : decode (mB y) pc = .ok (.laload, 1)) (ht : ty T o = some (.inr (2, n))) (h0 : 0 ≤ i) (h1 : i < n)
    (kk : WP G δ mc ms y (pc + 1) ls (vl (hl o i) :: st) (T, h, hl, r) Q) : WP G δ mc ms y pc ls (vi i :: vr o :: st) (T, h, hl, r) Q :=
  fun p e R s m args below meth c H locs cells slots lsa Qf C hH hS hL hst hc hs hf hlo hr => by
    have hi : R32 i := ok_h hst
    have w := kk p e R s m args below meth c H locs cells slots lsa Qf C hH hS hL (ok_c (v := vl (hl o i)) (hH.2.2.2 _ _) (ok_t (ok_t hst))) hc hs hf hlo hr
    refine va_lald C.exec C.bytes C.2.2.2.2.2.1 hH.2.1 (o - 1) 2 (cA := gA G 2) (n := n) (f := fun j => Int64.ofInt (hl o j)) (arr_at ht) rfl (vin_of hi h0 h1) hd ?_
    rw [cl_of hi, toN h0]
    exact w
def acN (kd : Nat) : String := if kd = 3 then "LitByLosers$Script" else "LitByLosers$State"
def acI (kd : Nat) : Nat := if kd = 3 then 3 else 5
theorem wp_aaload {o n kd : Nat} {i : Int} (q : Nat) (hd : decode (mB y) pc = .ok (.aaload, 1)) (ht : ty T o = some (.inr (kd, n))) (hkd : kd = 3 ∨ kd = 4) (h0 : 0 ≤ i) (h1 : i < n) (hq : r o i = q) (q0 : q ≠ 0)
    (kk : WP G δ mc ms y (pc + 1) ls (vr q :: st) (T, h, hl, r) Q) : WP G δ mc ms y pc ls (vi i :: vr o :: st) (T, h, hl, r) Q :=
  fun p e R s m args below meth c H locs cells slots lsa Qf C hH hS hL hst hc hs hf hlo hr => by
    have hi : R32 i := ok_h hst
    have w := kk p e R s m args below meth c H locs cells slots lsa Qf C hH hS hL (ok_c (v := vr q) trivial (ok_t (ok_t hst))) hc hs hf hlo hr
    have ha : (Wd G (T, h, hl, r))[o - 1]? = some (gB G + o, .inl (gA G kd, n, .inr (.inr (.inr (.inr (fun j => if r o j = 0 then none else some (gB G + r o j))))))) := by
      rw [arr_at ht]; rcases hkd with rfl | rfl <;> rfl
    refine va_aldq C.exec C.bytes C.2.2.2.2.2.1 hH.2.1 (o - 1) kd (C := acN kd) ha (by rcases hkd with rfl | rfl <;> rfl) (vin_of hi h0 h1) hd ?_
    rw [cl_of hi]
    simp only [toN h0, hq]
    rw [if_neg q0]
    exact w
theorem wp_alen {o n kd : Nat} (hd : decode (mB y) pc = .ok (.arraylength, 1)) (ht : ty T o = some (.inr (kd, n))) (hkd : kd < 5) (hn : (n : Int) < 2147483648)
    (kk : WP G δ mc ms y (pc + 1) ls (vi n :: st) (T, h, hl, r) Q) : WP G δ mc ms y pc ls (vr o :: st) (T, h, hl, r) Q :=
  fun p e R s m args below meth c H locs cells slots lsa Qf C hH hS hL hst hc hs hf hlo hr => by
    have w := kk p e R s m args below meth c H locs cells slots lsa Qf C hH hS hL (ok_c (v := vi n) (show R32 _ from ⟨by omega, hn⟩) (ok_t hst)) hc hs hf hlo hr
    have ha : ∃ x, (Wd G (T, h, hl, r))[o - 1]? = some (gB G + o, .inl (gA G kd, n, x)) := by
      rw [arr_at ht]
      unfold arrOf
      split
      · exact ⟨_, rfl⟩
      · split <;> exact ⟨_, rfl⟩
    obtain ⟨x, ha⟩ := ha
    have htt : ∃ t, (tys0 G)[kd]? = some (gA G kd, t) := by
      match kd, hkd with
      | 0, _ => exact ⟨_, rfl⟩
      | 1, _ => exact ⟨_, rfl⟩
      | 2, _ => exact ⟨_, rfl⟩
      | 3, _ => exact ⟨_, rfl⟩
      | 4, _ => exact ⟨_, rfl⟩
    obtain ⟨t, htt⟩ := htt
    exact va_alen C.exec C.bytes C.2.2.2.2.2.1 hH.2.1 (o - 1) kd ha htt (v := Int32.ofInt n) (by rw [Int32.ofInt_eq_ofNat]) hd w
end HEAP
