section HEAP2
variable {G : GT} {δ mc ms : Nat} {y : Md} {pc : Nat} {ls st : List V} {T : List Ty} {h hl : Nat → Int → Int} {r : Nat → Int → Nat} {Q : V → Hp → Prop}
theorem upd_up {α : Type} {f : Nat → Int → α} {o : Nat} {i : Int} {x : α} (h0 : 0 ≤ i) (j : Nat) : up f o i x o j = if j = i.toNat then x else f o j := by
  unfold up
  by_cases e : j = i.toNat
  · rw [if_pos ⟨rfl, by omega⟩, if_pos e]
  · rw [if_neg (fun z => e (by have := z.2; omega)), if_neg e]
theorem wp_iastore {o n : Nat} {i x : Int} (hd : decode (mB y) pc = .ok (.iastore, 1)) (ht : ty T o = some (.inr (0, n))) (h0 : 0 ≤ i) (h1 : i < n)
    (kk : WP G δ mc ms y (pc + 1) ls st (T, up h o i x, hl, r) Q) : WP G δ mc ms y pc ls (vi x :: vi i :: vr o :: st) (T, h, hl, r) Q :=
  fun p e R s m args below meth c H locs cells slots lsa Qf C hH hS hL hst hc hs hf hlo hr => by
    have hi : R32 i := ok_2 hst
    have ha := arr_at (G := G) (h := h) (hl := hl) (r := r) ht
    have hcell : H[gB G + o]? = some (arrV (gA G 0) n (fun j => .int (Int32.ofInt (h o j)))) := hH.2.1 _ _ ha
    refine W.iast C.exec C.bytes hcell ((C.2.2.2.2.2.1.2 0 _ rfl).1 n _) (fun q => by cases q) (by rw [arrV_size]; exact vin_of hi h0 h1) rfl rfl hd fun H1 e1 z oq => ?_
    refine kk p e R s m args below meth c H1 _ cells slots lsa Qf C (HR_put hH eqOff_h ht ?_ z oq (up_R hH.2.2.1 (ok_h hst)) hH.2.2.2) (hS.put z oq (show gB G < gB G + o by have := (ty_pos ht).1; omega)) hL (ok_t (ok_t (ok_t hst))) hc hs hf hlo hr
    show H1[gB G + o]? = some (arrV (gA G 0) n (fun j => .int (Int32.ofInt (up h o i x o j))))
    rw [e1, arrV_store, cl_of hi]
    congr 2
    funext j
    rw [upd_up h0, updV]
    split <;> rfl
theorem wp_zastore {o n : Nat} {i x : Int} (hd : decode (mB y) pc = .ok (.bastore, 1)) (ht : ty T o = some (.inr (1, n))) (h0 : 0 ≤ i) (h1 : i < n) (hx : x = 0 ∨ x = 1)
    (kk : WP G δ mc ms y (pc + 1) ls st (T, up h o i x, hl, r) Q) : WP G δ mc ms y pc ls (vi x :: vi i :: vr o :: st) (T, h, hl, r) Q :=
  fun p e R s m args below meth c H locs cells slots lsa Qf C hH hS hL hst hc hs hf hlo hr => by
    have hi : R32 i := ok_2 hst
    have ha := arr_at (G := G) (h := h) (hl := hl) (r := r) ht
    have hcell : H[gB G + o]? = some (arrV (gA G 1) n (fun j => .int (Int32.ofInt (h o j)))) := hH.2.1 _ _ ha
    refine W.zast C.exec C.bytes hcell ((C.2.2.2.2.2.1.2 1 _ rfl).1 n _) (fun q => by cases q) (by rw [arrV_size]; exact vin_of hi h0 h1) rfl rfl hd fun H1 e1 z oq => ?_
    refine kk p e R s m args below meth c H1 _ cells slots lsa Qf C (HR_put hH eqOff_h ht ?_ z oq (up_R hH.2.2.1 (ok_h hst)) hH.2.2.2) (hS.put z oq (show gB G < gB G + o by have := (ty_pos ht).1; omega)) hL (ok_t (ok_t (ok_t hst))) hc hs hf hlo hr
    show H1[gB G + o]? = some (arrV (gA G 1) n (fun j => .int (Int32.ofInt (up h o i x o j))))
    have hn : narrow .boolean (.int (Int32.ofInt x)) = .int (Int32.ofInt x) := by rcases hx with rfl | rfl <;> rfl
    rw [e1, hn, arrV_store, cl_of hi]
    congr 2
    funext j
    rw [upd_up h0, updV]
    split <;> rfl
theorem wp_lastore {o n : Nat} {i x : Int} (hd : decode (mB y) pc = .ok (.lastore, 1)) (ht : ty T o = some (.inr (2, n))) (h0 : 0 ≤ i) (h1 : i < n)
    (kk : WP G δ mc ms y (pc + 1) ls st (T, h, up hl o i x, r) Q) : WP G δ mc ms y pc ls (vl x :: vi i :: vr o :: st) (T, h, hl, r) Q :=
  fun p e R s m args below meth c H locs cells slots lsa Qf C hH hS hL hst hc hs hf hlo hr => by
    have hi : R32 i := ok_2 hst
    have ha := arr_at (G := G) (h := h) (hl := hl) (r := r) ht
    have hcell : H[gB G + o]? = some (arrV (gA G 2) n (fun j => .long (Int64.ofInt (hl o j)))) := hH.2.1 _ _ ha
    refine W.last C.exec C.bytes hcell ((C.2.2.2.2.2.1.2 2 _ rfl).1 n _) (fun q => by cases q) (by rw [arrV_size]; exact vin_of hi h0 h1) rfl rfl hd fun H1 e1 z oq => ?_
    refine kk p e R s m args below meth c H1 _ cells slots lsa Qf C (HR_put hH eqOff_l ht ?_ z oq hH.2.2.1 (up_R hH.2.2.2 (ok_h hst))) (hS.put z oq (show gB G < gB G + o by have := (ty_pos ht).1; omega)) hL (ok_t (ok_t (ok_t hst))) hc hs hf hlo hr
    show H1[gB G + o]? = some (arrV (gA G 2) n (fun j => .long (Int64.ofInt (up hl o i x o j))))
    rw [e1, arrV_store, cl_of hi]
    congr 2
    funext j
    rw [upd_up h0, updV]
    split <;> rfl
theorem wp_aastore {o n kd x : Nat} {i : Int} (hd : decode (mB y) pc = .ok (.aastore, 1)) (ht : ty T o = some (.inr (kd, n))) (hkd : kd = 3 ∨ kd = 4) (htx : ty T x = some (.inl (acI kd))) (h0 : 0 ≤ i) (h1 : i < n)
    (kk : WP G δ mc ms y (pc + 1) ls st (T, h, hl, up r o i x) Q) : WP G δ mc ms y pc ls (vr x :: vi i :: vr o :: st) (T, h, hl, r) Q :=
  fun p e R s m args below meth c H locs cells slots lsa Qf C hH hS hL hst hc hs hf hlo hr => by
    have hi : R32 i := ok_2 hst
    have hx0 : x ≠ 0 := by have := (ty_pos htx).1; omega
    have ha : (Wd G (T, h, hl, r))[o - 1]? = some (gB G + o, .inl (gA G kd, n, .inr (.inr (.inr (.inr (fun j => if r o j = 0 then none else some (gB G + r o j))))))) := by
      rw [arr_at ht]; rcases hkd with rfl | rfl <;> rfl
    have hcell : H[gB G + o]? = some (arrV (gA G kd) n (fun j => va_rf (if r o j = 0 then none else some (gB G + r o j)))) := hH.2.1 _ _ ha
    have hci : acI kd < 10 := by rcases hkd with rfl | rfl <;> decide
    obtain ⟨q1, q2, q3, q4, q5⟩ := CQ_ok _ hci
    have hvx := Wd_at (G := G) (σ := (T, h, hl, r)) htx
    obtain ⟨r', hr', cellV, g1, g2, g3, -⟩ := hH.2.1 _ _ hvx
    have hcls := (C.2.2.2.2.2.1.1 _ _ q2).2
    have htt : (tys0 G)[kd]? = some (gA G kd, .object (cq (acI kd)).1) := by rcases hkd with rfl | rfl <;> rfl
    obtain ⟨kA, comp, k1, k2, k3, -⟩ := (C.2.2.2.2.2.1.2 kd _ htt).2
    have hcomp : comp = (gD G).1 (acI kd) := Option.some.inj (k3.symm.trans hcls.1)
    subst hcomp
    obtain ⟨kC, hkC, -⟩ := hcls.2
    have hin := vin_of hi h0 h1
    refine W.aast C.exec C.bytes hcell (fun q h => by cases h) (fun h => by cases h) k1 k2 rfl hkC ⟨fun z => hin (Or.inl z), by rw [arrV_size]; exact Nat.not_le.mp (fun z => hin (Or.inr z))⟩ g1 (fun q h => by rw [g3] at h; cases h) (by rw [g2]; exact hkC) (by rw [g2]; exact va_assign hcls) rfl rfl hd fun H1 e1 z oq => ?_
    refine kk p e R s m args below meth c H1 _ cells slots lsa Qf C (HR_put hH eqOff_r ht ?_ z oq hH.2.2.1 hH.2.2.2) (hS.put z oq (show gB G < gB G + o by have := (ty_pos ht).1; omega)) hL (ok_t (ok_t (ok_t hst))) hc hs hf hlo hr
    have hce : cellOf G (T, h, hl, up r o i x) o (.inr (kd, n)) = .inl (gA G kd, n, .inr (.inr (.inr (.inr (fun j => if up r o i x o j = 0 then none else some (gB G + up r o i x o j)))))) := by rcases hkd with rfl | rfl <;> rfl
    rw [hce]
    show H1[gB G + o]? = some (arrV (gA G kd) n (fun j => va_rf (if up r o i x o j = 0 then none else some (gB G + up r o i x o j))))
    rw [e1, arrV_store, cl_of hi]
    congr 2
    funext j
    rw [updV]
    by_cases e : j = i.toNat
    · rw [if_pos e]
      have : up r o i x o j = x := by rw [upd_up h0, if_pos e]
      simp only [this]
      rw [if_neg hx0]
      rfl
    · rw [if_neg e]
      have : up r o i x o j = r o j := by rw [upd_up h0, if_neg e]
      simp only [this]
/-- a new object's places -/
def z0 {α : Type} (h : Nat → Int → α) (o : Nat) (x : α) : Nat → Int → α := fun q j => if q = o then x else h q j
theorem Wd_push {T : List Ty} {h hl : Nat → Int → Int} {r : Nat → Int → Nat} {t : Ty} : Wd G (T ++ [t], z0 h (T.length + 1) 0, z0 hl (T.length + 1) 0, z0 r (T.length + 1) 0) = Wd G (T, h, hl, r) ++ [(gB G + (T.length + 1), cellOf G (T ++ [t], z0 h (T.length + 1) 0, z0 hl (T.length + 1) 0, z0 r (T.length + 1) 0) (T.length + 1) t)] := by
  unfold Wd
  dsimp only
  rw [List.mapIdx_append]
  have e1 : ∀ (i : Nat) (t' : Ty), i < T.length → cellOf G (T ++ [t], z0 h (T.length + 1) 0, z0 hl (T.length + 1) 0, z0 r (T.length + 1) 0) (i + 1) t' = cellOf G (T, h, hl, r) (i + 1) t' := fun i t' hi => by
    refine cell_congr (fun k => ⟨?_, ?_, ?_⟩) t' <;> (show z0 _ _ _ _ _ = _; unfold z0; rw [if_neg (by omega)])
  congr 1
  · apply List.ext_getElem?
    intro i
    rw [List.getElem?_mapIdx, List.getElem?_mapIdx]
    cases hT : T[i]? with
    | none => rfl
    | some t' =>
      have hi : i < T.length := (List.getElem?_eq_some_iff.mp hT).1
      simp only [Option.map_some]
      rw [e1 i t' hi]
  · simp
theorem HR_push {H H1 : Heap} {t : Ty} (hH : HR G (T, h, hl, r) H) (z : H1.size = H.size + 1) (off : ∀ q : Nat, q < H.size → H1[q]? = H[q]?)
    (hc : va_at (gD G) CL (gB G + (T.length + 1), cellOf G (T ++ [t], z0 h (T.length + 1) 0, z0 hl (T.length + 1) 0, z0 r (T.length + 1) 0) (T.length + 1) t) H1) : HR G (T ++ [t], z0 h (T.length + 1) 0, z0 hl (T.length + 1) 0, z0 r (T.length + 1) 0) H1 := by
  refine ⟨?_, ?_, fun o k => ?_, fun o k => ?_⟩
  · have := hH.1
    rw [z, this]
    simp
    omega
  · rw [Wd_push]
    refine (hH.2.1.kept fun k q hq => off _ (hH.2.1 k q hq).lt).app fun k q hq => ?_
    have hz : k < 1 := (List.getElem?_eq_some_iff.mp hq).1
    rw [show k = 0 by omega] at hq
    cases hq
    exact hc
  · show R32 (z0 _ _ _ _ _)
    unfold z0
    split
    · exact R32_0
    · exact hH.2.2.1 o k
  · show R64 (z0 _ _ _ _ _)
    unfold z0
    split
    · exact R32_64 R32_0
    · exact hH.2.2.2 o k
theorem wp_new {ci idx n : Nat} (hd : decode (mB y) pc = .ok (.new idx, 3)) (hci : ci < 10) (hcl : Cond.classLink (mO y) idx (cq ci).1 ∈ LW) (hin : Cond.instantiable (cq ci).1 (cN ci) ∈ LW) (hini : Cond.initialized (cq ci).1 ∈ LW) (hn : cN ci = n)
    (kk : WP G δ mc ms y (pc + 3) ls (vr (T.length + 1) :: st) (T ++ [.inl ci], z0 h (T.length + 1) 0, z0 hl (T.length + 1) 0, z0 r (T.length + 1) 0) Q) : WP G δ (mc + 1) (ms + n) y pc ls st (T, h, hl, r) Q :=
  fun p e R s m args below meth c H locs cells slots lsa Qf C hH hS hL hst hc hs hf hlo hr => by
    subst hn
    obtain ⟨q1, q2, q3, q4, q5⟩ := CQ_ok ci hci
    have hts := C.2.2.2.2.1
    have hKn := C.2.2.2.2.2.1.1 ci _ q2
    refine W.newcK C.exec C.bytes C.2.2.2.1 (hts _ hcl) (hts _ hin) (hts _ hini) rfl hd (by omega) (by omega) hKn.2.1 rfl fun H1 kC hkC e1 z1 o1 => ?_
    have hz : H.size = gB G + (T.length + 1) := by rw [hH.1]; rfl
    have w := kk p e R s m args below meth c H1 locs (cells + 1) (slots + cN ci) lsa Qf C (HR_push hH z1 o1 ?_) ⟨Nat.le_trans hS.1 (by omega), fun x h1 h2 => (o1 x (Nat.lt_of_lt_of_le h1 hS.1)).trans (hS.2.1 x h1 h2), hS.2.2⟩ hL (ok_c (v := vr (T.length + 1)) trivial hst) (by omega) (by omega) hf hlo (fun pcr v σ' H' locs' cells' slots' lsa' a1 a2 a3 a4 a5 => hr pcr v σ' H' locs' cells' slots' lsa' a1 a2 a3 (by omega) (by omega))
    · rw [hz]
      exact w
    · refine ⟨cq ci, q2, ?_⟩
      rw [hz] at e1
      refine (u_born (ctys ci) hts q1 hKn hkC e1 (fun k hk => q4 k (by rw [← q3]; exact hk))).to fun k hk => ?_
      rw [q3] at hk
      have e2 : vp_V ((List.range (cN ci)).map (fun k => fv G (fkOf (ctys ci k)) (T ++ [.inl ci], z0 h (T.length + 1) 0, z0 hl (T.length + 1) 0, z0 r (T.length + 1) 0) (T.length + 1) k)) k = fv G (fkOf (ctys ci k)) (T ++ [.inl ci], z0 h (T.length + 1) 0, z0 hl (T.length + 1) 0, z0 r (T.length + 1) 0) (T.length + 1) k := by
        unfold vp_V
        rw [List.getD_eq_getElem?_getD]
        simp [hk]
      refine Eq.trans ?_ e2.symm
      have e3 : ∀ t : FieldType, (t = .int ∨ t = .boolean ∨ t = .long ∨ (∃ n, t = .object n) ∨ ∃ u, t = .array u) → defaultValue t = fv G (fkOf t) (T ++ [.inl ci], z0 h (T.length + 1) 0, z0 hl (T.length + 1) 0, z0 r (T.length + 1) 0) (T.length + 1) k := by
        intro t ht
        rcases ht with rfl | rfl | rfl | ⟨n, rfl⟩ | ⟨u, rfl⟩ <;> simp [fv, fkOf, z0] <;> rfl
      refine e3 _ ?_
      unfold ctys
      split <;> (first | (unfold tyX0; split <;> simp) | (unfold tyX1; split <;> simp) | (unfold tyX2; split <;> simp) | (unfold tyX3; split <;> simp) | (unfold tyX4; split <;> simp) | (unfold tyX5; split <;> simp) | (unfold tyX6; split <;> simp) | (unfold tyX7; split <;> simp) | (unfold tyX8; split <;> simp) | (unfold tyX9; split <;> simp))
def atN (kd : Nat) : ArrayType := if kd = 0 then .int else if kd = 1 then .boolean else .long
def atT (kd : Nat) : FieldType := if kd = 0 then .int else if kd = 1 then .boolean else .long
theorem wp_newa {kd n : Nat} {i : Int} (hd : decode (mB y) pc = .ok (.newarray (atN kd), 2)) (hkd : kd < 3) (h0 : 0 ≤ i) (hn : i = n) (hn2 : n < 10000) (harr : Cond.arrayClass (atT kd) ∈ LW)
    (kk : WP G δ mc ms y (pc + 2) ls (vr (T.length + 1) :: st) (T ++ [.inr (kd, n)], z0 h (T.length + 1) 0, z0 hl (T.length + 1) 0, z0 r (T.length + 1) 0) Q) : WP G δ (mc + 1) (ms + n) y pc ls (vi i :: st) (T, h, hl, r) Q :=
  fun p e R s m args below meth c H locs cells slots lsa Qf C hH hS hL hst hc hs hf hlo hr => by
    subst hn
    have hts := C.2.2.2.2.1
    have hi : R32 (n : Int) := ok_h hst
    have hty : newarray.typeOf (atN kd) = atT kd := by match kd, hkd with
      | 0, _ => rfl
      | 1, _ => rfl
      | 2, _ => rfl
    have hbt : componentBytes (atT kd) ≤ 8 := by match kd, hkd with
      | 0, _ => decide
      | 1, _ => decide
      | 2, _ => decide
    have hcl : (Int32.ofInt (n : Int)).toNatClampNeg = n := by rw [cl_of hi]; rfl
    refine va_newaK (N := n) C.exec C.bytes (by rw [hty]; exact hts _ harr) rfl hd rfl (fun z => absurd ((i32_lt hi R32_0).mp z) (by omega)) hcl (by rw [hty]; have := Nat.mul_le_mul_left n hbt; omega) (by omega) (by omega) rfl fun H1 cA e1 z1 o1 hAr hNm => ?_
    have hz : H.size = gB G + (T.length + 1) := by rw [hH.1]; rfl
    have hcA : cA = gA G kd := by
      have hK := (C.2.2.2.2.2.1.2 kd (gA G kd, atT kd) (by match kd, hkd with
        | 0, _ => rfl
        | 1, _ => rfl
        | 2, _ => rfl)).2
      rw [hty] at hNm
      match kd, hkd, hK, hNm with
      | 0, _, hK, hNm => exact Option.some.inj (hNm.symm.trans hK)
      | 1, _, hK, hNm => exact Option.some.inj (hNm.symm.trans hK)
      | 2, _, hK, hNm => exact Option.some.inj (hNm.symm.trans hK)
    have w := kk p e R s m args below meth c H1 locs (cells + 1) (slots + n) lsa Qf C (HR_push hH z1 o1 ?_) ⟨Nat.le_trans hS.1 (by omega), fun x h1 h2 => (o1 x (Nat.lt_of_lt_of_le h1 hS.1)).trans (hS.2.1 x h1 h2), hS.2.2⟩ hL (ok_c (v := vr (T.length + 1)) trivial (ok_t hst)) (by omega) (by omega) hf hlo (fun pcr v σ' H' locs' cells' slots' lsa' a1 a2 a3 a4 a5 => hr pcr v σ' H' locs' cells' slots' lsa' a1 a2 a3 (by omega) (by omega))
    · rw [hz]
      exact w
    · rw [hz, hty] at e1
      subst hcA
      match kd, hkd, e1 with
      | 0, _, e1 =>
        refine (show _ = some (arrV (gA G 0) n (fun j => Value.int (Int32.ofInt (z0 h (T.length + 1) 0 (T.length + 1) j)))) from ?_)
        rw [e1]; congr 2; funext j; simp [z0]; rfl
      | 1, _, e1 =>
        refine (show _ = some (arrV (gA G 1) n (fun j => Value.int (Int32.ofInt (z0 h (T.length + 1) 0 (T.length + 1) j)))) from ?_)
        rw [e1]; congr 2; funext j; simp [z0]; rfl
      | 2, _, e1 =>
        refine (show _ = some (arrV (gA G 2) n (fun j => Value.long (Int64.ofInt (z0 hl (T.length + 1) 0 (T.length + 1) j)))) from ?_)
        rw [e1]; congr 2; funext j; simp [z0]; rfl
theorem wp_newq {kd n idx : Nat} {i : Int} (hd : decode (mB y) pc = .ok (.anewarray idx, 3)) (hkd : kd = 3 ∨ kd = 4) (hcl : Cond.classLink (mO y) idx (acN kd) ∈ LW) (h0 : 0 ≤ i) (hn : i = n) (hn2 : n < 10000)
    (kk : WP G δ mc ms y (pc + 3) ls (vr (T.length + 1) :: st) (T ++ [.inr (kd, n)], z0 h (T.length + 1) 0, z0 hl (T.length + 1) 0, z0 r (T.length + 1) 0) Q) : WP G δ (mc + 1) (ms + n) y pc ls (vi i :: st) (T, h, hl, r) Q :=
  fun p e R s m args below meth c H locs cells slots lsa Qf C hH hS hL hst hc hs hf hlo hr => by
    subst hn
    have hts := C.2.2.2.2.1
    have hi : R32 (n : Int) := ok_h hst
    have hcl2 : (Int32.ofInt (n : Int)).toNatClampNeg = n := by rw [cl_of hi]; rfl
    have hAO : va_AO (acN kd) s := by rcases hkd with rfl | rfl; exact C.2.2.2.2.2.2.2.1.1; exact C.2.2.2.2.2.2.2.1.2
    refine W.anew C.exec C.bytes C.2.2.2.1 (hts _ hcl) (va_AO.use hAO) rfl hd rfl (fun z => absurd ((i32_lt hi R32_0).mp z) (by omega)) (by rw [hcl2]; omega) (by omega) (by rw [hcl2]; omega) fun cA kA comp f1 f2 f3 f4 => ?_
    rw [hcl2]
    generalize hH1 : H.push ({ cls := cA, slots := Array.replicate n .null, vm := .none } : Cell) = H1
    have z1 : H1.size = H.size + 1 := by rw [← hH1, Array.size_push]
    have e1 : H1[H.size]? = some (arrV cA n (fun _ => .null)) := by rw [← hH1, Array.getElem?_push_size, ← arrV_new]
    have o1 : ∀ q : Nat, q < H.size → H1[q]? = H[q]? := fun q hq => by rw [← hH1, Array.getElem?_push, if_neg (Nat.ne_of_lt hq)]
    have hz : H.size = gB G + (T.length + 1) := by rw [hH.1]; rfl
    have hcA : cA = gA G kd := by
      have hK := (C.2.2.2.2.2.1.2 kd (gA G kd, .object (acN kd)) (by rcases hkd with rfl | rfl <;> rfl)).2
      obtain ⟨_, _, -, -, -, k4⟩ := hK
      exact Option.some.inj (f1.symm.trans k4)
    have w := kk p e R s m args below meth c H1 locs (cells + 1) (slots + n) lsa Qf C (HR_push hH z1 o1 ?_) ⟨Nat.le_trans hS.1 (by omega), fun x h1 h2 => (o1 x (Nat.lt_of_lt_of_le h1 hS.1)).trans (hS.2.1 x h1 h2), hS.2.2⟩ hL (ok_c (v := vr (T.length + 1)) trivial (ok_t hst)) (by omega) (by omega) hf hlo (fun pcr v σ' H' locs' cells' slots' lsa' a1 a2 a3 a4 a5 => hr pcr v σ' H' locs' cells' slots' lsa' a1 a2 a3 (by omega) (by omega))
    · rw [hz]
      exact w
    · rw [hz] at e1
      subst hcA
      have hce : cellOf G (T ++ [.inr (kd, n)], z0 h (T.length + 1) 0, z0 hl (T.length + 1) 0, z0 r (T.length + 1) 0) (T.length + 1) (.inr (kd, n)) = .inl (gA G kd, n, .inr (.inr (.inr (.inr (fun j => if z0 r (T.length + 1) 0 (T.length + 1) (j : Int) = 0 then none else some (gB G + z0 r (T.length + 1) 0 (T.length + 1) j)))))) := by rcases hkd with rfl | rfl <;> rfl
      rw [hce]
      refine (show _ = some (arrV (gA G kd) n (fun j => va_rf (if z0 r (T.length + 1) 0 (T.length + 1) (j : Int) = 0 then none else some (gB G + z0 r (T.length + 1) 0 (T.length + 1) j)))) from ?_)
      rw [e1]; congr 2; funext j; simp [z0]; rfl
end HEAP2
