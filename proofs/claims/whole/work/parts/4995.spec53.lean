/-! the class's clauses -/
def OrF (c : Int) (h h' : Nat → Int → Int) : Prop := eqX [314, 316, 318] h h' ∧ (∀ k : Int, k ≠ 3 → k ≠ 4 → k ≠ 10 → h' 314 k = h 314 k) ∧ (∀ k : Int, k ≠ 1 → h' 316 k = h 316 k) ∧ ∀ k : Int, (k < (c - 1) * 3 ∨ (c - 1) * 3 + 3 ≤ k) → h' 318 k = h 318 k
def OrE (c : Int) (h h' : Nat → Int → Int) : Prop := OrF c h h' ∧ h' 314 3 = h 314 3 ∧ h' 314 4 = h 314 4
def Nums (c : Int) (h : Nat → Int → Int) (a : List Int) : Prop := h 316 1 = a.length ∧ ∀ q : Nat, q < a.length → h 318 ((c - 1) * 3 + q) = a.getD q 0
section ORS
variable {h h' h'' : Nat → Int → Int} {c : Int} {a : List Int} {K V' Pf : Int → Int} {n : Int}
theorem OrF.rf : OrF c h h := ⟨eqX.rf, fun _ _ _ _ => rfl, fun _ _ => rfl, fun _ _ => rfl⟩
theorem OrF.tr (x : OrF c h h') (y : OrF c h' h'') : OrF c h h'' := ⟨x.1.tr y.1, fun k e1 e2 e3 => (y.2.1 k e1 e2 e3).trans (x.2.1 k e1 e2 e3), fun k e => (y.2.2.1 k e).trans (x.2.2.1 k e), fun k e => (y.2.2.2 k e).trans (x.2.2.2 k e)⟩
theorem OrF.u4 (x : OrF c h h') {k v : Int} (e : k = 3 ∨ k = 4 ∨ k = 10) : OrF c h (up h' 314 k v) := ⟨x.1.up (by decide), fun j e1 e2 e3 => by rw [up_k (by omega)]; exact x.2.1 j e1 e2 e3, fun j e => by rw [up_o (by decide)]; exact x.2.2.1 j e, fun j e => by rw [up_o (by decide)]; exact x.2.2.2 j e⟩
theorem OrE.f (a : OrE c h h') : OrF c h h' := a.1
theorem OrE.rf : OrE c h h := ⟨OrF.rf, rfl, rfl⟩
theorem OrE.tr (a : OrE c h h') (e : OrE c h' h'') : OrE c h h'' := ⟨a.1.tr e.1, e.2.1.trans a.2.1, e.2.2.trans a.2.2⟩
theorem OrE.u4 (a : OrE c h h') {k v : Int} (e : k = 10) : OrE c h (up h' 314 k v) := ⟨a.1.u4 (Or.inr (Or.inr e)), by rw [up_k (by omega)]; exact a.2.1, by rw [up_k (by omega)]; exact a.2.2⟩
theorem OrE.B (B : ClB K V' Pf n h) (e : OrE c h h') : ClB K V' Pf n h' := by
  refine ⟨by rw [e.1.2.1 9 (by decide) (by decide) (by decide)]; exact B.1, fun j j0 j1 => ?_⟩
  rw [e.1.1 320 (by decide), e.1.1 321 (by decide), e.1.1 322 (by decide)]
  exact B.2 j j0 j1
theorem Nums.at (m : Nums c h a) {x : Int} : Nums c (up h 314 10 x) a := ⟨by rw [up_o (by decide)]; exact m.1, fun q hq => by rw [up_o (by decide)]; exact m.2 q hq⟩
theorem Nums.add (m : Nums c h a) {v x : Int} (al : a.length < 3) : Nums c (up (up (up h 318 ((c - 1) * 3 + a.length) v) 316 1 (a.length + 1)) 314 10 x) (a ++ [v]) ∧ OrE c h (up (up (up h 318 ((c - 1) * 3 + a.length) v) 316 1 (a.length + 1)) 314 10 x) := by
  refine ⟨⟨?_, fun q hq => ?_⟩, ⟨?_, ?_, ?_, ?_⟩, by rw [up_k (by decide), up_o (by decide), up_o (by decide)], by rw [up_k (by decide), up_o (by decide), up_o (by decide)]⟩
  · rw [up_o (by decide), up_s]; simp
  · rw [up_o (by decide), up_o (by decide)]
    rw [List.length_append, List.length_cons, List.length_nil] at hq
    by_cases e : q = a.length
    · rw [e, up_s, List.getD_eq_getElem?_getD, List.getElem?_append_right (Nat.le_refl _)]; simp
    · rw [up_k (by omega), m.2 q (by omega), List.getD_eq_getElem?_getD, List.getD_eq_getElem?_getD, List.getElem?_append_left (by omega)]
  · exact ((eqX.rf.up (by decide)).up (by decide)).up (by decide)
  · intro k e1 e2 e3; rw [up_k e3, up_o (by decide), up_o (by decide)]
  · intro k e; rw [up_o (by decide), up_k e, up_o (by decide)]
  · intro k e; rw [up_o (by decide), up_o (by decide), up_k (by omega)]
end ORS

theorem wX2_number {G : GT} {δ : Nat} {h hl : Nat → Int → Int} {b : Bool × Bool} {Q : V → Hp → Prop} {lo hi c : Int} {a : List Int} {i n : Int} {K Vf Pf : Int → Int} (hδ : δ ≤ 1560) (Bb : ClB K Vf Pf n h) (hj : h 314 10 = i) (i0 : 0 ≤ i) (i1 : i ≤ n - 1) (t : TkE K n) (hc : h 316 0 = c) (c1 : 1 ≤ c) (c24 : c ≤ 24) (Nn : Nums c h a) (al : a.length < 3) (q1 : ¬ K i = 40 → ∀ h' : Nat → Int → Int, OrF c h h' → h' 314 3 = 1 → h' 314 4 = Pf i → Q (vi 0) (HS h' hl b)) (q2 : K i = 40 → (Vf i < lo ∨ hi < Vf i) → ∀ h' : Nat → Int → Int, OrF c h h' → h' 314 3 = 2 → h' 314 4 = Pf i → Q (vi 0) (HS h' hl b)) (hQ : K i = 40 → lo ≤ Vf i → Vf i ≤ hi → ∀ h' : Nat → Int → Int, OrE c h h' → h' 314 10 = i + 1 → Nums c h' (a ++ [Vf i]) → Q (vi 1) (HS h' hl b)) : WP G δ 0 0 MX2_number 0 [vr (314), vi lo, vi hi] [] (HS h hl b) Q := by
  obtain ⟨hK, hV, hP⟩ := Bb.2 i i0 (by omega)
  have tn := t.2.1
  refine al_0 dX2_number_0 ?_
  refine g_X2_26 (320) dX2_number_1 rfl tt314 (rr2_6 tt314) (by omega) ?_
  refine al_0 dX2_number_4 ?_
  refine g_X2_51 dX2_number_5 rfl tt314 ?_
  rw [hj]
  refine wp_iaload dX2_number_8 tt320 (by omega) (by omega) ?_
  rw [hK]
  refine bi_40 dX2_number_9 ?_
  refine wp_icmp_eq 20 dX2_number_11 rfl (fun c11 => ?_) (fun c11 => ?_)
  · refine al_0 dX2_number_20 ?_
    refine g_X2_29 (321) dX2_number_21 rfl tt314 (rr2_7 tt314) (by omega) ?_
    refine al_0 dX2_number_24 ?_
    refine g_X2_51 dX2_number_25 rfl tt314 ?_
    rw [hj]
    refine wp_iaload dX2_number_28 tt321 (by omega) (by omega) ?_
    rw [hV]
    refine il_1 dX2_number_29 ?_
    refine wp_icmp_lt 46 dX2_number_30 rfl (fun c30 => ?_) (fun c30 => ?_)
    · refine al_0 dX2_number_46 ?_
      refine ic_2 dX2_number_47 ?_
      refine c_X2_113 dX2_number_48 rfl tt314 (Nat.le_of_ble_eq_true rfl) (by omega) ?_
      refine wX2_fail (by omega) Bb hj i0 i1 t ?_
      refine pv_i ?_
      refine wp_iretz dX2_number_51 rfl (by omega) ?_
      exact q2 c11 (by omega) _ ((OrF.rf.u4 (Or.inl rfl)).u4 (Or.inr (Or.inl rfl))) (by rw [up_k (by decide), up_s]) up_s
    · refine al_0 dX2_number_33 ?_
      refine g_X2_29 (321) dX2_number_34 rfl tt314 (rr2_7 tt314) (by omega) ?_
      refine al_0 dX2_number_37 ?_
      refine g_X2_51 dX2_number_38 rfl tt314 ?_
      rw [hj]
      refine wp_iaload dX2_number_41 tt321 (by omega) (by omega) ?_
      rw [hV]
      refine il_2 dX2_number_42 ?_
      refine wp_icmp_le 52 dX2_number_43 rfl (fun c43 => ?_) (fun c43 => ?_)
      · refine al_0 dX2_number_52 ?_
        refine g_X2_22 (316) dX2_number_53 rfl tt314 (rr2_5 tt314) (by omega) ?_
        refine al_0 dX2_number_56 ?_
        refine g_X2_29 (321) dX2_number_57 rfl tt314 (rr2_7 tt314) (by omega) ?_
        refine al_0 dX2_number_60 ?_
        refine g_X2_51 dX2_number_61 rfl tt314 ?_
        rw [hj]
        refine wp_iaload dX2_number_64 tt321 (by omega) (by omega) ?_
        rw [hV]
        refine c_X2_119 dX2_number_65 rfl tt316 (Nat.le_of_ble_eq_true rfl) (by omega) ?_
        refine wX3_addNumber (by omega) (by omega) (by omega) (by rw [Nn.1]; omega) (by rw [Nn.1]; omega) ?_
        rw [hc, Nn.1]
        refine pv_n ?_
        refine al_0 dX2_number_68 ?_
        refine c_X2_116 dX2_number_69 rfl tt314 (Nat.le_of_ble_eq_true rfl) (by omega) ?_
        refine wX2_pass (n := n) (K := K) (Vf := Vf) (Pf := Pf) (i := i) (by omega) ⟨by rw [up_o (by decide), up_o (by decide)]; exact Bb.1, fun j j0 j1 => by rw [up_o' (by decide), up_o' (by decide), up_o' (by decide), up_o' (by decide), up_o' (by decide), up_o' (by decide)]; exact Bb.2 j j0 j1⟩ (by rw [up_o (by decide), up_o (by decide)]; exact hj) i0 i1 t (by omega) ?_
        refine pv_n ?_
        refine ic_1 dX2_number_72 ?_
        refine wp_iretz dX2_number_73 rfl (by omega) ?_
        obtain ⟨z1, z2⟩ := Nn.add (v := Vf i) (x := i + 1) al
        exact hQ c11 (by omega) (by omega) _ z2 up_s z1
      · refine al_0 dX2_number_46 ?_
        refine ic_2 dX2_number_47 ?_
        refine c_X2_113 dX2_number_48 rfl tt314 (Nat.le_of_ble_eq_true rfl) (by omega) ?_
        refine wX2_fail (by omega) Bb hj i0 i1 t ?_
        refine pv_i ?_
        refine wp_iretz dX2_number_51 rfl (by omega) ?_
        exact q2 c11 (by omega) _ ((OrF.rf.u4 (Or.inl rfl)).u4 (Or.inr (Or.inl rfl))) (by rw [up_k (by decide), up_s]) up_s
  · refine al_0 dX2_number_14 ?_
    refine ic_1 dX2_number_15 ?_
    refine c_X2_113 dX2_number_16 rfl tt314 (Nat.le_of_ble_eq_true rfl) (by omega) ?_
    refine wX2_fail (by omega) Bb hj i0 i1 t ?_
    refine pv_i ?_
    refine wp_iretz dX2_number_19 rfl (by omega) ?_
    exact q1 c11 _ ((OrF.rf.u4 (Or.inl rfl)).u4 (Or.inr (Or.inl rfl))) (by rw [up_k (by decide), up_s]) up_s

theorem wX2_lamp {G : GT} {δ : Nat} {h hl : Nat → Int → Int} {b : Bool × Bool} {Q : V → Hp → Prop} {c : Int} {a : List Int} {i n : Int} {K Vf Pf : Int → Int} (hδ : δ ≤ 1550) (Bb : ClB K Vf Pf n h) (hj : h 314 10 = i) (i0 : 0 ≤ i) (i1 : i ≤ n - 1) (t : TkE K n) (hc : h 316 0 = c) (c1 : 1 ≤ c) (c24 : c ≤ 24) (Nn : Nums c h a) (al : a.length < 3) (q1 : ¬ K i = 40 → ∀ h' : Nat → Int → Int, OrF c h h' → h' 314 3 = 1 → h' 314 4 = Pf i → Q (vi 0) (HS h' hl b)) (q2 : K i = 40 → (Vf i < 0 ∨ 9 < Vf i) → ∀ h' : Nat → Int → Int, OrF c h h' → h' 314 3 = 2 → h' 314 4 = Pf i → Q (vi 0) (HS h' hl b)) (hQ : K i = 40 → 0 ≤ Vf i → Vf i ≤ 9 → ∀ h' : Nat → Int → Int, OrE c h h' → h' 314 10 = i + 1 → Nums c h' (a ++ [Vf i]) → Q (vi 1) (HS h' hl b)) : WP G δ 0 0 MX2_lamp 0 [vr (314)] [] (HS h hl b) Q := by
  refine al_0 dX2_lamp_0 ?_
  refine ic_0 dX2_lamp_1 ?_
  refine bi_9 dX2_lamp_2 ?_
  refine c_X2_144 dX2_lamp_4 rfl tt314 (Nat.le_of_ble_eq_true rfl) (by omega) ?_
  refine wX2_number (lo := 0) (hi := 9) (by omega) Bb hj i0 i1 t hc c1 c24 Nn al (fun e h' E f p => ?_) (fun e e2 h' E f p => ?_) (fun e e1 e2 h' E f p => ?_)
  · refine pv_i ?_
    exact wp_iretz dX2_lamp_7 rfl (by omega) (q1 e h' E f p)
  · refine pv_i ?_
    exact wp_iretz dX2_lamp_7 rfl (by omega) (q2 e e2 h' E f p)
  · refine pv_i ?_
    exact wp_iretz dX2_lamp_7 rfl (by omega) (hQ e e1 e2 h' E f p)

theorem wX2_one {G : GT} {δ : Nat} {h hl : Nat → Int → Int} {b : Bool × Bool} {Q : V → Hp → Prop} {c : Int} {a : List Int} {i n : Int} {K Vf Pf : Int → Int} (hδ : δ ≤ 1550) (Bb : ClB K Vf Pf n h) (hj : h 314 10 = i) (i0 : 0 ≤ i) (i1 : i ≤ n - 1) (t : TkE K n) (hc : h 316 0 = c) (c1 : 1 ≤ c) (c24 : c ≤ 24) (Nn : Nums c h a) (al : a.length < 3) (q1 : ¬ K i = 40 → ∀ h' : Nat → Int → Int, OrF c h h' → h' 314 3 = 1 → h' 314 4 = Pf i → Q (vi 0) (HS h' hl b)) (q2 : K i = 40 → (Vf i < 0 ∨ 3 < Vf i) → ∀ h' : Nat → Int → Int, OrF c h h' → h' 314 3 = 2 → h' 314 4 = Pf i → Q (vi 0) (HS h' hl b)) (hQ : K i = 40 → 0 ≤ Vf i → Vf i ≤ 3 → ∀ h' : Nat → Int → Int, OrE c h h' → h' 314 10 = i + 1 → Nums c h' (a ++ [Vf i]) → Q (vi 1) (HS h' hl b)) : WP G δ 0 0 MX2_one 0 [vr (314)] [] (HS h hl b) Q := by
  refine al_0 dX2_one_0 ?_
  refine ic_0 dX2_one_1 ?_
  refine ic_3 dX2_one_2 ?_
  refine c_X2_144 dX2_one_3 rfl tt314 (Nat.le_of_ble_eq_true rfl) (by omega) ?_
  refine wX2_number (lo := 0) (hi := 3) (by omega) Bb hj i0 i1 t hc c1 c24 Nn al (fun e h' E f p => ?_) (fun e e2 h' E f p => ?_) (fun e e1 e2 h' E f p => ?_)
  · refine pv_i ?_
    exact wp_iretz dX2_one_6 rfl (by omega) (q1 e h' E f p)
  · refine pv_i ?_
    exact wp_iretz dX2_one_6 rfl (by omega) (q2 e e2 h' E f p)
  · refine pv_i ?_
    exact wp_iretz dX2_one_6 rfl (by omega) (hQ e e1 e2 h' E f p)

theorem wX2_order {G : GT} {δ : Nat} {h hl : Nat → Int → Int} {b : Bool × Bool} {Q : V → Hp → Prop} {k c : Int} {i n : Int} {K Vf Pf : Int → Int} (hδ : δ ≤ 1520) (Bb : ClB K Vf Pf n h) (hj : h 314 10 = i) (i0 : 0 ≤ i) (i1 : i ≤ n - 1) (t : TkE K n) (hc : h 316 0 = c) (c1 : 1 ≤ c) (c24 : c ≤ 24) (Nn : Nums c h []) (hk : k = 0 ∨ (12 ≤ k ∧ k ≤ 16)) (hQ : OQ K Vf (fun f j => ∀ h' : Nat → Int → Int, OrF c h h' → h' 314 3 = f → h' 314 4 = Pf j → Q (vi 0) (HS h' hl b)) (fun j a => ∀ h' : Nat → Int → Int, OrE c h h' → h' 314 10 = j → Nums c h' a → Q (vi 1) (HS h' hl b)) (itK k) i []) : WP G δ 0 0 MX2_order 0 [vr 314, vi k] [] (HS h hl b) Q := by
  refine il_1 dX2_order_0 ?_
  rcases (show (k = 0) ∨ (k = 12) ∨ (k = 13) ∨ (k = 14) ∨ (k = 15) ∨ (k = 16) by omega) with e | e | e | e | e | e
  · refine wp_tswD 187 dX2_order_1 (by omega) rfl ?_
    rw [e] at hQ
    have hQ : OQ K Vf (fun f j => ∀ h' : Nat → Int → Int, OrF c h h' → h' 314 3 = f → h' 314 4 = Pf j → Q (vi 0) (HS h' hl b)) (fun j a => ∀ h' : Nat → Int → Int, OrE c h h' → h' 314 10 = j → Nums c h' a → Q (vi 1) (HS h' hl b)) [.inl (1, 60)] i [] := hQ
    refine al_0 dX2_order_187 ?_
    refine ic_1 dX2_order_188 ?_
    refine bi_60 dX2_order_189 ?_
    obtain ⟨q1, q2, q3⟩ := hQ
    refine c_X2_144 dX2_order_191 rfl tt314 (Nat.le_of_ble_eq_true rfl) (by omega) ?_
    refine wX2_number (lo := 1) (hi := 60) (c := c) (a := []) (by omega) (OrE.B (c := c) Bb OrE.rf) hj (by omega) i1 t (((OrE.rf : OrE c h _).1.2.2.1 0 (by decide)).trans hc) c1 c24 Nn (by simp) (fun e h0 E0 f p => ?_) (fun e e2 h0 E0 f p => ?_) (fun e0 el eh h0 E0 a0 N0 => ?_)
    · refine pv_i ?_
      refine wp_iretz dX2_order_194 rfl (by omega) ?_
      exact q1 e h0 ((OrE.rf).f.tr E0) f p
    · refine pv_i ?_
      refine wp_iretz dX2_order_194 rfl (by omega) ?_
      exact q2 e e2 h0 ((OrE.rf).f.tr E0) f p
    have i0' := tk_lt t i1 (by omega)
    have hQ := q3 e0 el eh
    refine pv_i ?_
    refine wp_iretz dX2_order_194 rfl (by omega) ?_
    exact hQ h0 ((OrE.rf).tr E0) a0 N0
  · refine wp_tsw 36 dX2_order_1 (by omega) (by omega) (35) (by rw [e]; rfl) rfl ?_
    rw [e] at hQ
    have hQ : OQ K Vf (fun f j => ∀ h' : Nat → Int → Int, OrF c h h' → h' 314 3 = f → h' 314 4 = Pf j → Q (vi 0) (HS h' hl b)) (fun j a => ∀ h' : Nat → Int → Int, OrE c h h' → h' 314 10 = j → Nums c h' a → Q (vi 1) (HS h' hl b)) [.inl (0, 99), .inr 1, .inl (0, 10)] i [] := hQ
    refine al_0 dX2_order_36 ?_
    refine ic_0 dX2_order_37 ?_
    refine bi_99 dX2_order_38 ?_
    obtain ⟨q1, q2, q3⟩ := hQ
    refine c_X2_144 dX2_order_40 rfl tt314 (Nat.le_of_ble_eq_true rfl) (by omega) ?_
    refine wX2_number (lo := 0) (hi := 99) (c := c) (a := []) (by omega) (OrE.B (c := c) Bb OrE.rf) hj (by omega) i1 t (((OrE.rf : OrE c h _).1.2.2.1 0 (by decide)).trans hc) c1 c24 Nn (by simp) (fun e h1 E1 f p => ?_) (fun e e2 h1 E1 f p => ?_) (fun e1 el eh h1 E1 a1 N1 => ?_)
    · refine pv_i ?_
      refine wp_if_eq 68 dX2_order_43 rfl (fun _ => ?_) (fun c => absurd rfl c)
      refine ic_0 dX2_order_68 ?_
      refine wp_iretz dX2_order_69 rfl (by omega) ?_
      exact q1 e h1 ((OrE.rf).f.tr E1) f p
    · refine pv_i ?_
      refine wp_if_eq 68 dX2_order_43 rfl (fun _ => ?_) (fun c => absurd rfl c)
      refine ic_0 dX2_order_68 ?_
      refine wp_iretz dX2_order_69 rfl (by omega) ?_
      exact q2 e e2 h1 ((OrE.rf).f.tr E1) f p
    have i1' := tk_lt t i1 (by omega)
    have hQ := q3 e1 el eh
    refine pv_i ?_
    refine wp_if_eq 68 dX2_order_43 rfl (fun c => absurd c (by decide)) (fun _ => ?_)
    refine al_0 dX2_order_46 ?_
    refine ic_1 dX2_order_47 ?_
    obtain ⟨q1, q2⟩ := hQ
    refine c_X2_141 dX2_order_48 rfl tt314 (Nat.le_of_ble_eq_true rfl) (by omega) ?_
    refine wX2_expect (k := 1) (K := K) (Vf := Vf) (Pf := Pf) (n := n) (i := i + 1) (by omega) (OrE.B (c := c) Bb ((OrE.rf).tr E1)) a1 (by omega) i1' t (by decide) (fun e2 => ?_) (fun e => ?_)
    · refine pv_i ?_
      refine wp_if_eq 68 dX2_order_51 rfl (fun c => absurd c (by decide)) (fun _ => ?_)
      have i2' := tk_lt t i1' (by omega)
      have hQ := q2 e2
      refine al_0 dX2_order_54 ?_
      refine ic_0 dX2_order_55 ?_
      refine bi_10 dX2_order_56 ?_
      obtain ⟨q1, q2, q3⟩ := hQ
      refine c_X2_144 dX2_order_58 rfl tt314 (Nat.le_of_ble_eq_true rfl) (by omega) ?_
      refine wX2_number (lo := 0) (hi := 10) (c := c) (a := ([] ++ [Vf (i)])) (by omega) (OrE.B (c := c) Bb ((((OrE.rf).tr E1)).u4 (k := 10) (v := i + 1 + 1) rfl)) up_s (by omega) i2' t (((((((OrE.rf).tr E1)).u4 (k := 10) (v := i + 1 + 1) rfl) : OrE c h _).1.2.2.1 0 (by decide)).trans hc) c1 c24 (N1).at (by simp) (fun e h3 E3 f p => ?_) (fun e e2 h3 E3 f p => ?_) (fun e3 el eh h3 E3 a3 N3 => ?_)
      · refine pv_i ?_
        refine wp_if_eq 68 dX2_order_61 rfl (fun _ => ?_) (fun c => absurd rfl c)
        refine ic_0 dX2_order_68 ?_
        refine wp_iretz dX2_order_69 rfl (by omega) ?_
        exact q1 e h3 ((((((OrE.rf).tr E1)).u4 (k := 10) (v := i + 1 + 1) rfl)).f.tr E3) f p
      · refine pv_i ?_
        refine wp_if_eq 68 dX2_order_61 rfl (fun _ => ?_) (fun c => absurd rfl c)
        refine ic_0 dX2_order_68 ?_
        refine wp_iretz dX2_order_69 rfl (by omega) ?_
        exact q2 e e2 h3 ((((((OrE.rf).tr E1)).u4 (k := 10) (v := i + 1 + 1) rfl)).f.tr E3) f p
      have i3' := tk_lt t i2' (by omega)
      have hQ := q3 e3 el eh
      refine pv_i ?_
      refine wp_if_eq 68 dX2_order_61 rfl (fun c => absurd c (by decide)) (fun _ => ?_)
      refine ic_1 dX2_order_64 ?_
      refine wp_goto 69 dX2_order_65 rfl ?_
      refine wp_iretz dX2_order_69 rfl (by omega) ?_
      exact hQ h3 ((((((OrE.rf).tr E1)).u4 (k := 10) (v := i + 1 + 1) rfl)).tr E3) a3 N3
    · refine pv_i ?_
      refine wp_if_eq 68 dX2_order_51 rfl (fun _ => ?_) (fun c => absurd rfl c)
      refine ic_0 dX2_order_68 ?_
      refine wp_iretz dX2_order_69 rfl (by omega) ?_
      exact q1 e _ (((((OrE.rf).tr E1)).f.u4 (Or.inl rfl)).u4 (Or.inr (Or.inl rfl))) (by rw [up_k (by decide), up_s]) up_s
  · refine wp_tsw 70 dX2_order_1 (by omega) (by omega) (69) (by rw [e]; rfl) rfl ?_
    rw [e] at hQ
    have hQ : OQ K Vf (fun f j => ∀ h' : Nat → Int → Int, OrF c h h' → h' 314 3 = f → h' 314 4 = Pf j → Q (vi 0) (HS h' hl b)) (fun j a => ∀ h' : Nat → Int → Int, OrE c h h' → h' 314 10 = j → Nums c h' a → Q (vi 1) (HS h' hl b)) [.inl (0, 9), .inr 17, .inl (0, 9)] i [] := hQ
    refine al_0 dX2_order_70 ?_
    obtain ⟨q1, q2, q3⟩ := hQ
    refine c_X2_148 dX2_order_71 rfl tt314 (Nat.le_of_ble_eq_true rfl) (by omega) ?_
    refine wX2_lamp (c := c) (a := []) (by omega) (OrE.B (c := c) Bb OrE.rf) hj (by omega) i1 t (((OrE.rf : OrE c h _).1.2.2.1 0 (by decide)).trans hc) c1 c24 Nn (by simp) (fun e h4 E4 f p => ?_) (fun e e2 h4 E4 f p => ?_) (fun e4 el eh h4 E4 a4 N4 => ?_)
    · refine pv_i ?_
      refine wp_if_eq 100 dX2_order_74 rfl (fun _ => ?_) (fun c => absurd rfl c)
      refine ic_0 dX2_order_100 ?_
      refine wp_iretz dX2_order_101 rfl (by omega) ?_
      exact q1 e h4 ((OrE.rf).f.tr E4) f p
    · refine pv_i ?_
      refine wp_if_eq 100 dX2_order_74 rfl (fun _ => ?_) (fun c => absurd rfl c)
      refine ic_0 dX2_order_100 ?_
      refine wp_iretz dX2_order_101 rfl (by omega) ?_
      exact q2 e e2 h4 ((OrE.rf).f.tr E4) f p
    have i4' := tk_lt t i1 (by omega)
    have hQ := q3 e4 el eh
    refine pv_i ?_
    refine wp_if_eq 100 dX2_order_74 rfl (fun c => absurd c (by decide)) (fun _ => ?_)
    refine al_0 dX2_order_77 ?_
    refine bi_17 dX2_order_78 ?_
    obtain ⟨q1, q2⟩ := hQ
    refine c_X2_141 dX2_order_80 rfl tt314 (Nat.le_of_ble_eq_true rfl) (by omega) ?_
    refine wX2_expect (k := 17) (K := K) (Vf := Vf) (Pf := Pf) (n := n) (i := i + 1) (by omega) (OrE.B (c := c) Bb ((OrE.rf).tr E4)) a4 (by omega) i4' t (by decide) (fun e5 => ?_) (fun e => ?_)
    · refine pv_i ?_
      refine wp_if_eq 100 dX2_order_83 rfl (fun c => absurd c (by decide)) (fun _ => ?_)
      have i5' := tk_lt t i4' (by omega)
      have hQ := q2 e5
      refine al_0 dX2_order_86 ?_
      refine ic_0 dX2_order_87 ?_
      refine bi_9 dX2_order_88 ?_
      obtain ⟨q1, q2, q3⟩ := hQ
      refine c_X2_144 dX2_order_90 rfl tt314 (Nat.le_of_ble_eq_true rfl) (by omega) ?_
      refine wX2_number (lo := 0) (hi := 9) (c := c) (a := ([] ++ [Vf (i)])) (by omega) (OrE.B (c := c) Bb ((((OrE.rf).tr E4)).u4 (k := 10) (v := i + 1 + 1) rfl)) up_s (by omega) i5' t (((((((OrE.rf).tr E4)).u4 (k := 10) (v := i + 1 + 1) rfl) : OrE c h _).1.2.2.1 0 (by decide)).trans hc) c1 c24 (N4).at (by simp) (fun e h6 E6 f p => ?_) (fun e e2 h6 E6 f p => ?_) (fun e6 el eh h6 E6 a6 N6 => ?_)
      · refine pv_i ?_
        refine wp_if_eq 100 dX2_order_93 rfl (fun _ => ?_) (fun c => absurd rfl c)
        refine ic_0 dX2_order_100 ?_
        refine wp_iretz dX2_order_101 rfl (by omega) ?_
        exact q1 e h6 ((((((OrE.rf).tr E4)).u4 (k := 10) (v := i + 1 + 1) rfl)).f.tr E6) f p
      · refine pv_i ?_
        refine wp_if_eq 100 dX2_order_93 rfl (fun _ => ?_) (fun c => absurd rfl c)
        refine ic_0 dX2_order_100 ?_
        refine wp_iretz dX2_order_101 rfl (by omega) ?_
        exact q2 e e2 h6 ((((((OrE.rf).tr E4)).u4 (k := 10) (v := i + 1 + 1) rfl)).f.tr E6) f p
      have i6' := tk_lt t i5' (by omega)
      have hQ := q3 e6 el eh
      refine pv_i ?_
      refine wp_if_eq 100 dX2_order_93 rfl (fun c => absurd c (by decide)) (fun _ => ?_)
      refine ic_1 dX2_order_96 ?_
      refine wp_goto 101 dX2_order_97 rfl ?_
      refine wp_iretz dX2_order_101 rfl (by omega) ?_
      exact hQ h6 ((((((OrE.rf).tr E4)).u4 (k := 10) (v := i + 1 + 1) rfl)).tr E6) a6 N6
    · refine pv_i ?_
      refine wp_if_eq 100 dX2_order_83 rfl (fun _ => ?_) (fun c => absurd rfl c)
      refine ic_0 dX2_order_100 ?_
      refine wp_iretz dX2_order_101 rfl (by omega) ?_
      exact q1 e _ (((((OrE.rf).tr E4)).f.u4 (Or.inl rfl)).u4 (Or.inr (Or.inl rfl))) (by rw [up_k (by decide), up_s]) up_s
  · refine wp_tsw 102 dX2_order_1 (by omega) (by omega) (101) (by rw [e]; rfl) rfl ?_
    rw [e] at hQ
    have hQ : OQ K Vf (fun f j => ∀ h' : Nat → Int → Int, OrF c h h' → h' 314 3 = f → h' 314 4 = Pf j → Q (vi 0) (HS h' hl b)) (fun j a => ∀ h' : Nat → Int → Int, OrE c h h' → h' 314 10 = j → Nums c h' a → Q (vi 1) (HS h' hl b)) [.inl (0, 7), .inr 17, .inl (0, 3), .inr 18, .inl (0, 3)] i [] := hQ
    refine al_0 dX2_order_102 ?_
    refine ic_0 dX2_order_103 ?_
    refine bi_7 dX2_order_104 ?_
    obtain ⟨q1, q2, q3⟩ := hQ
    refine c_X2_144 dX2_order_106 rfl tt314 (Nat.le_of_ble_eq_true rfl) (by omega) ?_
    refine wX2_number (lo := 0) (hi := 7) (c := c) (a := []) (by omega) (OrE.B (c := c) Bb OrE.rf) hj (by omega) i1 t (((OrE.rf : OrE c h _).1.2.2.1 0 (by decide)).trans hc) c1 c24 Nn (by simp) (fun e h7 E7 f p => ?_) (fun e e2 h7 E7 f p => ?_) (fun e7 el eh h7 E7 a7 N7 => ?_)
    · refine pv_i ?_
      refine wp_if_eq 148 dX2_order_109 rfl (fun _ => ?_) (fun c => absurd rfl c)
      refine ic_0 dX2_order_148 ?_
      refine wp_iretz dX2_order_149 rfl (by omega) ?_
      exact q1 e h7 ((OrE.rf).f.tr E7) f p
    · refine pv_i ?_
      refine wp_if_eq 148 dX2_order_109 rfl (fun _ => ?_) (fun c => absurd rfl c)
      refine ic_0 dX2_order_148 ?_
      refine wp_iretz dX2_order_149 rfl (by omega) ?_
      exact q2 e e2 h7 ((OrE.rf).f.tr E7) f p
    have i7' := tk_lt t i1 (by omega)
    have hQ := q3 e7 el eh
    refine pv_i ?_
    refine wp_if_eq 148 dX2_order_109 rfl (fun c => absurd c (by decide)) (fun _ => ?_)
    refine al_0 dX2_order_112 ?_
    refine bi_17 dX2_order_113 ?_
    obtain ⟨q1, q2⟩ := hQ
    refine c_X2_141 dX2_order_115 rfl tt314 (Nat.le_of_ble_eq_true rfl) (by omega) ?_
    refine wX2_expect (k := 17) (K := K) (Vf := Vf) (Pf := Pf) (n := n) (i := i + 1) (by omega) (OrE.B (c := c) Bb ((OrE.rf).tr E7)) a7 (by omega) i7' t (by decide) (fun e8 => ?_) (fun e => ?_)
    · refine pv_i ?_
      refine wp_if_eq 148 dX2_order_118 rfl (fun c => absurd c (by decide)) (fun _ => ?_)
      have i8' := tk_lt t i7' (by omega)
      have hQ := q2 e8
      refine al_0 dX2_order_121 ?_
      obtain ⟨q1, q2, q3⟩ := hQ
      refine c_X2_151 dX2_order_122 rfl tt314 (Nat.le_of_ble_eq_true rfl) (by omega) ?_
      refine wX2_one (c := c) (a := ([] ++ [Vf (i)])) (by omega) (OrE.B (c := c) Bb ((((OrE.rf).tr E7)).u4 (k := 10) (v := i + 1 + 1) rfl)) up_s (by omega) i8' t (((((((OrE.rf).tr E7)).u4 (k := 10) (v := i + 1 + 1) rfl) : OrE c h _).1.2.2.1 0 (by decide)).trans hc) c1 c24 (N7).at (by simp) (fun e h9 E9 f p => ?_) (fun e e2 h9 E9 f p => ?_) (fun e9 el eh h9 E9 a9 N9 => ?_)
      · refine pv_i ?_
        refine wp_if_eq 148 dX2_order_125 rfl (fun _ => ?_) (fun c => absurd rfl c)
        refine ic_0 dX2_order_148 ?_
        refine wp_iretz dX2_order_149 rfl (by omega) ?_
        exact q1 e h9 ((((((OrE.rf).tr E7)).u4 (k := 10) (v := i + 1 + 1) rfl)).f.tr E9) f p
      · refine pv_i ?_
        refine wp_if_eq 148 dX2_order_125 rfl (fun _ => ?_) (fun c => absurd rfl c)
        refine ic_0 dX2_order_148 ?_
        refine wp_iretz dX2_order_149 rfl (by omega) ?_
        exact q2 e e2 h9 ((((((OrE.rf).tr E7)).u4 (k := 10) (v := i + 1 + 1) rfl)).f.tr E9) f p
      have i9' := tk_lt t i8' (by omega)
      have hQ := q3 e9 el eh
      refine pv_i ?_
      refine wp_if_eq 148 dX2_order_125 rfl (fun c => absurd c (by decide)) (fun _ => ?_)
      refine al_0 dX2_order_128 ?_
      refine bi_18 dX2_order_129 ?_
      obtain ⟨q1, q2⟩ := hQ
      refine c_X2_141 dX2_order_131 rfl tt314 (Nat.le_of_ble_eq_true rfl) (by omega) ?_
      refine wX2_expect (k := 18) (K := K) (Vf := Vf) (Pf := Pf) (n := n) (i := i + 1 + 1 + 1) (by omega) (OrE.B (c := c) Bb ((((((OrE.rf).tr E7)).u4 (k := 10) (v := i + 1 + 1) rfl)).tr E9)) a9 (by omega) i9' t (by decide) (fun e10 => ?_) (fun e => ?_)
      · refine pv_i ?_
        refine wp_if_eq 148 dX2_order_134 rfl (fun c => absurd c (by decide)) (fun _ => ?_)
        have i10' := tk_lt t i9' (by omega)
        have hQ := q2 e10
        refine al_0 dX2_order_137 ?_
        obtain ⟨q1, q2, q3⟩ := hQ
        refine c_X2_151 dX2_order_138 rfl tt314 (Nat.le_of_ble_eq_true rfl) (by omega) ?_
        refine wX2_one (c := c) (a := (([] ++ [Vf (i)]) ++ [Vf (i + 1 + 1)])) (by omega) (OrE.B (c := c) Bb ((((((((OrE.rf).tr E7)).u4 (k := 10) (v := i + 1 + 1) rfl)).tr E9)).u4 (k := 10) (v := i + 1 + 1 + 1 + 1) rfl)) up_s (by omega) i10' t (((((((((((OrE.rf).tr E7)).u4 (k := 10) (v := i + 1 + 1) rfl)).tr E9)).u4 (k := 10) (v := i + 1 + 1 + 1 + 1) rfl) : OrE c h _).1.2.2.1 0 (by decide)).trans hc) c1 c24 (N9).at (by simp) (fun e h11 E11 f p => ?_) (fun e e2 h11 E11 f p => ?_) (fun e11 el eh h11 E11 a11 N11 => ?_)
        · refine pv_i ?_
          refine wp_if_eq 148 dX2_order_141 rfl (fun _ => ?_) (fun c => absurd rfl c)
          refine ic_0 dX2_order_148 ?_
          refine wp_iretz dX2_order_149 rfl (by omega) ?_
          exact q1 e h11 ((((((((((OrE.rf).tr E7)).u4 (k := 10) (v := i + 1 + 1) rfl)).tr E9)).u4 (k := 10) (v := i + 1 + 1 + 1 + 1) rfl)).f.tr E11) f p
        · refine pv_i ?_
          refine wp_if_eq 148 dX2_order_141 rfl (fun _ => ?_) (fun c => absurd rfl c)
          refine ic_0 dX2_order_148 ?_
          refine wp_iretz dX2_order_149 rfl (by omega) ?_
          exact q2 e e2 h11 ((((((((((OrE.rf).tr E7)).u4 (k := 10) (v := i + 1 + 1) rfl)).tr E9)).u4 (k := 10) (v := i + 1 + 1 + 1 + 1) rfl)).f.tr E11) f p
        have i11' := tk_lt t i10' (by omega)
        have hQ := q3 e11 el eh
        refine pv_i ?_
        refine wp_if_eq 148 dX2_order_141 rfl (fun c => absurd c (by decide)) (fun _ => ?_)
        refine ic_1 dX2_order_144 ?_
        refine wp_goto 149 dX2_order_145 rfl ?_
        refine wp_iretz dX2_order_149 rfl (by omega) ?_
        exact hQ h11 ((((((((((OrE.rf).tr E7)).u4 (k := 10) (v := i + 1 + 1) rfl)).tr E9)).u4 (k := 10) (v := i + 1 + 1 + 1 + 1) rfl)).tr E11) a11 N11
      · refine pv_i ?_
        refine wp_if_eq 148 dX2_order_134 rfl (fun _ => ?_) (fun c => absurd rfl c)
        refine ic_0 dX2_order_148 ?_
        refine wp_iretz dX2_order_149 rfl (by omega) ?_
        exact q1 e _ (((((((((OrE.rf).tr E7)).u4 (k := 10) (v := i + 1 + 1) rfl)).tr E9)).f.u4 (Or.inl rfl)).u4 (Or.inr (Or.inl rfl))) (by rw [up_k (by decide), up_s]) up_s
    · refine pv_i ?_
      refine wp_if_eq 148 dX2_order_118 rfl (fun _ => ?_) (fun c => absurd rfl c)
      refine ic_0 dX2_order_148 ?_
      refine wp_iretz dX2_order_149 rfl (by omega) ?_
      exact q1 e _ (((((OrE.rf).tr E7)).f.u4 (Or.inl rfl)).u4 (Or.inr (Or.inl rfl))) (by rw [up_k (by decide), up_s]) up_s
  · refine wp_tsw 150 dX2_order_1 (by omega) (by omega) (149) (by rw [e]; rfl) rfl ?_
    rw [e] at hQ
    have hQ : OQ K Vf (fun f j => ∀ h' : Nat → Int → Int, OrF c h h' → h' 314 3 = f → h' 314 4 = Pf j → Q (vi 0) (HS h' hl b)) (fun j a => ∀ h' : Nat → Int → Int, OrE c h h' → h' 314 10 = j → Nums c h' a → Q (vi 1) (HS h' hl b)) [.inl (1, 99), .inr 17, .inl (0, 3)] i [] := hQ
    refine al_0 dX2_order_150 ?_
    refine ic_1 dX2_order_151 ?_
    refine bi_99 dX2_order_152 ?_
    obtain ⟨q1, q2, q3⟩ := hQ
    refine c_X2_144 dX2_order_154 rfl tt314 (Nat.le_of_ble_eq_true rfl) (by omega) ?_
    refine wX2_number (lo := 1) (hi := 99) (c := c) (a := []) (by omega) (OrE.B (c := c) Bb OrE.rf) hj (by omega) i1 t (((OrE.rf : OrE c h _).1.2.2.1 0 (by decide)).trans hc) c1 c24 Nn (by simp) (fun e h12 E12 f p => ?_) (fun e e2 h12 E12 f p => ?_) (fun e12 el eh h12 E12 a12 N12 => ?_)
    · refine pv_i ?_
      refine wp_if_eq 180 dX2_order_157 rfl (fun _ => ?_) (fun c => absurd rfl c)
      refine ic_0 dX2_order_180 ?_
      refine wp_iretz dX2_order_181 rfl (by omega) ?_
      exact q1 e h12 ((OrE.rf).f.tr E12) f p
    · refine pv_i ?_
      refine wp_if_eq 180 dX2_order_157 rfl (fun _ => ?_) (fun c => absurd rfl c)
      refine ic_0 dX2_order_180 ?_
      refine wp_iretz dX2_order_181 rfl (by omega) ?_
      exact q2 e e2 h12 ((OrE.rf).f.tr E12) f p
    have i12' := tk_lt t i1 (by omega)
    have hQ := q3 e12 el eh
    refine pv_i ?_
    refine wp_if_eq 180 dX2_order_157 rfl (fun c => absurd c (by decide)) (fun _ => ?_)
    refine al_0 dX2_order_160 ?_
    refine bi_17 dX2_order_161 ?_
    obtain ⟨q1, q2⟩ := hQ
    refine c_X2_141 dX2_order_163 rfl tt314 (Nat.le_of_ble_eq_true rfl) (by omega) ?_
    refine wX2_expect (k := 17) (K := K) (Vf := Vf) (Pf := Pf) (n := n) (i := i + 1) (by omega) (OrE.B (c := c) Bb ((OrE.rf).tr E12)) a12 (by omega) i12' t (by decide) (fun e13 => ?_) (fun e => ?_)
    · refine pv_i ?_
      refine wp_if_eq 180 dX2_order_166 rfl (fun c => absurd c (by decide)) (fun _ => ?_)
      have i13' := tk_lt t i12' (by omega)
      have hQ := q2 e13
      refine al_0 dX2_order_169 ?_
      obtain ⟨q1, q2, q3⟩ := hQ
      refine c_X2_151 dX2_order_170 rfl tt314 (Nat.le_of_ble_eq_true rfl) (by omega) ?_
      refine wX2_one (c := c) (a := ([] ++ [Vf (i)])) (by omega) (OrE.B (c := c) Bb ((((OrE.rf).tr E12)).u4 (k := 10) (v := i + 1 + 1) rfl)) up_s (by omega) i13' t (((((((OrE.rf).tr E12)).u4 (k := 10) (v := i + 1 + 1) rfl) : OrE c h _).1.2.2.1 0 (by decide)).trans hc) c1 c24 (N12).at (by simp) (fun e h14 E14 f p => ?_) (fun e e2 h14 E14 f p => ?_) (fun e14 el eh h14 E14 a14 N14 => ?_)
      · refine pv_i ?_
        refine wp_if_eq 180 dX2_order_173 rfl (fun _ => ?_) (fun c => absurd rfl c)
        refine ic_0 dX2_order_180 ?_
        refine wp_iretz dX2_order_181 rfl (by omega) ?_
        exact q1 e h14 ((((((OrE.rf).tr E12)).u4 (k := 10) (v := i + 1 + 1) rfl)).f.tr E14) f p
      · refine pv_i ?_
        refine wp_if_eq 180 dX2_order_173 rfl (fun _ => ?_) (fun c => absurd rfl c)
        refine ic_0 dX2_order_180 ?_
        refine wp_iretz dX2_order_181 rfl (by omega) ?_
        exact q2 e e2 h14 ((((((OrE.rf).tr E12)).u4 (k := 10) (v := i + 1 + 1) rfl)).f.tr E14) f p
      have i14' := tk_lt t i13' (by omega)
      have hQ := q3 e14 el eh
      refine pv_i ?_
      refine wp_if_eq 180 dX2_order_173 rfl (fun c => absurd c (by decide)) (fun _ => ?_)
      refine ic_1 dX2_order_176 ?_
      refine wp_goto 181 dX2_order_177 rfl ?_
      refine wp_iretz dX2_order_181 rfl (by omega) ?_
      exact hQ h14 ((((((OrE.rf).tr E12)).u4 (k := 10) (v := i + 1 + 1) rfl)).tr E14) a14 N14
    · refine pv_i ?_
      refine wp_if_eq 180 dX2_order_166 rfl (fun _ => ?_) (fun c => absurd rfl c)
      refine ic_0 dX2_order_180 ?_
      refine wp_iretz dX2_order_181 rfl (by omega) ?_
      exact q1 e _ (((((OrE.rf).tr E12)).f.u4 (Or.inl rfl)).u4 (Or.inr (Or.inl rfl))) (by rw [up_k (by decide), up_s]) up_s
  · refine wp_tsw 182 dX2_order_1 (by omega) (by omega) (181) (by rw [e]; rfl) rfl ?_
    rw [e] at hQ
    have hQ : OQ K Vf (fun f j => ∀ h' : Nat → Int → Int, OrF c h h' → h' 314 3 = f → h' 314 4 = Pf j → Q (vi 0) (HS h' hl b)) (fun j a => ∀ h' : Nat → Int → Int, OrE c h h' → h' 314 10 = j → Nums c h' a → Q (vi 1) (HS h' hl b)) [.inl (0, 9)] i [] := hQ
    refine al_0 dX2_order_182 ?_
    obtain ⟨q1, q2, q3⟩ := hQ
    refine c_X2_148 dX2_order_183 rfl tt314 (Nat.le_of_ble_eq_true rfl) (by omega) ?_
    refine wX2_lamp (c := c) (a := []) (by omega) (OrE.B (c := c) Bb OrE.rf) hj (by omega) i1 t (((OrE.rf : OrE c h _).1.2.2.1 0 (by decide)).trans hc) c1 c24 Nn (by simp) (fun e h15 E15 f p => ?_) (fun e e2 h15 E15 f p => ?_) (fun e15 el eh h15 E15 a15 N15 => ?_)
    · refine pv_i ?_
      refine wp_iretz dX2_order_186 rfl (by omega) ?_
      exact q1 e h15 ((OrE.rf).f.tr E15) f p
    · refine pv_i ?_
      refine wp_iretz dX2_order_186 rfl (by omega) ?_
      exact q2 e e2 h15 ((OrE.rf).f.tr E15) f p
    have i15' := tk_lt t i1 (by omega)
    have hQ := q3 e15 el eh
    refine pv_i ?_
    refine wp_iretz dX2_order_186 rfl (by omega) ?_
    exact hQ h15 ((OrE.rf).tr E15) a15 N15

/-- the draft of the class stands for the clauses read so far -/
def CRk (h : Nat → Int → Int) (k : Int) (r : CRc) : Prop := h 317 k = kmp r.1 ∧ (2 ≤ r.1 → h 318 (k * 3 + 0) = r.2.1) ∧ (2 ≤ r.1 → r.1 ≤ 5 → h 318 (k * 3 + 1) = r.2.2.1) ∧ (r.1 = 4 → h 318 (k * 3 + 2) = r.2.2.2)
def DrI (h : Nat → Int → Int) (st : RSt) : Prop := h 316 0 = st.1.length ∧ Cd h st.2.1 ∧ h 316 3 = st.2.2.2.1.1 ∧ h 316 4 = st.2.2.2.1.2 ∧ ∀ (q : Nat) (r : CRc), st.1[q]? = some r → CRk h q r
def RdF (h h' : Nat → Int → Int) : Prop := eqX [314, 316, 317, 318, 319] h h' ∧ ∀ k : Int, k ≠ 3 → k ≠ 4 → k ≠ 10 → h' 314 k = h 314 k
def RdE (h h' : Nat → Int → Int) : Prop := RdF h h' ∧ h' 314 3 = h 314 3 ∧ h' 314 4 = h 314 4
section RDS
variable {h h' h'' : Nat → Int → Int} {K V' Pf : Int → Int} {n : Int}
theorem RdF.rf : RdF h h := ⟨eqX.rf, fun _ _ _ _ => rfl⟩
theorem RdF.tr (x : RdF h h') (y : RdF h' h'') : RdF h h'' := ⟨x.1.tr y.1, fun k e1 e2 e3 => (y.2 k e1 e2 e3).trans (x.2 k e1 e2 e3)⟩
theorem RdF.o {c' : Int} (x : OrF c' h h') : RdF h h' := ⟨x.1.mono (by decide), x.2.1⟩
theorem RdF.l (x : ClF h h') : RdF h h' := ⟨x.1.mono (by decide), x.2.1⟩
theorem RdF.u4 (x : RdF h h') {k v : Int} (e : k = 3 ∨ k = 4 ∨ k = 10) : RdF h (up h' 314 k v) := ⟨x.1.up (by decide), fun j e1 e2 e3 => by rw [up_k (by omega)]; exact x.2 j e1 e2 e3⟩
theorem RdF.u (x : RdF h h') {o : Nat} {k v : Int} (e : o = 316 ∨ o = 317 ∨ o = 318 ∨ o = 319) : RdF h (up h' o k v) := ⟨x.1.up (by rcases e with e | e | e | e <;> subst e <;> decide), fun j e1 e2 e3 => by rw [up_o (by omega)]; exact x.2 j e1 e2 e3⟩
theorem RdE.f (x : RdE h h') : RdF h h' := x.1
theorem RdE.rf : RdE h h := ⟨RdF.rf, rfl, rfl⟩
theorem RdE.tr (x : RdE h h') (y : RdE h' h'') : RdE h h'' := ⟨x.1.tr y.1, y.2.1.trans x.2.1, y.2.2.trans x.2.2⟩
theorem RdE.o {c' : Int} (x : OrE c' h h') : RdE h h' := ⟨RdF.o x.1, x.2⟩
theorem RdE.l (x : ClE h h') : RdE h h' := ⟨RdF.l x.1, x.2⟩
theorem RdE.u4 (x : RdE h h') {k v : Int} (e : k = 10) : RdE h (up h' 314 k v) := ⟨x.1.u4 (Or.inr (Or.inr e)), by rw [up_k (by omega)]; exact x.2.1, by rw [up_k (by omega)]; exact x.2.2⟩
theorem RdE.u (x : RdE h h') {o : Nat} {k v : Int} (e : o = 316 ∨ o = 317 ∨ o = 318 ∨ o = 319) : RdE h (up h' o k v) := ⟨x.1.u e, by rw [up_o (by omega)]; exact x.2.1, by rw [up_o (by omega)]; exact x.2.2⟩
theorem RdE.B (x : RdE h h') (B : ClB K V' Pf n h) : ClB K V' Pf n h' := by
  refine ⟨by rw [x.1.2 9 (by decide) (by decide) (by decide)]; exact B.1, fun j j0 j1 => ?_⟩
  rw [x.1.1 320 (by decide), x.1.1 321 (by decide), x.1.1 322 (by decide)]
  exact B.2 j j0 j1
theorem CRk.c {k : Int} {r : CRc} (x : CRk h k r) (e7 : h' 317 k = h 317 k) (e8 : ∀ q : Int, 0 ≤ q → q < 3 → h' 318 (k * 3 + q) = h 318 (k * 3 + q)) : CRk h' k r := by
  unfold CRk
  rw [e7, e8 0 (by decide) (by decide), e8 1 (by decide) (by decide), e8 2 (by decide) (by decide)]; exact x
end RDS
/-- what the clause's reader leaves -/
def CPq (Pf : Int → Int) (h hl : Nat → Int → Int) (b : Bool × Bool) (Q : V → Hp → Prop) (r : (Int × Int) ⊕ (Int × RSt)) : Prop := match r with
  | .inl e => ∀ h' : Nat → Int → Int, RdF h h' → h' 314 3 = e.1 → h' 314 4 = Pf e.2 → Q (vi 0) (HS h' hl b)
  | .inr x => ∀ h' : Nat → Int → Int, RdE h h' → h' 314 10 = x.1 → DrI h' x.2 → Q (vi 1) (HS h' hl b)

theorem wX2_law {G : GT} {δ : Nat} {h hl : Nat → Int → Int} {b : Bool × Bool} {Q : V → Hp → Prop} {l s : Int} {CC : List Int} {i n : Int} {K Vf Pf : Int → Int} (hδ : δ ≤ 900) (Bb : ClB K Vf Pf n h) (hj : h 314 10 = i) (i0 : 0 ≤ i) (i1 : i ≤ n - 1) (t : TkE K n) (kr : ∀ i, 0 ≤ i → i ≤ n - 1 → 0 ≤ K i) (hls : l = 10 + s) (s01 : s = 0 ∨ s = 1) (hC : Cd h CC) (cl : (CC.length : Int) ≤ 2 * i - 2) (hF : (∀ f j, (lvP K Vf s 8).1 i CC.length = .inl (f, j) → ∀ h' : Nat → Int → Int, RdF h h' → h' 314 3 = f → h' 314 4 = Pf j → Q (vi 0) (HS h' hl b))) (hQ : ∀ j C M D, (lvP K Vf s 8).1 i CC.length = .inr (j, C, M, D) → ∀ h' : Nat → Int → Int, ClE (up h 316 (3 + s) CC.length) h' → h' 314 10 = j → Cd h' (CC ++ (C ++ [53])) → Q (vi 1) (HS h' hl b)) : WP G δ 0 0 MX2_law 0 [vr (314), vi l] [] (HS h hl b) Q := by
  obtain ⟨hK, hV, hP⟩ := Bb.2 i i0 (by omega)
  have tn := t.2.1
  have IL := (imp_lv (G := G) (hl := hl) (b := b) (Pf := Pf) (Vf := Vf) t hls kr 8 (Nat.le_refl 8) 0 (by omega)).1
  have g := (lvP_G (V := Vf) (s := s) t 8).1 i CC.length i0 i1
  have T37 : ∀ {h1 : Nat → Int → Int}, h1 = up h 316 (3 + s) CC.length → WP G δ 0 0 MX2_law 37 [vr 314, vi l] [] (HS h1 hl b) Q := by
    intro h1 e1
    have R1 : RdE h h1 := by rw [e1]; exact RdE.rf.u (Or.inl rfl)
    have B1 := R1.B Bb
    have C1 : Cd h1 CC := hC.c (by rw [e1, up_k (by omega)]) (by rw [e1]; exact up_o' (by decide))
    refine al_0 dX2_law_37 ?_
    refine il_1 dX2_law_38 ?_
    refine ic_0 dX2_law_39 ?_
    refine c_X2_157 dX2_law_40 rfl tt314 (Nat.le_of_ble_eq_true rfl) (by omega) ?_
    refine IL _ _ _ i CC (by omega) (B1 : ClB K Vf Pf n h1) (by rw [e1, up_o (by decide)]; exact hj) i0 i1 C1 (by omega) ?_
    cases hr : (lvP K Vf s 8).1 i CC.length with
    | inl e =>
      intro h2 E2 f p
      refine pv_i ?_
      refine wp_if_ne 48 dX2_law_43 rfl (fun c => absurd rfl c) (fun _ => ?_)
      refine ic_0 dX2_law_46 ?_
      refine wp_iretz dX2_law_47 rfl (by omega) ?_
      exact hF _ _ hr h2 (R1.f.tr (RdF.l E2)) f p
    | inr x =>
      obtain ⟨j, C, M, D⟩ := x
      intro h2 E2 a2 d2
      refine pv_i ?_
      rw [hr] at g
      obtain ⟨r1, r2, r3, r4⟩ := g
      have l2 : ((CC ++ C).length : Int) = CC.length + C.length := lenA
      refine wp_if_ne 48 dX2_law_43 rfl (fun _ => ?_) (fun c => absurd c (by decide))
      refine al_0 dX2_law_48 ?_
      refine g_X2_22 (316) dX2_law_49 rfl tt314 (rr2_5 tt314) (by omega) ?_
      refine bi_53 dX2_law_52 ?_
      refine c_X2_160 dX2_law_54 rfl tt316 (Nat.le_of_ble_eq_true rfl) (by omega) ?_
      refine wX3_emitC (by omega) d2 (by omega) (fun h3 E3 d3 => ?_)
      refine pv_n ?_
      refine ic_1 dX2_law_57 ?_
      refine wp_iretz dX2_law_58 rfl (by omega) ?_
      exact hQ j C M D hr h3 (by rw [← e1]; exact E2.tr E3.cl) (by rw [E3.j]; exact a2) (by rw [List.append_assoc] at d3; exact d3)
  refine il_1 dX2_law_0 ?_
  refine bi_10 dX2_law_1 ?_
  refine wp_icmp_ne 23 dX2_law_3 rfl (fun c3 => ?_) (fun c3 => ?_)
  · refine al_0 dX2_law_23 ?_
    refine g_X2_22 (316) dX2_law_24 rfl tt314 (rr2_5 tt314) (by omega) ?_
    refine al_0 dX2_law_27 ?_
    refine g_X2_22 (316) dX2_law_28 rfl tt314 (rr2_5 tt314) (by omega) ?_
    refine g_X2_154 dX2_law_31 rfl tt316 ?_
    rw [hC.1]
    refine p_X2_126 dX2_law_34 rfl tt316 ?_
    have e : ∀ z : Int, z = 3 + s → (z = 3 ∨ z = 4) := fun z hz => by omega
    first
      | (have q : l = 10 := by omega
         have sz : s = 0 := by omega
         exact T37 (by rw [sz]; rfl))
      | (have sz : s = 1 := by omega
         exact T37 (by rw [sz]; rfl))
  · refine al_0 dX2_law_6 ?_
    refine g_X2_22 (316) dX2_law_7 rfl tt314 (rr2_5 tt314) (by omega) ?_
    refine al_0 dX2_law_10 ?_
    refine g_X2_22 (316) dX2_law_11 rfl tt314 (rr2_5 tt314) (by omega) ?_
    refine g_X2_154 dX2_law_14 rfl tt316 ?_
    rw [hC.1]
    refine p_X2_123 dX2_law_17 rfl tt316 ?_
    refine wp_goto 37 dX2_law_20 rfl ?_
    have e : ∀ z : Int, z = 3 + s → (z = 3 ∨ z = 4) := fun z hz => by omega
    first
      | (have q : l = 10 := by omega
         have sz : s = 0 := by omega
         exact T37 (by rw [sz]; rfl))
      | (have sz : s = 1 := by omega
         exact T37 (by rw [sz]; rfl))

def nItm (it : List Itm) : Nat := (it.filter (fun x => match x with
  | .inl _ => true
  | .inr _ => false)).length
theorem itP_G {K V : Int → Int} {n : Int} (t : TkE K n) : ∀ (it : List Itm) (i : Int), (∀ w, Sum.inr w ∈ it → ¬ w = 54) → 0 ≤ i → i ≤ n - 1 → match itP K V it i with
    | .inl e => i ≤ e.2 ∧ e.2 ≤ n - 1
    | .inr x => i ≤ x.1 ∧ x.1 ≤ n - 1 ∧ x.2.length = nItm it
  | [], i, _, i0, i1 => ⟨Int.le_refl _, i1, rfl⟩
  | .inl r :: it, i, hw, i0, i1 => by
    unfold itP
    by_cases k : K i = 40
    · rw [if_pos k]
      by_cases v : V i < r.1 ∨ r.2 < V i
      · rw [if_pos v]; exact ⟨Int.le_refl _, i1⟩
      · rw [if_neg v]
        have ih := itP_G (V := V) t it (i + 1) (fun w h => hw w (List.mem_cons_of_mem _ h)) (by omega) (tk_lt t i1 (by omega))
        cases q : itP K V it (i + 1) with
        | inl e => rw [q] at ih; exact ⟨by have := ih.1; show i ≤ e.2; omega, ih.2⟩
        | inr x => rw [q] at ih; exact ⟨by have := ih.1; show i ≤ x.1; omega, ih.2.1, by show x.2.length + 1 = nItm it + 1; rw [ih.2.2]⟩
    · rw [if_neg k]; exact ⟨Int.le_refl _, i1⟩
  | .inr w :: it, i, hw, i0, i1 => by
    unfold itP
    have w5 := hw w List.mem_cons_self
    by_cases k : K i = w
    · rw [if_pos k]
      have ih := itP_G (V := V) t it (i + 1) (fun w h => hw w (List.mem_cons_of_mem _ h)) (by omega) (tk_lt t i1 (by omega))
      cases q : itP K V it (i + 1) with
      | inl e => rw [q] at ih; exact ⟨by have := ih.1; show i ≤ e.2; omega, ih.2⟩
      | inr x => rw [q] at ih; exact ⟨by have := ih.1; show i ≤ x.1; omega, ih.2.1, ih.2.2⟩
    · rw [if_neg k]; exact ⟨Int.le_refl _, i1⟩
theorem itK_w {k w : Int} (h : Sum.inr w ∈ itK k) : ¬ w = 54 := by
  unfold itK at h
  repeat' split at h
  all_goals simp at h
  all_goals omega
theorem itK_n {k : Int} (hk : k = 0 ∨ (12 ≤ k ∧ k ≤ 16)) : nItm (itK k) = if k = 14 then 3 else if k = 16 ∨ k = 0 then 1 else 2 := by
  rcases (show k = 0 ∨ k = 12 ∨ k = 13 ∨ k = 14 ∨ k = 15 ∨ k = 16 by omega) with e | e | e | e | e | e <;> subst e <;> rfl
theorem kmp_ms {k : Int} (hk : k = 0 ∨ (10 ≤ k ∧ k ≤ 16)) : kmp (msK k) = k ∧ (k = 0 → msK k = 7) ∧ (¬ k = 0 → msK k = k - 10) := by
  unfold kmp msK
  split
  · rename_i e; exact ⟨by rw [if_pos rfl]; omega, fun _ => rfl, fun z => absurd e z⟩
  · rename_i e; exact ⟨by rw [if_neg (by omega)]; omega, fun z => absurd z e, fun _ => rfl⟩
theorem snoc_at {α : Type} {l : List α} {x r : α} {q : Nat} (h : (l ++ [x])[q]? = some r) : (q < l.length ∧ l[q]? = some r) ∨ (q = l.length ∧ x = r) := by
  by_cases e : q < l.length
  · rw [List.getElem?_append_left e] at h; exact Or.inl ⟨e, h⟩
  · rw [List.getElem?_append_right (by omega)] at h
    cases z : q - l.length with
    | zero => rw [z] at h; simp at h; exact Or.inr ⟨by omega, h⟩
    | succ m => rw [z] at h; simp at h

theorem wX2_clause {G : GT} {δ : Nat} {h hl : Nat → Int → Int} {b : Bool × Bool} {Q : V → Hp → Prop} {st : RSt} {i n : Int} {K Vf Pf : Int → Int} (hδ : δ ≤ 880) (Bb : ClB K Vf Pf n h) (hj : h 314 10 = i) (i0 : 0 ≤ i) (i1 : i ≤ n - 1) (t : TkE K n) (kr : ∀ i, 0 ≤ i → i ≤ n - 1 → 0 ≤ K i) (Dr : DrI h st) (cl : (st.2.1.length : Int) ≤ 2 * i) (hQ : CPq Pf h hl b Q (clP K Vf i st)) : WP G δ 0 0 MX2_clause 0 [vr (314), vn, vn] [] (HS h hl b) Q := by
  obtain ⟨hK, hV, hP⟩ := Bb.2 i i0 (by omega)
  have tn := t.2.1
  obtain ⟨D0, D1, D3, D4, D5⟩ := Dr
  have kR := kr i i0 i1
  unfold clP at hQ
  have T91 : st.1.length < 24 → (K i = 0 ∨ (10 ≤ K i ∧ K i ≤ 16)) → CPq Pf h hl b Q (if K i = 10 ∨ K i = 11 then (match (lvP K Vf (K i - 10) 8).1 (i + 1) st.2.1.length with | .inl e => .inl e | .inr (j, C, M, D) => if K j = 53 then .inr (j + 1, st.1 ++ [(K i - 10, (st.2.2.1.length : Int), (st.2.2.1.length : Int) + M.length, 0)], st.2.1 ++ (C ++ [53]), st.2.2.1 ++ M, (if K i = 10 then ((st.2.1.length : Int), st.2.2.2.1.2) else (st.2.2.2.1.1, (st.2.1.length : Int))), (if K i = 10 then (some D, st.2.2.2.2.2) else (st.2.2.2.2.1, some D))) else .inl (1, j)) else (match itP K Vf (itK (K i)) (i + 1) with | .inl e => .inl e | .inr x => if K x.1 = 53 then .inr (x.1 + 1, st.1 ++ [numR (msK (K i)) x.2], st.2) else .inl (1, x.1))) → WP G δ 0 0 MX2_clause 91 [vr 314, vi (K i), vn] [] (HS h hl b) Q := by
    intro l24 hk hQ
    refine al_0 dX2_clause_91 ?_
    refine g_X2_22 (316) dX2_clause_92 rfl tt314 (rr2_5 tt314) (by omega) ?_
    refine il_1 dX2_clause_95 ?_
    refine c_X2_132 dX2_clause_96 rfl tt316 (Nat.le_of_ble_eq_true rfl) (by omega) ?_
    refine wX3_addClause (by omega) (by rw [D0]; omega) (by rw [D0]; omega) ?_
    refine pv_n ?_
    refine al_0 dX2_clause_99 ?_
    refine c_X2_116 dX2_clause_100 rfl tt314 (Nat.le_of_ble_eq_true rfl) (by omega) ?_
    refine wX2_pass (n := n) (K := K) (Vf := Vf) (Pf := Pf) (i := i) (by omega) (RdE.B (((RdE.rf.u (Or.inr (Or.inl rfl))).u (Or.inl rfl)).u (Or.inl rfl)) Bb) (by rw [up_o (by decide), up_o (by decide), up_o (by decide)]; exact hj) i0 i1 t (by omega) ?_
    have i2 := tk_lt t i1 (by omega)
    obtain ⟨h1, e1⟩ : ∃ h1, h1 = (up (up (up (up h 317 (h 316 0) (K i)) 316 0 (h 316 0 + 1)) 316 1 0) 314 10 (i + 1)) := ⟨_, rfl⟩
    have R1 : RdE h h1 := by rw [e1]; exact (((RdE.rf.u (Or.inr (Or.inl rfl))).u (Or.inl rfl)).u (Or.inl rfl)).u4 rfl
    have j1 : h1 314 10 = i + 1 := by rw [e1, up_s]
    have a0 : h1 316 0 = st.1.length + 1 := by rw [e1, up_o (by decide), up_k (by decide), up_s, D0]
    have a1 : h1 316 1 = 0 := by rw [e1, up_o (by decide), up_s]
    have a2 : ∀ k : Int, k ≠ 0 → k ≠ 1 → h1 316 k = h 316 k := fun k k0 k1 => by rw [e1, up_o (by decide), up_k k1, up_k k0, up_o (by decide)]
    have a7 : h1 317 st.1.length = K i := by rw [e1, up_o (by decide), up_o (by decide), up_o (by decide), D0, up_s]
    have a7' : ∀ k : Int, k ≠ st.1.length → h1 317 k = h 317 k := fun k hk => by rw [e1, up_o (by decide), up_o (by decide), up_o (by decide), D0, up_k hk]
    have a8 : h1 318 = h 318 := by rw [e1, up_o' (by decide), up_o' (by decide), up_o' (by decide), up_o' (by decide)]
    have a9 : h1 319 = h 319 := by rw [e1, up_o' (by decide), up_o' (by decide), up_o' (by decide), up_o' (by decide)]
    refine pv_n ?_
    rw [← e1]
    refine il_1 dX2_clause_103 ?_
    refine bi_10 dX2_clause_104 ?_
    refine wp_icmp_eq 115 dX2_clause_106 rfl (fun c106 => ?_) (fun c106 => ?_)
    · refine al_0 dX2_clause_115 ?_
      refine il_1 dX2_clause_116 ?_
      rw [if_pos (by omega)] at hQ
      refine c_X2_135 dX2_clause_117 rfl tt314 (Nat.le_of_ble_eq_true rfl) (by omega) ?_
      obtain ⟨s, hs⟩ : ∃ s, s = K i - 10 := ⟨_, rfl⟩
      rw [← hs] at hQ
      have g := (lvP_G (V := Vf) (s := s) t 8).1 (i + 1) st.2.1.length (by omega) i2
      refine wX2_law (s := s) (CC := st.2.1) (by omega) (R1.B Bb) j1 (by omega) i2 t kr (by omega) (by omega) (D1.c (a2 2 (by decide) (by decide)) a9) (by omega) (fun f j hr h2 E2 f2 p2 => ?_) (fun j C M D hr h2 E2 j2 d2 => ?_)
      · refine pv_i ?_
        rw [hr] at hQ
        refine wp_goto 128 dX2_clause_120 rfl ?_
        refine is_2 dX2_clause_128 rfl (by decide) ?_
        refine il_2 dX2_clause_129 ?_
        refine wp_if_eq 146 dX2_clause_130 rfl (fun c130 => ?_) (fun c130 => ?_)
        · refine ic_0 dX2_clause_146 ?_
          refine wp_iretz dX2_clause_147 rfl (by omega) ?_
          exact hQ h2 (R1.f.tr E2) f2 p2
        · exact absurd rfl c130
      · refine pv_i ?_
        rw [hr] at hQ g
        have hQ : CPq Pf h hl b Q (if K j = 53 then .inr (j + 1, st.1 ++ [(s, (st.2.2.1.length : Int), (st.2.2.1.length : Int) + M.length, 0)], st.2.1 ++ (C ++ [53]), st.2.2.1 ++ M, (if K i = 10 then ((st.2.1.length : Int), st.2.2.2.1.2) else (st.2.2.2.1.1, (st.2.1.length : Int))), (if K i = 10 then (some D, st.2.2.2.2.2) else (st.2.2.2.2.1, some D))) else .inl (1, j)) := hQ
        obtain ⟨r1, r2, r3, r4⟩ := g
        have E3 : RdE h h2 := R1.tr ((RdE.rf.u (Or.inl rfl)).tr (RdE.l E2))
        refine wp_goto 128 dX2_clause_120 rfl ?_
        refine is_2 dX2_clause_128 rfl (by decide) ?_
        refine il_2 dX2_clause_129 ?_
        refine wp_if_eq 146 dX2_clause_130 rfl (fun c130 => ?_) (fun c130 => ?_)
        · exact absurd c130 (by decide)
        · refine al_0 dX2_clause_133 ?_
          refine bi_53 dX2_clause_134 ?_
          refine c_X2_141 dX2_clause_136 rfl tt314 (Nat.le_of_ble_eq_true rfl) (by omega) ?_
          refine wX2_expect (k := 53) (K := K) (Vf := Vf) (Pf := Pf) (n := n) (i := j) (by omega) (RdE.B E3 Bb) j2 (by omega) r2 t (by decide) (fun q => ?_) (fun q => ?_)
          · refine pv_i ?_
            refine wp_if_eq 146 dX2_clause_139 rfl (fun c => absurd c (by decide)) (fun _ => ?_)
            refine ic_1 dX2_clause_142 ?_
            refine wp_goto 147 dX2_clause_143 rfl ?_
            refine wp_iretz dX2_clause_147 rfl (by omega) ?_
            rw [if_pos q] at hQ
            refine hQ _ (E3.u4 rfl) up_s ⟨?_, d2.at, ?_, ?_, fun q' r hr' => ?_⟩
            · rw [up_o (by decide), E2.1.2.2 0 (by decide), up_k (by omega), a0]; show _ = (((st.1 ++ [_]).length : Nat) : Int); simp
            · rw [up_o (by decide), E2.1.2.2 3 (by decide)]
              by_cases k10 : K i = 10
              · rw [if_pos k10, show 3 + s = 3 by omega, up_s]
              · rw [if_neg k10, up_k (by omega), a2 3 (by decide) (by decide)]; exact D3
            · rw [up_o (by decide), E2.1.2.2 4 (by decide)]
              by_cases k10 : K i = 10
              · rw [if_pos k10, up_k (by omega), a2 4 (by decide) (by decide)]; exact D4
              · rw [if_neg k10, show 3 + s = 4 by omega, up_s]
            · rcases snoc_at hr' with ⟨x1, x2⟩ | ⟨x1, x2⟩
              · refine (D5 q' r x2).c ?_ (fun z z0 z1 => ?_)
                · rw [up_o (by decide), E2.1.1 317 (by decide), up_o (by decide), a7' _ (by omega)]
                · rw [up_o (by decide), E2.1.1 318 (by decide), up_o (by decide), a8]
              · subst x2 x1
                refine ⟨?_, fun z => ?_, fun z => ?_, fun z => ?_⟩
                · rw [up_o (by decide), E2.1.1 317 (by decide), up_o (by decide), a7]
                  show K i = kmp s
                  unfold kmp; rw [if_neg (by omega)]; omega
                · exfalso; have z : 2 ≤ s := z; omega
                · exfalso; have z : 2 ≤ s := z; omega
                · exfalso; have z : s = 4 := z; omega
          · refine pv_i ?_
            refine wp_if_eq 146 dX2_clause_139 rfl (fun _ => ?_) (fun c => absurd rfl c)
            refine ic_0 dX2_clause_146 ?_
            refine wp_iretz dX2_clause_147 rfl (by omega) ?_
            rw [if_neg q] at hQ
            exact hQ _ ((E3.f.u4 (Or.inl rfl)).u4 (Or.inr (Or.inl rfl))) (by rw [up_k (by decide), up_s]) up_s
    · refine il_1 dX2_clause_109 ?_
      refine bi_11 dX2_clause_110 ?_
      refine wp_icmp_ne 123 dX2_clause_112 rfl (fun c112 => ?_) (fun c112 => ?_)
      · refine al_0 dX2_clause_123 ?_
        refine il_1 dX2_clause_124 ?_
        rw [if_neg (by omega)] at hQ
        refine c_X2_138 dX2_clause_125 rfl tt314 (Nat.le_of_ble_eq_true rfl) (by omega) ?_
        have g := itP_G (V := Vf) t (itK (K i)) (i + 1) (fun w h => itK_w h) (by omega) i2
        have hk2 : K i = 0 ∨ (12 ≤ K i ∧ K i ≤ 16) := by omega
        have gn := itK_n hk2
        refine wX2_order (c := st.1.length + 1) (by omega) (R1.B Bb) j1 (by omega) i2 t a0 (by omega) (by omega) ⟨a1, fun q h => absurd h (Nat.not_lt_zero _)⟩ hk2 (OQ_of _ _ _ ?_)
        cases hr : itP K Vf (itK (K i)) (i + 1) with
        | inl e =>
          rw [hr] at hQ
          intro h2 E2 f2 p2
          refine pv_i ?_
          refine is_2 dX2_clause_128 rfl (by decide) ?_
          refine il_2 dX2_clause_129 ?_
          refine wp_if_eq 146 dX2_clause_130 rfl (fun c130 => ?_) (fun c130 => ?_)
          · refine ic_0 dX2_clause_146 ?_
            refine wp_iretz dX2_clause_147 rfl (by omega) ?_
            exact hQ h2 (R1.f.tr (RdF.o E2)) f2 p2
          · exact absurd rfl c130
        | inr x =>
          rw [hr] at hQ g
          have hQ : CPq Pf h hl b Q (if K x.1 = 53 then .inr (x.1 + 1, st.1 ++ [numR (msK (K i)) x.2], st.2) else .inl (1, x.1)) := hQ
          obtain ⟨r1, r2, r3⟩ := g
          intro h2 E2 j2 N2
          have N2 : Nums (st.1.length + 1) h2 x.2 := N2
          have E3 : RdE h h2 := R1.tr (RdE.o E2)
          refine pv_i ?_
          refine is_2 dX2_clause_128 rfl (by decide) ?_
          refine il_2 dX2_clause_129 ?_
          refine wp_if_eq 146 dX2_clause_130 rfl (fun c130 => ?_) (fun c130 => ?_)
          · exact absurd c130 (by decide)
          · refine al_0 dX2_clause_133 ?_
            refine bi_53 dX2_clause_134 ?_
            refine c_X2_141 dX2_clause_136 rfl tt314 (Nat.le_of_ble_eq_true rfl) (by omega) ?_
            refine wX2_expect (k := 53) (K := K) (Vf := Vf) (Pf := Pf) (n := n) (i := x.1) (by omega) (RdE.B E3 Bb) j2 (by omega) r2 t (by decide) (fun q => ?_) (fun q => ?_)
            · refine pv_i ?_
              refine wp_if_eq 146 dX2_clause_139 rfl (fun c => absurd c (by decide)) (fun _ => ?_)
              refine ic_1 dX2_clause_142 ?_
              refine wp_goto 147 dX2_clause_143 rfl ?_
              refine wp_iretz dX2_clause_147 rfl (by omega) ?_
              rw [if_pos q] at hQ
              have km := kmp_ms (k := K i) (by omega)
              refine hQ _ (E3.u4 rfl) up_s ⟨?_, Cd.at (D1.c ?_ ?_), ?_, ?_, fun q' r hr' => ?_⟩
              · rw [up_o (by decide), E2.1.2.2.1 0 (by decide), a0]; show _ = (((st.1 ++ [_]).length : Nat) : Int); simp
              · rw [E2.1.2.2.1 2 (by decide), a2 2 (by decide) (by decide)]
              · rw [E2.1.1 319 (by decide), a9]
              · rw [up_o (by decide), E2.1.2.2.1 3 (by decide), a2 3 (by decide) (by decide)]; exact D3
              · rw [up_o (by decide), E2.1.2.2.1 4 (by decide), a2 4 (by decide) (by decide)]; exact D4
              · rcases snoc_at hr' with ⟨x1, x2⟩ | ⟨x1, x2⟩
                · refine (D5 q' r x2).c ?_ (fun z z0 z1 => ?_)
                  · rw [up_o (by decide), E2.1.1 317 (by decide), a7' _ (by omega)]
                  · rw [up_o (by decide), E2.1.2.2.2 _ (by omega), a8]
                · subst x2 x1
                  have nn : ∀ (q : Nat), q < x.2.length → h2 318 ((st.1.length : Int) * 3 + q) = x.2.getD q 0 := fun q hq => by
                    rw [← N2.2 q hq]; congr 1; omega
                  refine ⟨?_, fun z => ?_, fun z z5 => ?_, fun z => ?_⟩
                  · rw [up_o (by decide), E2.1.1 317 (by decide), a7]
                    exact km.1.symm
                  · rw [up_o (by decide)]
                    exact nn 0 (by rw [r3, gn]; split <;> (try split) <;> omega)
                  · have z : 2 ≤ msK (K i) := z
                    have z5 : msK (K i) ≤ 5 := z5
                    rw [up_o (by decide)]
                    exact nn 1 (by rw [r3, gn]; split <;> (try split) <;> omega)
                  · have z : msK (K i) = 4 := z
                    rw [up_o (by decide)]
                    exact nn 2 (by rw [r3, gn]; split <;> (try split) <;> omega)
            · refine pv_i ?_
              refine wp_if_eq 146 dX2_clause_139 rfl (fun _ => ?_) (fun c => absurd rfl c)
              refine ic_0 dX2_clause_146 ?_
              refine wp_iretz dX2_clause_147 rfl (by omega) ?_
              rw [if_neg q] at hQ
              exact hQ _ ((E3.f.u4 (Or.inl rfl)).u4 (Or.inr (Or.inl rfl))) (by rw [up_k (by decide), up_s]) up_s
      · refine al_0 dX2_clause_115 ?_
        refine il_1 dX2_clause_116 ?_
        rw [if_pos (by omega)] at hQ
        refine c_X2_135 dX2_clause_117 rfl tt314 (Nat.le_of_ble_eq_true rfl) (by omega) ?_
        obtain ⟨s, hs⟩ : ∃ s, s = K i - 10 := ⟨_, rfl⟩
        rw [← hs] at hQ
        have g := (lvP_G (V := Vf) (s := s) t 8).1 (i + 1) st.2.1.length (by omega) i2
        refine wX2_law (s := s) (CC := st.2.1) (by omega) (R1.B Bb) j1 (by omega) i2 t kr (by omega) (by omega) (D1.c (a2 2 (by decide) (by decide)) a9) (by omega) (fun f j hr h2 E2 f2 p2 => ?_) (fun j C M D hr h2 E2 j2 d2 => ?_)
        · refine pv_i ?_
          rw [hr] at hQ
          refine wp_goto 128 dX2_clause_120 rfl ?_
          refine is_2 dX2_clause_128 rfl (by decide) ?_
          refine il_2 dX2_clause_129 ?_
          refine wp_if_eq 146 dX2_clause_130 rfl (fun c130 => ?_) (fun c130 => ?_)
          · refine ic_0 dX2_clause_146 ?_
            refine wp_iretz dX2_clause_147 rfl (by omega) ?_
            exact hQ h2 (R1.f.tr E2) f2 p2
          · exact absurd rfl c130
        · refine pv_i ?_
          rw [hr] at hQ g
          have hQ : CPq Pf h hl b Q (if K j = 53 then .inr (j + 1, st.1 ++ [(s, (st.2.2.1.length : Int), (st.2.2.1.length : Int) + M.length, 0)], st.2.1 ++ (C ++ [53]), st.2.2.1 ++ M, (if K i = 10 then ((st.2.1.length : Int), st.2.2.2.1.2) else (st.2.2.2.1.1, (st.2.1.length : Int))), (if K i = 10 then (some D, st.2.2.2.2.2) else (st.2.2.2.2.1, some D))) else .inl (1, j)) := hQ
          obtain ⟨r1, r2, r3, r4⟩ := g
          have E3 : RdE h h2 := R1.tr ((RdE.rf.u (Or.inl rfl)).tr (RdE.l E2))
          refine wp_goto 128 dX2_clause_120 rfl ?_
          refine is_2 dX2_clause_128 rfl (by decide) ?_
          refine il_2 dX2_clause_129 ?_
          refine wp_if_eq 146 dX2_clause_130 rfl (fun c130 => ?_) (fun c130 => ?_)
          · exact absurd c130 (by decide)
          · refine al_0 dX2_clause_133 ?_
            refine bi_53 dX2_clause_134 ?_
            refine c_X2_141 dX2_clause_136 rfl tt314 (Nat.le_of_ble_eq_true rfl) (by omega) ?_
            refine wX2_expect (k := 53) (K := K) (Vf := Vf) (Pf := Pf) (n := n) (i := j) (by omega) (RdE.B E3 Bb) j2 (by omega) r2 t (by decide) (fun q => ?_) (fun q => ?_)
            · refine pv_i ?_
              refine wp_if_eq 146 dX2_clause_139 rfl (fun c => absurd c (by decide)) (fun _ => ?_)
              refine ic_1 dX2_clause_142 ?_
              refine wp_goto 147 dX2_clause_143 rfl ?_
              refine wp_iretz dX2_clause_147 rfl (by omega) ?_
              rw [if_pos q] at hQ
              refine hQ _ (E3.u4 rfl) up_s ⟨?_, d2.at, ?_, ?_, fun q' r hr' => ?_⟩
              · rw [up_o (by decide), E2.1.2.2 0 (by decide), up_k (by omega), a0]; show _ = (((st.1 ++ [_]).length : Nat) : Int); simp
              · rw [up_o (by decide), E2.1.2.2 3 (by decide)]
                by_cases k10 : K i = 10
                · rw [if_pos k10, show 3 + s = 3 by omega, up_s]
                · rw [if_neg k10, up_k (by omega), a2 3 (by decide) (by decide)]; exact D3
              · rw [up_o (by decide), E2.1.2.2 4 (by decide)]
                by_cases k10 : K i = 10
                · rw [if_pos k10, up_k (by omega), a2 4 (by decide) (by decide)]; exact D4
                · rw [if_neg k10, show 3 + s = 4 by omega, up_s]
              · rcases snoc_at hr' with ⟨x1, x2⟩ | ⟨x1, x2⟩
                · refine (D5 q' r x2).c ?_ (fun z z0 z1 => ?_)
                  · rw [up_o (by decide), E2.1.1 317 (by decide), up_o (by decide), a7' _ (by omega)]
                  · rw [up_o (by decide), E2.1.1 318 (by decide), up_o (by decide), a8]
                · subst x2 x1
                  refine ⟨?_, fun z => ?_, fun z => ?_, fun z => ?_⟩
                  · rw [up_o (by decide), E2.1.1 317 (by decide), up_o (by decide), a7]
                    show K i = kmp s
                    unfold kmp; rw [if_neg (by omega)]; omega
                  · exfalso; have z : 2 ≤ s := z; omega
                  · exfalso; have z : 2 ≤ s := z; omega
                  · exfalso; have z : s = 4 := z; omega
            · refine pv_i ?_
              refine wp_if_eq 146 dX2_clause_139 rfl (fun _ => ?_) (fun c => absurd rfl c)
              refine ic_0 dX2_clause_146 ?_
              refine wp_iretz dX2_clause_147 rfl (by omega) ?_
              rw [if_neg q] at hQ
              exact hQ _ ((E3.f.u4 (Or.inl rfl)).u4 (Or.inr (Or.inl rfl))) (by rw [up_k (by decide), up_s]) up_s
  have T72 : (K i = 0 ∨ (10 ≤ K i ∧ K i ≤ 16)) → CPq Pf h hl b Q (if 24 ≤ st.1.length then .inl (6, i) else if K i = 10 ∨ K i = 11 then (match (lvP K Vf (K i - 10) 8).1 (i + 1) st.2.1.length with | .inl e => .inl e | .inr (j, C, M, D) => if K j = 53 then .inr (j + 1, st.1 ++ [(K i - 10, (st.2.2.1.length : Int), (st.2.2.1.length : Int) + M.length, 0)], st.2.1 ++ (C ++ [53]), st.2.2.1 ++ M, (if K i = 10 then ((st.2.1.length : Int), st.2.2.2.1.2) else (st.2.2.2.1.1, (st.2.1.length : Int))), (if K i = 10 then (some D, st.2.2.2.2.2) else (st.2.2.2.2.1, some D))) else .inl (1, j)) else (match itP K Vf (itK (K i)) (i + 1) with | .inl e => .inl e | .inr x => if K x.1 = 53 then .inr (x.1 + 1, st.1 ++ [numR (msK (K i)) x.2], st.2) else .inl (1, x.1))) → WP G δ 0 0 MX2_clause 72 [vr 314, vi (K i), vn] [] (HS h hl b) Q := by
    intro hk hQ
    refine al_0 dX2_clause_72 ?_
    refine g_X2_22 (316) dX2_clause_73 rfl tt314 (rr2_5 tt314) (by omega) ?_
    refine g_X2_129 dX2_clause_76 rfl tt316 ?_
    rw [D0]
    refine bi_24 dX2_clause_79 ?_
    refine wp_icmp_lt 91 dX2_clause_81 rfl (fun c81 => ?_) (fun c81 => ?_)
    · rw [if_neg (by omega)] at hQ
      exact T91 (by omega) hk hQ
    · refine al_0 dX2_clause_84 ?_
      refine bi_6 dX2_clause_85 ?_
      refine c_X2_113 dX2_clause_87 rfl tt314 (Nat.le_of_ble_eq_true rfl) (by omega) ?_
      refine wX2_fail (by omega) Bb hj i0 i1 t ?_
      refine pv_i ?_
      refine wp_iretz dX2_clause_90 rfl (by omega) ?_
      rw [if_pos (by omega)] at hQ
      exact hQ _ ((RdF.rf.u4 (Or.inl rfl)).u4 (Or.inr (Or.inl rfl))) (by rw [up_k (by decide), up_s]) up_s
  have T32 : (K i = 0 ∨ (10 ≤ K i ∧ K i ≤ 16)) → CPq Pf h hl b Q (if (K i = 10 ∧ ¬ st.2.2.2.1.1 = -1) ∨ (K i = 11 ∧ ¬ st.2.2.2.1.2 = -1) then .inl (4, i) else if 24 ≤ st.1.length then .inl (6, i) else if K i = 10 ∨ K i = 11 then (match (lvP K Vf (K i - 10) 8).1 (i + 1) st.2.1.length with | .inl e => .inl e | .inr (j, C, M, D) => if K j = 53 then .inr (j + 1, st.1 ++ [(K i - 10, (st.2.2.1.length : Int), (st.2.2.1.length : Int) + M.length, 0)], st.2.1 ++ (C ++ [53]), st.2.2.1 ++ M, (if K i = 10 then ((st.2.1.length : Int), st.2.2.2.1.2) else (st.2.2.2.1.1, (st.2.1.length : Int))), (if K i = 10 then (some D, st.2.2.2.2.2) else (st.2.2.2.2.1, some D))) else .inl (1, j)) else (match itP K Vf (itK (K i)) (i + 1) with | .inl e => .inl e | .inr x => if K x.1 = 53 then .inr (x.1 + 1, st.1 ++ [numR (msK (K i)) x.2], st.2) else .inl (1, x.1))) → WP G δ 0 0 MX2_clause 32 [vr 314, vi (K i), vn] [] (HS h hl b) Q := by
    intro hk hQ
    refine il_1 dX2_clause_32 ?_
    refine bi_10 dX2_clause_33 ?_
    refine wp_icmp_ne 49 dX2_clause_35 rfl (fun c35 => ?_) (fun c35 => ?_)
    · refine il_1 dX2_clause_49 ?_
      refine bi_11 dX2_clause_50 ?_
      refine wp_icmp_ne 72 dX2_clause_52 rfl (fun c52 => ?_) (fun c52 => ?_)
      · rw [if_neg (by omega)] at hQ
        exact T72 hk hQ
      · refine al_0 dX2_clause_55 ?_
        refine g_X2_22 (316) dX2_clause_56 rfl tt314 (rr2_5 tt314) (by omega) ?_
        refine g_X2_126 dX2_clause_59 rfl tt316 ?_
        rw [D4]
        refine ic_m1 dX2_clause_62 ?_
        refine wp_icmp_eq 72 dX2_clause_63 rfl (fun c63 => ?_) (fun c63 => ?_)
        · rw [if_neg (by omega)] at hQ
          exact T72 hk hQ
        · refine al_0 dX2_clause_66 ?_
          refine ic_4 dX2_clause_67 ?_
          refine c_X2_113 dX2_clause_68 rfl tt314 (Nat.le_of_ble_eq_true rfl) (by omega) ?_
          refine wX2_fail (by omega) Bb hj i0 i1 t ?_
          refine pv_i ?_
          refine wp_iretz dX2_clause_71 rfl (by omega) ?_
          rw [if_pos (by omega)] at hQ
          exact hQ _ ((RdF.rf.u4 (Or.inl rfl)).u4 (Or.inr (Or.inl rfl))) (by rw [up_k (by decide), up_s]) up_s
    · refine al_0 dX2_clause_38 ?_
      refine g_X2_22 (316) dX2_clause_39 rfl tt314 (rr2_5 tt314) (by omega) ?_
      refine g_X2_123 dX2_clause_42 rfl tt316 ?_
      rw [D3]
      refine ic_m1 dX2_clause_45 ?_
      refine wp_icmp_ne 66 dX2_clause_46 rfl (fun c46 => ?_) (fun c46 => ?_)
      · refine al_0 dX2_clause_66 ?_
        refine ic_4 dX2_clause_67 ?_
        refine c_X2_113 dX2_clause_68 rfl tt314 (Nat.le_of_ble_eq_true rfl) (by omega) ?_
        refine wX2_fail (by omega) Bb hj i0 i1 t ?_
        refine pv_i ?_
        refine wp_iretz dX2_clause_71 rfl (by omega) ?_
        rw [if_pos (by omega)] at hQ
        exact hQ _ ((RdF.rf.u4 (Or.inl rfl)).u4 (Or.inr (Or.inl rfl))) (by rw [up_k (by decide), up_s]) up_s
      · refine il_1 dX2_clause_49 ?_
        refine bi_11 dX2_clause_50 ?_
        refine wp_icmp_ne 72 dX2_clause_52 rfl (fun c52 => ?_) (fun c52 => ?_)
        · rw [if_neg (by omega)] at hQ
          exact T72 hk hQ
        · refine al_0 dX2_clause_55 ?_
          refine g_X2_22 (316) dX2_clause_56 rfl tt314 (rr2_5 tt314) (by omega) ?_
          refine g_X2_126 dX2_clause_59 rfl tt316 ?_
          rw [D4]
          refine ic_m1 dX2_clause_62 ?_
          refine wp_icmp_eq 72 dX2_clause_63 rfl (fun c63 => ?_) (fun c63 => ?_)
          · rw [if_neg (by omega)] at hQ
            exact T72 hk hQ
          · refine al_0 dX2_clause_66 ?_
            refine ic_4 dX2_clause_67 ?_
            refine c_X2_113 dX2_clause_68 rfl tt314 (Nat.le_of_ble_eq_true rfl) (by omega) ?_
            refine wX2_fail (by omega) Bb hj i0 i1 t ?_
            refine pv_i ?_
            refine wp_iretz dX2_clause_71 rfl (by omega) ?_
            rw [if_pos (by omega)] at hQ
            exact hQ _ ((RdF.rf.u4 (Or.inl rfl)).u4 (Or.inr (Or.inl rfl))) (by rw [up_k (by decide), up_s]) up_s
  refine al_0 dX2_clause_0 ?_
  refine g_X2_26 (320) dX2_clause_1 rfl tt314 (rr2_6 tt314) (by omega) ?_
  refine al_0 dX2_clause_4 ?_
  refine g_X2_51 dX2_clause_5 rfl tt314 ?_
  rw [hj]
  refine wp_iaload dX2_clause_8 tt320 (by omega) (by omega) ?_
  rw [hK]
  refine is_1 dX2_clause_9 rfl (by decide) ?_
  refine il_1 dX2_clause_10 ?_
  refine wp_if_eq 32 dX2_clause_11 rfl (fun c11 => ?_) (fun c11 => ?_)
  · rw [if_neg (by omega)] at hQ
    exact T32 (by omega) hQ
  · refine il_1 dX2_clause_14 ?_
    refine bi_10 dX2_clause_15 ?_
    refine wp_icmp_lt 26 dX2_clause_17 rfl (fun c17 => ?_) (fun c17 => ?_)
    · refine al_0 dX2_clause_26 ?_
      refine ic_1 dX2_clause_27 ?_
      refine c_X2_113 dX2_clause_28 rfl tt314 (Nat.le_of_ble_eq_true rfl) (by omega) ?_
      refine wX2_fail (by omega) Bb hj i0 i1 t ?_
      refine pv_i ?_
      refine wp_iretz dX2_clause_31 rfl (by omega) ?_
      rw [if_pos (by omega)] at hQ
      exact hQ _ ((RdF.rf.u4 (Or.inl rfl)).u4 (Or.inr (Or.inl rfl))) (by rw [up_k (by decide), up_s]) up_s
    · refine il_1 dX2_clause_20 ?_
      refine bi_16 dX2_clause_21 ?_
      refine wp_icmp_le 32 dX2_clause_23 rfl (fun c23 => ?_) (fun c23 => ?_)
      · rw [if_neg (by omega)] at hQ
        exact T32 (by omega) hQ
      · refine al_0 dX2_clause_26 ?_
        refine ic_1 dX2_clause_27 ?_
        refine c_X2_113 dX2_clause_28 rfl tt314 (Nat.le_of_ble_eq_true rfl) (by omega) ?_
        refine wX2_fail (by omega) Bb hj i0 i1 t ?_
        refine pv_i ?_
        refine wp_iretz dX2_clause_31 rfl (by omega) ?_
        rw [if_pos (by omega)] at hQ
        exact hQ _ ((RdF.rf.u4 (Or.inl rfl)).u4 (Or.inr (Or.inl rfl))) (by rw [up_k (by decide), up_s]) up_s
