/-! the class's reader in its cells -/
def ClB (K V Pf : Int → Int) (n : Int) (h : Nat → Int → Int) : Prop := h 314 9 = n ∧ ∀ j : Int, 0 ≤ j → j < n → h 320 j = K j ∧ h 321 j = V j ∧ h 322 j = Pf j
def ClF (h h' : Nat → Int → Int) : Prop := eqX [314, 316, 319] h h' ∧ (∀ k : Int, k ≠ 3 → k ≠ 4 → k ≠ 10 → h' 314 k = h 314 k) ∧ ∀ k : Int, k ≠ 2 → h' 316 k = h 316 k
def ClE (h h' : Nat → Int → Int) : Prop := ClF h h' ∧ h' 314 3 = h 314 3 ∧ h' 314 4 = h 314 4
def Cd (h : Nat → Int → Int) (C : List Int) : Prop := h 316 2 = C.length ∧ hasC (h 319) 0 C
def CQr (Pf : Int → Int) (CC : List Int) (h hl : Nat → Int → Int) (b : Bool × Bool) (Q : V → Hp → Prop) (r : Res) : Prop := match r with
  | .inl e => ∀ h' : Nat → Int → Int, ClF h h' → h' 314 3 = e.1 → h' 314 4 = Pf e.2 → Q (vi 0) (HS h' hl b)
  | .inr (j, C, _, _) => ∀ h' : Nat → Int → Int, ClE h h' → h' 314 10 = j → Cd h' (CC ++ C) → Q (vi 1) (HS h' hl b)
def ImpF (G : GT) (hl : Nat → Int → Int) (b : Bool × Bool) (K Vf Pf : Int → Int) (n : Int) (D : Nat) (y : Md) (ls : List V) (pr : PF) : Prop := ∀ (δ : Nat) (h : Nat → Int → Int) (Q : V → Hp → Prop) (i : Int) (CC : List Int), δ ≤ D → ClB K Vf Pf n h → h 314 10 = i → 0 ≤ i → i ≤ n - 1 → Cd h CC → (CC.length : Int) ≤ 2 * i → CQr Pf CC h hl b Q (pr i CC.length) → WP G δ 0 0 y 0 ls [] (HS h hl b) Q
section CLS
variable {h h' h'' hl : Nat → Int → Int} {K V' Pf : Int → Int} {n : Int} {C : List Int}
theorem ClF.rf : ClF h h := ⟨eqX.rf, fun _ _ _ _ => rfl, fun _ _ => rfl⟩
theorem ClF.tr (a : ClF h h') (c : ClF h' h'') : ClF h h'' := ⟨a.1.tr c.1, fun k e1 e2 e3 => (c.2.1 k e1 e2 e3).trans (a.2.1 k e1 e2 e3), fun k e => (c.2.2 k e).trans (a.2.2 k e)⟩
theorem ClF.u4 (a : ClF h h') {k x : Int} (e : k = 3 ∨ k = 4 ∨ k = 10) : ClF h (up h' 314 k x) := ⟨a.1.up (by decide), fun j e1 e2 e3 => by rw [up_k (by omega)]; exact a.2.1 j e1 e2 e3, fun j e => by rw [up_o (by decide)]; exact a.2.2 j e⟩
theorem ClF.u6 (a : ClF h h') {x : Int} : ClF h (up h' 316 2 x) := ⟨a.1.up (by decide), fun j e1 e2 e3 => by rw [up_o (by decide)]; exact a.2.1 j e1 e2 e3, fun j e => by rw [up_k e]; exact a.2.2 j e⟩
theorem ClF.u9 (a : ClF h h') {k x : Int} : ClF h (up h' 319 k x) := ⟨a.1.up (by decide), fun j e1 e2 e3 => by rw [up_o (by decide)]; exact a.2.1 j e1 e2 e3, fun j e => by rw [up_o (by decide)]; exact a.2.2 j e⟩
theorem ClE.f (a : ClE h h') : ClF h h' := a.1
theorem ClE.rf : ClE h h := ⟨ClF.rf, rfl, rfl⟩
theorem ClE.tr (a : ClE h h') (c : ClE h' h'') : ClE h h'' := ⟨a.1.tr c.1, c.2.1.trans a.2.1, c.2.2.trans a.2.2⟩
theorem ClE.u4 (a : ClE h h') {k x : Int} (e : k = 10) : ClE h (up h' 314 k x) := ⟨a.1.u4 (Or.inr (Or.inr e)), by rw [up_k (by omega)]; exact a.2.1, by rw [up_k (by omega)]; exact a.2.2⟩
theorem ClB.c (B : ClB K V' Pf n h) (e : ClE h h') : ClB K V' Pf n h' := by
  refine ⟨by rw [e.1.2.1 9 (by decide) (by decide) (by decide)]; exact B.1, fun j j0 j1 => ?_⟩
  rw [e.1.1 320 (by decide), e.1.1 321 (by decide), e.1.1 322 (by decide)]
  exact B.2 j j0 j1
theorem hasC_c {E E' : Int → Int} : ∀ (C : List Int) (u : Int), (∀ k, u ≤ k → k < u + C.length → E' k = E k) → hasC E u C → hasC E' u C
  | [], _, _, _ => trivial
  | c :: C, u, e, hc => by
    rw [List.length_cons] at e
    refine ⟨?_, hasC_c C (u + 1) (fun k k0 k1 => e k (by omega) (by omega)) hc.2⟩
    rw [e u (by omega) (by omega)]; exact hc.1
theorem Cd.c (d : Cd h C) (e2 : h' 316 2 = h 316 2) (e9 : h' 319 = h 319) : Cd h' C := by
  unfold Cd; rw [e2, e9]; exact d
theorem Cd.at (d : Cd h C) {x : Int} : Cd (up h 314 10 x) C := d.c (up_o (by decide)) (by funext j; exact up_o (by decide))
theorem Cd.add (d : Cd h C) {x : Int} : Cd (up (up h 319 (h 316 2) x) 316 2 (h 316 2 + 1)) (C ++ [x]) := by
  refine ⟨by rw [up_s, d.1, List.length_append]; simp, ?_⟩
  rw [hasC_app]
  refine ⟨hasC_c C 0 (fun k k0 k1 => by rw [up_o (by decide), up_k (by rw [d.1]; omega)]) d.2, ?_, trivial⟩
  rw [up_o (by decide), d.1, show (0 : Int) + C.length = C.length by omega, up_s]
theorem lenA {A B : List Int} : ((A ++ B).length : Int) = A.length + B.length := by rw [List.length_append]; omega
theorem hasC_set {E : Int → Int} {A B : List Int} {x y : Int} (hc : hasC E 0 (A ++ x :: B)) : hasC (fun k => if k = A.length then y else E k) 0 (A ++ y :: B) := by
  rw [hasC_app] at hc ⊢
  refine ⟨hasC_c A 0 (fun k k0 k1 => if_neg (by omega)) hc.1, if_pos (by omega), hasC_c B _ (fun k k0 k1 => if_neg (by omega)) hc.2.2⟩
/-- a jump's aim set -/
theorem Cd.land {A B : List Int} {x y : Int} (d : Cd h (A ++ x :: B)) {p : Int} (ep : p = A.length) (ey : h 316 2 = y) : Cd (up h 319 p (h 316 2)) (A ++ y :: B) := by
  subst ep
  refine ⟨by rw [up_o (by decide), d.1, List.length_append, List.length_append, List.length_cons, List.length_cons], ?_⟩
  rw [ey]
  refine hasC_c _ 0 (fun k k0 k1 => ?_) (hasC_set (y := y) d.2)
  show up h 319 A.length y 319 k = if k = A.length then y else h 319 k
  by_cases q : k = A.length
  · rw [if_pos q, q, up_s]
  · rw [if_neg q, up_k q]
end CLS
def CE (h h' : Nat → Int → Int) : Prop := eqX [316, 319] h h' ∧ ∀ k : Int, k ≠ 2 → h' 316 k = h 316 k
section CES
variable {h h' h'' hl : Nat → Int → Int} {K V' Pf : Int → Int} {n : Int} {C : List Int}
theorem CE.cl (e : CE h h') : ClE h h' := ⟨⟨e.1.mono (by decide), fun k _ _ _ => by rw [e.1 314 (by decide)], e.2⟩, by rw [e.1 314 (by decide)], by rw [e.1 314 (by decide)]⟩
theorem CE.j (e : CE h h') {k : Int} : h' 314 k = h 314 k := by rw [e.1 314 (by decide)]
theorem CQr.mono {Pf : Int → Int} {CC : List Int} {h hl : Nat → Int → Int} {b : Bool × Bool} {Q Q' : V → Hp → Prop} {r : Res} (q : CQr Pf CC h hl b Q r) (k : ∀ (x : Int) (h' : Nat → Int → Int), (x = 0 ∨ x = 1) → Q (vi x) (HS h' hl b) → Q' (vi x) (HS h' hl b)) : CQr Pf CC h hl b Q' r := by
  rcases r with e | ⟨j, C, M, D⟩
  · exact fun h' a c d => k 0 h' (Or.inl rfl) (q h' a c d)
  · exact fun h' a c d => k 1 h' (Or.inr rfl) (q h' a c d)
theorem CQr.c {Pf : Int → Int} {CC : List Int} {h h1 hl : Nat → Int → Int} {b : Bool × Bool} {Q : V → Hp → Prop} {r : Res} (q : CQr Pf CC h hl b Q r) (e : ClE h h1) : CQr Pf CC h1 hl b Q r := by
  rcases r with x | ⟨j, C, M, D⟩
  · exact fun h' a c d => q h' (e.f.tr a) c d
  · exact fun h' a c d => q h' (e.tr a) c d
end CES

theorem wX2_fail {G : GT} {δ : Nat} {h hl : Nat → Int → Int} {b : Bool × Bool} {Q : V → Hp → Prop} {f : Int} {i n : Int} {K Vf Pf : Int → Int} (hδ : δ ≤ 1700) (Bb : ClB K Vf Pf n h) (hj : h 314 10 = i) (i0 : 0 ≤ i) (i1 : i ≤ n - 1) (t : TkE K n) (hQ : Q (vi 0) (HS (up (up h 314 3 f) 314 4 (Pf i)) hl b)) : WP G δ 0 0 MX2_fail 0 [vr (314), vi f] [] (HS h hl b) Q := by
  obtain ⟨hK, hV, hP⟩ := Bb.2 i i0 (by omega)
  have tn := t.2.1
  refine al_0 dX2_fail_0 ?_
  refine il_1 dX2_fail_1 ?_
  refine p_X2_42 dX2_fail_2 rfl tt314 ?_
  refine al_0 dX2_fail_5 ?_
  refine al_0 dX2_fail_6 ?_
  refine g_X2_32 (322) dX2_fail_7 rfl tt314 (rr2_8 tt314) (by omega) ?_
  refine al_0 dX2_fail_10 ?_
  refine g_X2_51 dX2_fail_11 rfl tt314 ?_
  rw [up_k (o := 314) (q := 314) (k := 3) (j := 10) (by decide)]
  rw [hj]
  refine wp_iaload dX2_fail_14 tt322 (by omega) (by omega) ?_
  rw [up_o (by decide), hP]
  refine p_X2_15 dX2_fail_15 rfl tt314 ?_
  refine ic_0 dX2_fail_18 ?_
  refine wp_iretz dX2_fail_19 rfl (by omega) ?_
  exact hQ

theorem wX2_pass {G : GT} {δ : Nat} {h hl : Nat → Int → Int} {b : Bool × Bool} {Q : V → Hp → Prop} {i n : Int} {K Vf Pf : Int → Int} (hδ : δ ≤ 1700) (Bb : ClB K Vf Pf n h) (hj : h 314 10 = i) (i0 : 0 ≤ i) (i1 : i ≤ n - 1) (t : TkE K n) (ne : ¬ K i = 54) (hQ : Q vn (HS (up h 314 10 (i + 1)) hl b)) : WP G δ 0 0 MX2_pass 0 [vr (314)] [] (HS h hl b) Q := by
  have i2 := tk_lt t i1 ne
  obtain ⟨hK, hV, hP⟩ := Bb.2 i i0 (by omega)
  have tn := t.2.1
  refine al_0 dX2_pass_0 ?_
  refine g_X2_51 dX2_pass_1 rfl tt314 ?_
  rw [hj]
  refine al_0 dX2_pass_4 ?_
  refine g_X2_58 dX2_pass_5 rfl tt314 ?_
  rw [Bb.1]
  refine ic_1 dX2_pass_8 ?_
  refine wp_isub dX2_pass_9 (r32 (by omega) (by omega)) ?_
  refine wp_icmp_ge 23 dX2_pass_10 rfl (fun c10 => ?_) (fun c10 => ?_)
  · omega
  · refine al_0 dX2_pass_13 ?_
    refine wp_dup dX2_pass_14 rfl ?_
    refine g_X2_51 dX2_pass_15 rfl tt314 ?_
    rw [hj]
    refine ic_1 dX2_pass_18 ?_
    refine wp_iadd dX2_pass_19 (r32 (by omega) (by omega)) ?_
    refine p_X2_51 dX2_pass_20 rfl tt314 ?_
    refine wp_vret dX2_pass_23 rfl ?_
    exact hQ

theorem wX2_expect {G : GT} {δ : Nat} {h hl : Nat → Int → Int} {b : Bool × Bool} {Q : V → Hp → Prop} {k : Int} {i n : Int} {K Vf Pf : Int → Int} (hδ : δ ≤ 1680) (Bb : ClB K Vf Pf n h) (hj : h 314 10 = i) (i0 : 0 ≤ i) (i1 : i ≤ n - 1) (t : TkE K n) (ne : ¬ k = 54) (hY : K i = k → Q (vi 1) (HS (up h 314 10 (i + 1)) hl b)) (hQ : ¬ K i = k → Q (vi 0) (HS (up (up h 314 3 1) 314 4 (Pf i)) hl b)) : WP G δ 0 0 MX2_expect 0 [vr (314), vi k] [] (HS h hl b) Q := by
  obtain ⟨hK, hV, hP⟩ := Bb.2 i i0 (by omega)
  have tn := t.2.1
  refine al_0 dX2_expect_0 ?_
  refine g_X2_26 (320) dX2_expect_1 rfl tt314 (rr2_6 tt314) (by omega) ?_
  refine al_0 dX2_expect_4 ?_
  refine g_X2_51 dX2_expect_5 rfl tt314 ?_
  rw [hj]
  refine wp_iaload dX2_expect_8 tt320 (by omega) (by omega) ?_
  rw [hK]
  refine il_1 dX2_expect_9 ?_
  refine wp_icmp_eq 19 dX2_expect_10 rfl (fun c10 => ?_) (fun c10 => ?_)
  · refine al_0 dX2_expect_19 ?_
    refine c_X2_116 dX2_expect_20 rfl tt314 (Nat.le_of_ble_eq_true rfl) (by omega) ?_
    refine wX2_pass (by omega) Bb hj i0 i1 t (by omega) ?_
    refine pv_n ?_
    refine ic_1 dX2_expect_23 ?_
    refine wp_iretz dX2_expect_24 rfl (by omega) ?_
    exact hY c10
  · refine al_0 dX2_expect_13 ?_
    refine ic_1 dX2_expect_14 ?_
    refine c_X2_113 dX2_expect_15 rfl tt314 (Nat.le_of_ble_eq_true rfl) (by omega) ?_
    refine wX2_fail (by omega) Bb hj i0 i1 t ?_
    refine pv_i ?_
    refine wp_iretz dX2_expect_18 rfl (by omega) ?_
    exact hQ c10

theorem wX3_emitC {G : GT} {δ : Nat} {h hl : Nat → Int → Int} {b : Bool × Bool} {Q : V → Hp → Prop} {x : Int} {CC : List Int} (hδ : δ ≤ 1650) (hC : Cd h CC) (cl : (CC.length : Int) < 600) (hQ : ∀ h' : Nat → Int → Int, CE h h' → Cd h' (CC ++ [x]) → Q vn (HS h' hl b)) : WP G δ 0 0 MX3_emit 0 [vr 316, vi x] [] (HS h hl b) Q :=
  wX3_emit (by omega) (by rw [hC.1]; omega) (by rw [hC.1]; omega) (hQ _ ⟨(eqX.rf.up (by decide)).up (by decide), fun k hk => by rw [up_k hk, up_o (by decide)]⟩ hC.add)
theorem wX3_landC {G : GT} {δ : Nat} {h hl : Nat → Int → Int} {b : Bool × Bool} {Q : V → Hp → Prop} {x p : Int} {A B : List Int} (hδ : δ ≤ 1650) (d : Cd h (A ++ x :: B)) (ep : p = A.length) (p6 : p < 600) (hQ : ∀ h' : Nat → Int → Int, CE h h' → Cd h' (A ++ ((A ++ x :: B).length : Int) :: B) → Q vn (HS h' hl b)) : WP G δ 0 0 MX3_land 0 [vr 316, vi p] [] (HS h hl b) Q :=
  wX3_land (by omega) (by omega) p6 (hQ _ ⟨eqX.rf.up (by decide), fun k hk => by rw [up_o (by decide)]⟩ (d.land ep d.1))

theorem wX2_emitted {G : GT} {δ : Nat} {h hl : Nat → Int → Int} {b : Bool × Bool} {Q : V → Hp → Prop} {x : Int} {CC : List Int} (hδ : δ ≤ 1600) (hC : Cd h CC) (cl : (CC.length : Int) < 600) (hQ : ∀ h' : Nat → Int → Int, CE h h' → Cd h' (CC ++ [x]) → Q (vi 1) (HS h' hl b)) : WP G δ 0 0 MX2_emitted 0 [vr (314), vi x] [] (HS h hl b) Q := by
  refine al_0 dX2_emitted_0 ?_
  refine g_X2_22 (316) dX2_emitted_1 rfl tt314 (rr2_5 tt314) (by omega) ?_
  refine il_1 dX2_emitted_4 ?_
  refine c_X2_160 dX2_emitted_5 rfl tt316 (Nat.le_of_ble_eq_true rfl) (by omega) ?_
  refine wX3_emitC (by omega) hC cl (fun h' E' d' => ?_)
  refine pv_n ?_
  refine ic_1 dX2_emitted_8 ?_
  refine wp_iretz dX2_emitted_9 rfl (by omega) ?_
  exact hQ h' E' d'

theorem wX2_emitJump {G : GT} {δ : Nat} {h hl : Nat → Int → Int} {b : Bool × Bool} {Q : V → Hp → Prop} {x : Int} {CC : List Int} (hδ : δ ≤ 1600) (hC : Cd h CC) (cl : (CC.length : Int) < 599) (hQ : ∀ h' : Nat → Int → Int, CE h h' → Cd h' (CC ++ [x, 0]) → Q (vi (CC.length + 1)) (HS h' hl b)) : WP G δ 0 0 MX2_emitJump 0 [vr (314), vi x] [] (HS h hl b) Q := by
  refine al_0 dX2_emitJump_0 ?_
  refine g_X2_22 (316) dX2_emitJump_1 rfl tt314 (rr2_5 tt314) (by omega) ?_
  refine il_1 dX2_emitJump_4 ?_
  refine c_X2_160 dX2_emitJump_5 rfl tt316 (Nat.le_of_ble_eq_true rfl) (by omega) ?_
  refine wX3_emitC (by omega) hC (by omega) (fun h' E' d' => ?_)
  refine pv_n ?_
  refine al_0 dX2_emitJump_8 ?_
  refine g_X2_22 (316) dX2_emitJump_9 rfl tt314 (rr2_5 tt314) (by omega) ?_
  refine ic_0 dX2_emitJump_12 ?_
  refine c_X2_160 dX2_emitJump_13 rfl tt316 (Nat.le_of_ble_eq_true rfl) (by omega) ?_
  have l1 : ((CC ++ [x]).length : Int) = CC.length + 1 := by rw [lenA]; rfl
  refine wX3_emitC (by omega) d' (by omega) (fun h2' E2' d2' => ?_)
  refine pv_n ?_
  refine al_0 dX2_emitJump_16 ?_
  refine g_X2_22 (316) dX2_emitJump_17 rfl tt314 (rr2_5 tt314) (by omega) ?_
  refine g_X2_154 dX2_emitJump_20 rfl tt316 ?_
  have l2 : ((CC ++ [x] ++ [(0 : Int)]).length : Int) = CC.length + 1 + 1 := by rw [lenA, l1]; rfl
  rw [d2'.1, l2]
  refine ic_1 dX2_emitJump_23 ?_
  refine wp_isub dX2_emitJump_24 (r32 (by omega) (by omega)) ?_
  refine wp_ireti dX2_emitJump_25 rfl ?_
  refine qv (hQ h2' ⟨E'.1.tr E2'.1, fun k hk => (E2'.2 k hk).trans (E'.2 k hk)⟩ (by rw [List.append_assoc] at d2'; exact d2')) (by omega)

theorem wX2_constant {G : GT} {δ : Nat} {h hl : Nat → Int → Int} {b : Bool × Bool} {Q : V → Hp → Prop} {i n : Int} {K Vf Pf : Int → Int} (hδ : δ ≤ 1580) (Bb : ClB K Vf Pf n h) (hj : h 314 10 = i) (i0 : 0 ≤ i) (i1 : i ≤ n - 1) (t : TkE K n) {CC : List Int} (hC : Cd h CC) (cl : (CC.length : Int) ≤ 2 * i) (k40 : K i = 40) (hQ : CQr Pf CC h hl b Q (if 9999 < Vf i then .inl (2, i) else .inr (i + 1, [40, Vf i], [(0, Vf i)], fun _ _ => Vf i))) : WP G δ 0 0 MX2_constant 0 [vr (314)] [] (HS h hl b) Q := by
  obtain ⟨hK, hV, hP⟩ := Bb.2 i i0 (by omega)
  have tn := t.2.1
  have i2 := tk_lt t i1 (by omega)
  refine al_0 dX2_constant_0 ?_
  refine g_X2_29 (321) dX2_constant_1 rfl tt314 (rr2_7 tt314) (by omega) ?_
  refine al_0 dX2_constant_4 ?_
  refine g_X2_51 dX2_constant_5 rfl tt314 ?_
  rw [hj]
  refine wp_iaload dX2_constant_8 tt321 (by omega) (by omega) ?_
  rw [hV]
  refine si_9999 dX2_constant_9 ?_
  refine wp_icmp_le 21 dX2_constant_12 rfl (fun c12 => ?_) (fun c12 => ?_)
  · refine al_0 dX2_constant_21 ?_
    refine g_X2_22 (316) dX2_constant_22 rfl tt314 (rr2_5 tt314) (by omega) ?_
    refine bi_40 dX2_constant_25 ?_
    refine c_X2_160 dX2_constant_27 rfl tt316 (Nat.le_of_ble_eq_true rfl) (by omega) ?_
    refine wX3_emitC (by omega) hC (by omega) (fun h' E' d' => ?_)
    refine pv_n ?_
    refine al_0 dX2_constant_30 ?_
    refine g_X2_22 (316) dX2_constant_31 rfl tt314 (rr2_5 tt314) (by omega) ?_
    refine al_0 dX2_constant_34 ?_
    refine g_X2_29 (321) dX2_constant_35 rfl tt314 (rr2_7 tt314) (by omega) ?_
    refine al_0 dX2_constant_38 ?_
    refine g_X2_51 dX2_constant_39 rfl tt314 ?_
    rw [E'.j, hj]
    refine wp_iaload dX2_constant_42 tt321 (by omega) (by omega) ?_
    rw [E'.1 321 (by decide), hV]
    refine c_X2_160 dX2_constant_43 rfl tt316 (Nat.le_of_ble_eq_true rfl) (by omega) ?_
    have l1 : ((CC ++ [(40 : Int)]).length : Int) = CC.length + 1 := by rw [lenA]; rfl
    refine wX3_emitC (by omega) d' (by omega) (fun h2' E2' d2' => ?_)
    refine pv_n ?_
    refine al_0 dX2_constant_46 ?_
    refine c_X2_116 dX2_constant_47 rfl tt314 (Nat.le_of_ble_eq_true rfl) (by omega) ?_
    refine wX2_pass (by omega) (Bb.c (E'.cl.tr E2'.cl)) (by rw [E2'.j, E'.j]; exact hj) i0 i1 t (by omega) ?_
    refine pv_n ?_
    refine ic_1 dX2_constant_50 ?_
    refine wp_iretz dX2_constant_51 rfl (by omega) ?_
    rw [if_neg (by omega)] at hQ
    refine hQ _ ((E'.cl.tr E2'.cl).u4 rfl) up_s ?_
    have z := d2'.at (x := i + 1)
    rw [List.append_assoc] at z
    exact z
  · refine al_0 dX2_constant_15 ?_
    refine ic_2 dX2_constant_16 ?_
    refine c_X2_113 dX2_constant_17 rfl tt314 (Nat.le_of_ble_eq_true rfl) (by omega) ?_
    refine wX2_fail (by omega) Bb hj i0 i1 t ?_
    refine pv_i ?_
    refine wp_iretz dX2_constant_20 rfl (by omega) ?_
    rw [if_pos (by omega)] at hQ
    exact hQ _ ((ClF.rf.u4 (Or.inl rfl)).u4 (Or.inr (Or.inl rfl))) (by rw [up_k (by decide), up_s]) up_s

theorem wX2_name {G : GT} {δ : Nat} {h hl : Nat → Int → Int} {b : Bool × Bool} {Q : V → Hp → Prop} {l s : Int} {i n : Int} {K Vf Pf : Int → Int} (hδ : δ ≤ 1580) (Bb : ClB K Vf Pf n h) (hj : h 314 10 = i) (i0 : 0 ≤ i) (i1 : i ≤ n - 1) (t : TkE K n) {CC : List Int} (hC : Cd h CC) (cl : (CC.length : Int) ≤ 2 * i) (k0 : 0 ≤ K i) (k10 : K i < 10) (hls : l = 10 + s) (hQ : CQr Pf CC h hl b Q (if (s = 0 ∧ K i = 9) ∨ (¬ s = 0 ∧ (K i = 7 ∨ K i = 8)) then .inl (5, i) else .inr (i + 1, [K i], [(1, m2c (K i))], fun nm _ => nm (K i)))) : WP G δ 0 0 MX2_name 0 [vr (314), vi l, vn] [] (HS h hl b) Q := by
  obtain ⟨hK, hV, hP⟩ := Bb.2 i i0 (by omega)
  have tn := t.2.1
  have i2 := tk_lt t i1 (by omega)
  refine al_0 dX2_name_0 ?_
  refine g_X2_26 (320) dX2_name_1 rfl tt314 (rr2_6 tt314) (by omega) ?_
  refine al_0 dX2_name_4 ?_
  refine g_X2_51 dX2_name_5 rfl tt314 ?_
  rw [hj]
  refine wp_iaload dX2_name_8 tt320 (by omega) (by omega) ?_
  rw [hK]
  refine is_2 dX2_name_9 rfl (by decide) ?_
  refine il_1 dX2_name_10 ?_
  refine bi_10 dX2_name_11 ?_
  refine wp_icmp_ne 25 dX2_name_13 rfl (fun c13 => ?_) (fun c13 => ?_)
  · refine il_2 dX2_name_25 ?_
    refine bi_7 dX2_name_26 ?_
    refine wp_icmp_eq 37 dX2_name_28 rfl (fun c28 => ?_) (fun c28 => ?_)
    · refine al_0 dX2_name_37 ?_
      refine ic_5 dX2_name_38 ?_
      refine c_X2_113 dX2_name_39 rfl tt314 (Nat.le_of_ble_eq_true rfl) (by omega) ?_
      refine wX2_fail (by omega) Bb hj i0 i1 t ?_
      refine pv_i ?_
      refine wp_iretz dX2_name_42 rfl (by omega) ?_
      rw [if_pos (by omega)] at hQ
      exact hQ _ ((ClF.rf.u4 (Or.inl rfl)).u4 (Or.inr (Or.inl rfl))) (by rw [up_k (by decide), up_s]) up_s
    · refine il_2 dX2_name_31 ?_
      refine bi_8 dX2_name_32 ?_
      refine wp_icmp_ne 43 dX2_name_34 rfl (fun c34 => ?_) (fun c34 => ?_)
      · refine al_0 dX2_name_43 ?_
        refine g_X2_22 (316) dX2_name_44 rfl tt314 (rr2_5 tt314) (by omega) ?_
        refine il_2 dX2_name_47 ?_
        refine c_X2_160 dX2_name_48 rfl tt316 (Nat.le_of_ble_eq_true rfl) (by omega) ?_
        refine wX3_emitC (by omega) hC (by omega) (fun h' E' d' => ?_)
        refine pv_n ?_
        refine al_0 dX2_name_51 ?_
        refine c_X2_116 dX2_name_52 rfl tt314 (Nat.le_of_ble_eq_true rfl) (by omega) ?_
        refine wX2_pass (by omega) (Bb.c E'.cl) (by rw [E'.j]; exact hj) i0 i1 t (by omega) ?_
        refine pv_n ?_
        refine ic_1 dX2_name_55 ?_
        refine wp_iretz dX2_name_56 rfl (by omega) ?_
        rw [if_neg (by omega)] at hQ
        exact hQ _ (E'.cl.u4 rfl) up_s d'.at
      · refine al_0 dX2_name_37 ?_
        refine ic_5 dX2_name_38 ?_
        refine c_X2_113 dX2_name_39 rfl tt314 (Nat.le_of_ble_eq_true rfl) (by omega) ?_
        refine wX2_fail (by omega) Bb hj i0 i1 t ?_
        refine pv_i ?_
        refine wp_iretz dX2_name_42 rfl (by omega) ?_
        rw [if_pos (by omega)] at hQ
        exact hQ _ ((ClF.rf.u4 (Or.inl rfl)).u4 (Or.inr (Or.inl rfl))) (by rw [up_k (by decide), up_s]) up_s
  · refine il_2 dX2_name_16 ?_
    refine bi_9 dX2_name_17 ?_
    refine wp_icmp_ne 43 dX2_name_19 rfl (fun c19 => ?_) (fun c19 => ?_)
    · refine al_0 dX2_name_43 ?_
      refine g_X2_22 (316) dX2_name_44 rfl tt314 (rr2_5 tt314) (by omega) ?_
      refine il_2 dX2_name_47 ?_
      refine c_X2_160 dX2_name_48 rfl tt316 (Nat.le_of_ble_eq_true rfl) (by omega) ?_
      refine wX3_emitC (by omega) hC (by omega) (fun h' E' d' => ?_)
      refine pv_n ?_
      refine al_0 dX2_name_51 ?_
      refine c_X2_116 dX2_name_52 rfl tt314 (Nat.le_of_ble_eq_true rfl) (by omega) ?_
      refine wX2_pass (by omega) (Bb.c E'.cl) (by rw [E'.j]; exact hj) i0 i1 t (by omega) ?_
      refine pv_n ?_
      refine ic_1 dX2_name_55 ?_
      refine wp_iretz dX2_name_56 rfl (by omega) ?_
      rw [if_neg (by omega)] at hQ
      exact hQ _ (E'.cl.u4 rfl) up_s d'.at
    · refine wp_goto 37 dX2_name_22 rfl ?_
      refine al_0 dX2_name_37 ?_
      refine ic_5 dX2_name_38 ?_
      refine c_X2_113 dX2_name_39 rfl tt314 (Nat.le_of_ble_eq_true rfl) (by omega) ?_
      refine wX2_fail (by omega) Bb hj i0 i1 t ?_
      refine pv_i ?_
      refine wp_iretz dX2_name_42 rfl (by omega) ?_
      rw [if_pos (by omega)] at hQ
      exact hQ _ ((ClF.rf.u4 (Or.inl rfl)).u4 (Or.inr (Or.inl rfl))) (by rw [up_k (by decide), up_s]) up_s

theorem imp_factor {G : GT} {hl : Nat → Int → Int} {b : Bool × Bool} {K Vf Pf : Int → Int} {n l s : Int} (t : TkE K n) (hls : l = 10 + s) (kr : ∀ i, 0 ≤ i → i ≤ n - 1 → 0 ≤ K i) {o : Int} {D : Nat} {rest : Option PF4} (hD : D ≤ 1500) (o0 : 0 ≤ o) (hd : Unit → (rest = none ∧ o = 8) ∨ (o < 8 ∧ 0 ≤ o ∧ ∃ qq : PF4, rest = some qq ∧ ImpF G hl b K Vf Pf n (D + 1) MX2_sum [vr 314, vi l, vi (o + 1), vn, vn] (qq.1) ∧ ImpF G hl b K Vf Pf n (D + 1) MX2_factor [vr 314, vi l, vi (o + 1), vn] (qq.2.1) ∧ ImpF G hl b K Vf Pf n (D + 1) MX2_choice [vr 314, vi l, vi (o + 1), vn, vn] (qq.2.2.1) ∧ PG n qq.1 ∧ PG n qq.2.1)) : ImpF G hl b K Vf Pf n (D) MX2_factor [vr 314, vi l, vi (o), vn] (facP K Vf s rest) := by
  intro δ h Q i CC hδ Bb hj i0 i1 hC cl hQ
  obtain ⟨hK, hV, hP⟩ := Bb.2 i i0 (by omega)
  have tn := t.2.1
  have kR := kr i i0 i1
  unfold facP at hQ
  refine al_0 dX2_factor_0 ?_
  refine g_X2_26 (320) dX2_factor_1 rfl tt314 (rr2_6 tt314) (by omega) ?_
  refine al_0 dX2_factor_4 ?_
  refine g_X2_51 dX2_factor_5 rfl tt314 ?_
  rw [hj]
  refine wp_iaload dX2_factor_8 tt320 (by omega) (by omega) ?_
  rw [hK]
  refine is_3 dX2_factor_9 rfl (by decide) ?_
  refine il_3 dX2_factor_10 ?_
  refine bi_40 dX2_factor_11 ?_
  refine wp_icmp_ne 21 dX2_factor_13 rfl (fun c13 => ?_) (fun c13 => ?_)
  · refine il_3 dX2_factor_21 ?_
    refine bi_10 dX2_factor_22 ?_
    refine wp_icmp_ge 33 dX2_factor_24 rfl (fun c24 => ?_) (fun c24 => ?_)
    · refine il_3 dX2_factor_33 ?_
      refine bi_51 dX2_factor_34 ?_
      refine wp_icmp_eq 69 dX2_factor_36 rfl (fun c36 => ?_) (fun c36 => ?_)
      · refine il_2 dX2_factor_69 ?_
        refine bi_8 dX2_factor_70 ?_
        refine wp_icmp_lt 81 dX2_factor_72 rfl (fun c72 => ?_) (fun c72 => ?_)
        · refine al_0 dX2_factor_81 ?_
          refine c_X2_116 dX2_factor_82 rfl tt314 (Nat.le_of_ble_eq_true rfl) (by omega) ?_
          rw [if_neg (by omega), if_neg (by omega), if_pos (by omega)] at hQ
          obtain ⟨o8, o8p, qq, rfl, H1, H2, H3, G1, G2⟩ := (hd ()).resolve_left (fun z => by have z2 := z.2; omega)
          have hQ : CQr Pf CC h hl b Q (facO K qq.1 qq.2.1 qq.2.2.1 i CC.length) := hQ
          unfold facO at hQ
          have Ea := (ClE.rf.u4 rfl : ClE h (up h 314 10 (i + 1)))
          have i2 := tk_lt t i1 (by omega)
          refine wX2_pass (by omega) Bb hj i0 i1 t (by omega) ?_
          refine pv_n ?_
          refine il_3 dX2_factor_85 ?_
          rcases (show (((K i)) = 19) ∨ (((K i)) = 21) ∨ (((K i)) = 48) ∨ (((K i)) = 51) ∨ (((K i)) ≠ 19 ∧ ((K i)) ≠ 21 ∧ ((K i)) ≠ 48 ∧ ((K i)) ≠ 51) by omega) with c86 | c86 | c86 | c86 | c86
          · refine wp_lsw 206 (120) dX2_factor_86 (by decide) (by rw [c86]; rfl) rfl ?_
            refine al_0 dX2_factor_206 ?_
            refine il_1 dX2_factor_207 ?_
            refine il_2 dX2_factor_208 ?_
            refine ic_1 dX2_factor_209 ?_
            refine wp_iadd dX2_factor_210 (r32 (by omega) (by omega)) ?_
            rw [if_neg (by omega), if_neg (by omega), if_neg (by omega), if_pos (by omega)] at hQ
            refine c_X2_166 dX2_factor_211 rfl tt314 (Nat.le_of_ble_eq_true rfl) (by omega) ?_
            refine H2 _ _ _ (i + 1) (CC) (by omega) (Bb.c Ea) up_s (by omega) i2 hC.at (by omega) ?_
            have g1 := G2 (i + 1) (CC.length) (by omega) i2
            cases hr1 : qq.2.1 (i + 1) (CC.length) with
            | inl e =>
              intro h1 E1 f1 p1
              refine pv_i ?_
              rw [hr1] at hQ
              refine wp_if_eq 250 dX2_factor_214 rfl (fun _ => ?_) (fun c => absurd rfl c)
              refine ic_0 dX2_factor_250 ?_
              refine wp_iretz dX2_factor_251 rfl (by omega) ?_
              exact hQ h1 (Ea.f.tr E1) f1 p1
            | inr x =>
              obtain ⟨j1, C1, M1, D1⟩ := x
              intro h1 E1 a1 d1
              refine pv_i ?_
              rw [hr1] at hQ g1
              obtain ⟨r11, r12, r13, r14⟩ := g1
              dsimp only [thn] at hQ
              refine wp_if_eq 250 dX2_factor_214 rfl (fun c => absurd c (by decide)) (fun _ => ?_)
              have l1 : ((CC ++ C1).length : Int) = CC.length + C1.length := lenA
              refine al_0 dX2_factor_217 ?_
              refine bi_20 dX2_factor_218 ?_
              refine c_X2_141 dX2_factor_220 rfl tt314 (Nat.le_of_ble_eq_true rfl) (by omega) ?_
              refine wX2_expect (k := 20) (by omega) (Bb.c (Ea.tr E1)) a1 (by omega) r12 t (by omega) (fun q => ?_) (fun q => ?_)
              · refine pv_i ?_
                refine wp_if_eq 250 dX2_factor_223 rfl (fun c => absurd c (by decide)) (fun _ => ?_)
                rw [if_pos q] at hQ
                have j2 := tk_lt t r12 (by omega)
                refine al_0 dX2_factor_226 ?_
                refine il_1 dX2_factor_227 ?_
                refine il_2 dX2_factor_228 ?_
                refine ic_1 dX2_factor_229 ?_
                refine wp_iadd dX2_factor_230 (r32 (by omega) (by omega)) ?_
                refine c_X2_166 dX2_factor_231 rfl tt314 (Nat.le_of_ble_eq_true rfl) (by omega) ?_
                refine H2 _ _ _ (j1 + 1) (CC ++ C1) (by omega) (Bb.c ((Ea.tr E1).u4 rfl)) up_s (by omega) j2 d1.at (by omega) ?_
                rw [l1]
                have g2 := G2 (j1 + 1) (CC.length + C1.length) (by omega) j2
                cases hr2 : qq.2.1 (j1 + 1) (CC.length + C1.length) with
                | inl e =>
                  intro h2 E2 f2 p2
                  refine pv_i ?_
                  rw [hr2] at hQ
                  refine wp_if_eq 250 dX2_factor_234 rfl (fun _ => ?_) (fun c => absurd rfl c)
                  refine ic_0 dX2_factor_250 ?_
                  refine wp_iretz dX2_factor_251 rfl (by omega) ?_
                  exact hQ h2 (((Ea.tr E1).u4 rfl).f.tr E2) f2 p2
                | inr x =>
                  obtain ⟨j2, C2, M2, D2⟩ := x
                  intro h2 E2 a2 d2
                  refine pv_i ?_
                  rw [hr2] at hQ g2
                  obtain ⟨r21, r22, r23, r24⟩ := g2
                  dsimp only [thn] at hQ
                  refine wp_if_eq 250 dX2_factor_234 rfl (fun c => absurd c (by decide)) (fun _ => ?_)
                  have l2 : ((CC ++ C1 ++ C2).length : Int) = CC.length + C1.length + C2.length := by rw [lenA, l1]
                  refine al_0 dX2_factor_237 ?_
                  refine bi_19 dX2_factor_238 ?_
                  refine c_X2_175 dX2_factor_240 rfl tt314 (Nat.le_of_ble_eq_true rfl) (by omega) ?_
                  refine wX2_emitted (by omega) d2 (by omega) (fun h9 E9 d9 => ?_)
                  refine pv_i ?_
                  refine wp_if_eq 250 dX2_factor_243 rfl (fun c => absurd c (by decide)) (fun _ => ?_)
                  refine ic_1 dX2_factor_246 ?_
                  refine wp_goto 251 dX2_factor_247 rfl ?_
                  refine wp_iretz dX2_factor_251 rfl (by omega) ?_
                  refine hQ _ ((((Ea.tr E1).u4 rfl).tr E2).tr E9.cl) (by rw [E9.j]; exact a2) ?_
                  rw [List.append_assoc, List.append_assoc] at d9
                  exact d9
              · refine pv_i ?_
                refine wp_if_eq 250 dX2_factor_223 rfl (fun _ => ?_) (fun c => absurd rfl c)
                refine ic_0 dX2_factor_250 ?_
                refine wp_iretz dX2_factor_251 rfl (by omega) ?_
                rw [if_neg q] at hQ
                exact hQ _ ((Ea.tr E1).f.tr ((ClF.rf.u4 (Or.inl rfl)).u4 (Or.inr (Or.inl rfl)))) (by rw [up_k (by decide), up_s]) up_s
          · refine wp_lsw 180 (94) dX2_factor_86 (by decide) (by rw [c86]; rfl) rfl ?_
            refine al_0 dX2_factor_180 ?_
            refine il_1 dX2_factor_181 ?_
            refine il_2 dX2_factor_182 ?_
            refine ic_1 dX2_factor_183 ?_
            refine wp_iadd dX2_factor_184 (r32 (by omega) (by omega)) ?_
            rw [if_neg (by omega), if_neg (by omega), if_pos (by omega)] at hQ
            refine c_X2_166 dX2_factor_185 rfl tt314 (Nat.le_of_ble_eq_true rfl) (by omega) ?_
            refine H2 _ _ _ (i + 1) (CC) (by omega) (Bb.c Ea) up_s (by omega) i2 hC.at (by omega) ?_
            have g1 := G2 (i + 1) (CC.length) (by omega) i2
            cases hr1 : qq.2.1 (i + 1) (CC.length) with
            | inl e =>
              intro h1 E1 f1 p1
              refine pv_i ?_
              rw [hr1] at hQ
              refine wp_if_eq 204 dX2_factor_188 rfl (fun _ => ?_) (fun c => absurd rfl c)
              refine ic_0 dX2_factor_204 ?_
              refine wp_iretz dX2_factor_205 rfl (by omega) ?_
              exact hQ h1 (Ea.f.tr E1) f1 p1
            | inr x =>
              obtain ⟨j1, C1, M1, D1⟩ := x
              intro h1 E1 a1 d1
              refine pv_i ?_
              rw [hr1] at hQ g1
              obtain ⟨r11, r12, r13, r14⟩ := g1
              dsimp only [thn] at hQ
              refine wp_if_eq 204 dX2_factor_188 rfl (fun c => absurd c (by decide)) (fun _ => ?_)
              have l1 : ((CC ++ C1).length : Int) = CC.length + C1.length := lenA
              refine al_0 dX2_factor_191 ?_
              refine bi_21 dX2_factor_192 ?_
              refine c_X2_175 dX2_factor_194 rfl tt314 (Nat.le_of_ble_eq_true rfl) (by omega) ?_
              refine wX2_emitted (by omega) d1 (by omega) (fun h9 E9 d9 => ?_)
              refine pv_i ?_
              refine wp_if_eq 204 dX2_factor_197 rfl (fun c => absurd c (by decide)) (fun _ => ?_)
              refine ic_1 dX2_factor_200 ?_
              refine wp_goto 205 dX2_factor_201 rfl ?_
              refine wp_iretz dX2_factor_205 rfl (by omega) ?_
              refine hQ _ ((Ea.tr E1).tr E9.cl) (by rw [E9.j]; exact a1) ?_
              rw [List.append_assoc] at d9
              exact d9
          · refine wp_lsw 154 (68) dX2_factor_86 (by decide) (by rw [c86]; rfl) rfl ?_
            refine al_0 dX2_factor_154 ?_
            refine il_1 dX2_factor_155 ?_
            refine il_2 dX2_factor_156 ?_
            refine ic_1 dX2_factor_157 ?_
            refine wp_iadd dX2_factor_158 (r32 (by omega) (by omega)) ?_
            rw [if_neg (by omega), if_pos (by omega)] at hQ
            refine c_X2_166 dX2_factor_159 rfl tt314 (Nat.le_of_ble_eq_true rfl) (by omega) ?_
            refine H2 _ _ _ (i + 1) (CC) (by omega) (Bb.c Ea) up_s (by omega) i2 hC.at (by omega) ?_
            have g1 := G2 (i + 1) (CC.length) (by omega) i2
            cases hr1 : qq.2.1 (i + 1) (CC.length) with
            | inl e =>
              intro h1 E1 f1 p1
              refine pv_i ?_
              rw [hr1] at hQ
              refine wp_if_eq 178 dX2_factor_162 rfl (fun _ => ?_) (fun c => absurd rfl c)
              refine ic_0 dX2_factor_178 ?_
              refine wp_iretz dX2_factor_179 rfl (by omega) ?_
              exact hQ h1 (Ea.f.tr E1) f1 p1
            | inr x =>
              obtain ⟨j1, C1, M1, D1⟩ := x
              intro h1 E1 a1 d1
              refine pv_i ?_
              rw [hr1] at hQ g1
              obtain ⟨r11, r12, r13, r14⟩ := g1
              dsimp only [thn] at hQ
              refine wp_if_eq 178 dX2_factor_162 rfl (fun c => absurd c (by decide)) (fun _ => ?_)
              have l1 : ((CC ++ C1).length : Int) = CC.length + C1.length := lenA
              refine al_0 dX2_factor_165 ?_
              refine bi_60 dX2_factor_166 ?_
              refine c_X2_175 dX2_factor_168 rfl tt314 (Nat.le_of_ble_eq_true rfl) (by omega) ?_
              refine wX2_emitted (by omega) d1 (by omega) (fun h9 E9 d9 => ?_)
              refine pv_i ?_
              refine wp_if_eq 178 dX2_factor_171 rfl (fun c => absurd c (by decide)) (fun _ => ?_)
              refine ic_1 dX2_factor_174 ?_
              refine wp_goto 179 dX2_factor_175 rfl ?_
              refine wp_iretz dX2_factor_179 rfl (by omega) ?_
              refine hQ _ ((Ea.tr E1).tr E9.cl) (by rw [E9.j]; exact a1) ?_
              rw [List.append_assoc] at d9
              exact d9
          · refine wp_lsw 128 (42) dX2_factor_86 (by decide) (by rw [c86]; rfl) rfl ?_
            refine al_0 dX2_factor_128 ?_
            refine il_1 dX2_factor_129 ?_
            refine il_2 dX2_factor_130 ?_
            refine ic_1 dX2_factor_131 ?_
            refine wp_iadd dX2_factor_132 (r32 (by omega) (by omega)) ?_
            rw [if_pos (by omega)] at hQ
            refine c_X2_157 dX2_factor_133 rfl tt314 (Nat.le_of_ble_eq_true rfl) (by omega) ?_
            refine H1 _ _ _ (i + 1) (CC) (by omega) (Bb.c Ea) up_s (by omega) i2 hC.at (by omega) ?_
            have g1 := G1 (i + 1) (CC.length) (by omega) i2
            cases hr1 : qq.1 (i + 1) (CC.length) with
            | inl e =>
              intro h1 E1 f1 p1
              refine pv_i ?_
              rw [hr1] at hQ
              refine wp_if_eq 152 dX2_factor_136 rfl (fun _ => ?_) (fun c => absurd rfl c)
              refine ic_0 dX2_factor_152 ?_
              refine wp_iretz dX2_factor_153 rfl (by omega) ?_
              exact hQ h1 (Ea.f.tr E1) f1 p1
            | inr x =>
              obtain ⟨j1, C1, M1, D1⟩ := x
              intro h1 E1 a1 d1
              refine pv_i ?_
              rw [hr1] at hQ g1
              obtain ⟨r11, r12, r13, r14⟩ := g1
              dsimp only [thn] at hQ
              refine wp_if_eq 152 dX2_factor_136 rfl (fun c => absurd c (by decide)) (fun _ => ?_)
              refine al_0 dX2_factor_139 ?_
              refine bi_52 dX2_factor_140 ?_
              refine c_X2_141 dX2_factor_142 rfl tt314 (Nat.le_of_ble_eq_true rfl) (by omega) ?_
              refine wX2_expect (k := 52) (by omega) (Bb.c (Ea.tr E1)) a1 (by omega) r12 t (by omega) (fun q => ?_) (fun q => ?_)
              · refine pv_i ?_
                refine wp_if_eq 152 dX2_factor_145 rfl (fun c => absurd c (by decide)) (fun _ => ?_)
                refine ic_1 dX2_factor_148 ?_
                refine wp_goto 153 dX2_factor_149 rfl ?_
                refine wp_iretz dX2_factor_153 rfl (by omega) ?_
                rw [if_pos q] at hQ
                exact hQ _ ((Ea.tr E1).u4 rfl) up_s d1.at
              · refine pv_i ?_
                refine wp_if_eq 152 dX2_factor_145 rfl (fun _ => ?_) (fun c => absurd rfl c)
                refine ic_0 dX2_factor_152 ?_
                refine wp_iretz dX2_factor_153 rfl (by omega) ?_
                rw [if_neg q] at hQ
                exact hQ _ ((Ea.tr E1).f.tr ((ClF.rf.u4 (Or.inl rfl)).u4 (Or.inr (Or.inl rfl)))) (by rw [up_k (by decide), up_s]) up_s
          · refine wp_lsw 252 (166) dX2_factor_86 (by decide) (by simp [Op.lookupswitch.offset, Ne.symm c86.1, Ne.symm c86.2.1, Ne.symm c86.2.2.1, Ne.symm c86.2.2.2]) rfl ?_
            refine al_0 dX2_factor_252 ?_
            refine il_1 dX2_factor_253 ?_
            refine il_2 dX2_factor_254 ?_
            refine ic_1 dX2_factor_255 ?_
            refine wp_iadd dX2_factor_256 (r32 (by omega) (by omega)) ?_
            rw [if_neg (by omega), if_neg (by omega), if_neg (by omega), if_neg (by omega)] at hQ
            refine c_X2_178 dX2_factor_257 rfl tt314 (Nat.le_of_ble_eq_true rfl) (by omega) ?_
            refine H3 _ _ _ (i + 1) CC (by omega) (Bb.c Ea) up_s (by omega) i2 hC.at (by omega) ?_
            refine CQr.mono (hQ.c Ea) (fun x h1 x01 hQ => ?_)
            refine pv_i ?_
            refine wp_iretz dX2_factor_260 rfl x01 ?_
            exact hQ
        · refine al_0 dX2_factor_75 ?_
          refine ic_3 dX2_factor_76 ?_
          refine c_X2_113 dX2_factor_77 rfl tt314 (Nat.le_of_ble_eq_true rfl) (by omega) ?_
          rw [if_neg (by omega), if_neg (by omega), if_pos (by omega)] at hQ
          obtain ⟨rfl, o8⟩ : rest = none ∧ o = 8 := by
            rcases hd () with z | z
            · exact z
            · have z1 := z.1
              omega
          refine wX2_fail (by omega) Bb hj i0 i1 t ?_
          refine pv_i ?_
          refine wp_iretz dX2_factor_80 rfl (by omega) ?_
          exact hQ _ ((ClF.rf.u4 (Or.inl rfl)).u4 (Or.inr (Or.inl rfl))) (by rw [up_k (by decide), up_s]) up_s
      · refine il_3 dX2_factor_39 ?_
        refine bi_48 dX2_factor_40 ?_
        refine wp_icmp_eq 69 dX2_factor_42 rfl (fun c42 => ?_) (fun c42 => ?_)
        · refine il_2 dX2_factor_69 ?_
          refine bi_8 dX2_factor_70 ?_
          refine wp_icmp_lt 81 dX2_factor_72 rfl (fun c72 => ?_) (fun c72 => ?_)
          · refine al_0 dX2_factor_81 ?_
            refine c_X2_116 dX2_factor_82 rfl tt314 (Nat.le_of_ble_eq_true rfl) (by omega) ?_
            rw [if_neg (by omega), if_neg (by omega), if_pos (by omega)] at hQ
            obtain ⟨o8, o8p, qq, rfl, H1, H2, H3, G1, G2⟩ := (hd ()).resolve_left (fun z => by have z2 := z.2; omega)
            have hQ : CQr Pf CC h hl b Q (facO K qq.1 qq.2.1 qq.2.2.1 i CC.length) := hQ
            unfold facO at hQ
            have Ea := (ClE.rf.u4 rfl : ClE h (up h 314 10 (i + 1)))
            have i2 := tk_lt t i1 (by omega)
            refine wX2_pass (by omega) Bb hj i0 i1 t (by omega) ?_
            refine pv_n ?_
            refine il_3 dX2_factor_85 ?_
            rcases (show (((K i)) = 19) ∨ (((K i)) = 21) ∨ (((K i)) = 48) ∨ (((K i)) = 51) ∨ (((K i)) ≠ 19 ∧ ((K i)) ≠ 21 ∧ ((K i)) ≠ 48 ∧ ((K i)) ≠ 51) by omega) with c86 | c86 | c86 | c86 | c86
            · refine wp_lsw 206 (120) dX2_factor_86 (by decide) (by rw [c86]; rfl) rfl ?_
              refine al_0 dX2_factor_206 ?_
              refine il_1 dX2_factor_207 ?_
              refine il_2 dX2_factor_208 ?_
              refine ic_1 dX2_factor_209 ?_
              refine wp_iadd dX2_factor_210 (r32 (by omega) (by omega)) ?_
              rw [if_neg (by omega), if_neg (by omega), if_neg (by omega), if_pos (by omega)] at hQ
              refine c_X2_166 dX2_factor_211 rfl tt314 (Nat.le_of_ble_eq_true rfl) (by omega) ?_
              refine H2 _ _ _ (i + 1) (CC) (by omega) (Bb.c Ea) up_s (by omega) i2 hC.at (by omega) ?_
              have g1 := G2 (i + 1) (CC.length) (by omega) i2
              cases hr1 : qq.2.1 (i + 1) (CC.length) with
              | inl e =>
                intro h1 E1 f1 p1
                refine pv_i ?_
                rw [hr1] at hQ
                refine wp_if_eq 250 dX2_factor_214 rfl (fun _ => ?_) (fun c => absurd rfl c)
                refine ic_0 dX2_factor_250 ?_
                refine wp_iretz dX2_factor_251 rfl (by omega) ?_
                exact hQ h1 (Ea.f.tr E1) f1 p1
              | inr x =>
                obtain ⟨j1, C1, M1, D1⟩ := x
                intro h1 E1 a1 d1
                refine pv_i ?_
                rw [hr1] at hQ g1
                obtain ⟨r11, r12, r13, r14⟩ := g1
                dsimp only [thn] at hQ
                refine wp_if_eq 250 dX2_factor_214 rfl (fun c => absurd c (by decide)) (fun _ => ?_)
                have l1 : ((CC ++ C1).length : Int) = CC.length + C1.length := lenA
                refine al_0 dX2_factor_217 ?_
                refine bi_20 dX2_factor_218 ?_
                refine c_X2_141 dX2_factor_220 rfl tt314 (Nat.le_of_ble_eq_true rfl) (by omega) ?_
                refine wX2_expect (k := 20) (by omega) (Bb.c (Ea.tr E1)) a1 (by omega) r12 t (by omega) (fun q => ?_) (fun q => ?_)
                · refine pv_i ?_
                  refine wp_if_eq 250 dX2_factor_223 rfl (fun c => absurd c (by decide)) (fun _ => ?_)
                  rw [if_pos q] at hQ
                  have j2 := tk_lt t r12 (by omega)
                  refine al_0 dX2_factor_226 ?_
                  refine il_1 dX2_factor_227 ?_
                  refine il_2 dX2_factor_228 ?_
                  refine ic_1 dX2_factor_229 ?_
                  refine wp_iadd dX2_factor_230 (r32 (by omega) (by omega)) ?_
                  refine c_X2_166 dX2_factor_231 rfl tt314 (Nat.le_of_ble_eq_true rfl) (by omega) ?_
                  refine H2 _ _ _ (j1 + 1) (CC ++ C1) (by omega) (Bb.c ((Ea.tr E1).u4 rfl)) up_s (by omega) j2 d1.at (by omega) ?_
                  rw [l1]
                  have g2 := G2 (j1 + 1) (CC.length + C1.length) (by omega) j2
                  cases hr2 : qq.2.1 (j1 + 1) (CC.length + C1.length) with
                  | inl e =>
                    intro h2 E2 f2 p2
                    refine pv_i ?_
                    rw [hr2] at hQ
                    refine wp_if_eq 250 dX2_factor_234 rfl (fun _ => ?_) (fun c => absurd rfl c)
                    refine ic_0 dX2_factor_250 ?_
                    refine wp_iretz dX2_factor_251 rfl (by omega) ?_
                    exact hQ h2 (((Ea.tr E1).u4 rfl).f.tr E2) f2 p2
                  | inr x =>
                    obtain ⟨j2, C2, M2, D2⟩ := x
                    intro h2 E2 a2 d2
                    refine pv_i ?_
                    rw [hr2] at hQ g2
                    obtain ⟨r21, r22, r23, r24⟩ := g2
                    dsimp only [thn] at hQ
                    refine wp_if_eq 250 dX2_factor_234 rfl (fun c => absurd c (by decide)) (fun _ => ?_)
                    have l2 : ((CC ++ C1 ++ C2).length : Int) = CC.length + C1.length + C2.length := by rw [lenA, l1]
                    refine al_0 dX2_factor_237 ?_
                    refine bi_19 dX2_factor_238 ?_
                    refine c_X2_175 dX2_factor_240 rfl tt314 (Nat.le_of_ble_eq_true rfl) (by omega) ?_
                    refine wX2_emitted (by omega) d2 (by omega) (fun h9 E9 d9 => ?_)
                    refine pv_i ?_
                    refine wp_if_eq 250 dX2_factor_243 rfl (fun c => absurd c (by decide)) (fun _ => ?_)
                    refine ic_1 dX2_factor_246 ?_
                    refine wp_goto 251 dX2_factor_247 rfl ?_
                    refine wp_iretz dX2_factor_251 rfl (by omega) ?_
                    refine hQ _ ((((Ea.tr E1).u4 rfl).tr E2).tr E9.cl) (by rw [E9.j]; exact a2) ?_
                    rw [List.append_assoc, List.append_assoc] at d9
                    exact d9
                · refine pv_i ?_
                  refine wp_if_eq 250 dX2_factor_223 rfl (fun _ => ?_) (fun c => absurd rfl c)
                  refine ic_0 dX2_factor_250 ?_
                  refine wp_iretz dX2_factor_251 rfl (by omega) ?_
                  rw [if_neg q] at hQ
                  exact hQ _ ((Ea.tr E1).f.tr ((ClF.rf.u4 (Or.inl rfl)).u4 (Or.inr (Or.inl rfl)))) (by rw [up_k (by decide), up_s]) up_s
            · refine wp_lsw 180 (94) dX2_factor_86 (by decide) (by rw [c86]; rfl) rfl ?_
              refine al_0 dX2_factor_180 ?_
              refine il_1 dX2_factor_181 ?_
              refine il_2 dX2_factor_182 ?_
              refine ic_1 dX2_factor_183 ?_
              refine wp_iadd dX2_factor_184 (r32 (by omega) (by omega)) ?_
              rw [if_neg (by omega), if_neg (by omega), if_pos (by omega)] at hQ
              refine c_X2_166 dX2_factor_185 rfl tt314 (Nat.le_of_ble_eq_true rfl) (by omega) ?_
              refine H2 _ _ _ (i + 1) (CC) (by omega) (Bb.c Ea) up_s (by omega) i2 hC.at (by omega) ?_
              have g1 := G2 (i + 1) (CC.length) (by omega) i2
              cases hr1 : qq.2.1 (i + 1) (CC.length) with
              | inl e =>
                intro h1 E1 f1 p1
                refine pv_i ?_
                rw [hr1] at hQ
                refine wp_if_eq 204 dX2_factor_188 rfl (fun _ => ?_) (fun c => absurd rfl c)
                refine ic_0 dX2_factor_204 ?_
                refine wp_iretz dX2_factor_205 rfl (by omega) ?_
                exact hQ h1 (Ea.f.tr E1) f1 p1
              | inr x =>
                obtain ⟨j1, C1, M1, D1⟩ := x
                intro h1 E1 a1 d1
                refine pv_i ?_
                rw [hr1] at hQ g1
                obtain ⟨r11, r12, r13, r14⟩ := g1
                dsimp only [thn] at hQ
                refine wp_if_eq 204 dX2_factor_188 rfl (fun c => absurd c (by decide)) (fun _ => ?_)
                have l1 : ((CC ++ C1).length : Int) = CC.length + C1.length := lenA
                refine al_0 dX2_factor_191 ?_
                refine bi_21 dX2_factor_192 ?_
                refine c_X2_175 dX2_factor_194 rfl tt314 (Nat.le_of_ble_eq_true rfl) (by omega) ?_
                refine wX2_emitted (by omega) d1 (by omega) (fun h9 E9 d9 => ?_)
                refine pv_i ?_
                refine wp_if_eq 204 dX2_factor_197 rfl (fun c => absurd c (by decide)) (fun _ => ?_)
                refine ic_1 dX2_factor_200 ?_
                refine wp_goto 205 dX2_factor_201 rfl ?_
                refine wp_iretz dX2_factor_205 rfl (by omega) ?_
                refine hQ _ ((Ea.tr E1).tr E9.cl) (by rw [E9.j]; exact a1) ?_
                rw [List.append_assoc] at d9
                exact d9
            · refine wp_lsw 154 (68) dX2_factor_86 (by decide) (by rw [c86]; rfl) rfl ?_
              refine al_0 dX2_factor_154 ?_
              refine il_1 dX2_factor_155 ?_
              refine il_2 dX2_factor_156 ?_
              refine ic_1 dX2_factor_157 ?_
              refine wp_iadd dX2_factor_158 (r32 (by omega) (by omega)) ?_
              rw [if_neg (by omega), if_pos (by omega)] at hQ
              refine c_X2_166 dX2_factor_159 rfl tt314 (Nat.le_of_ble_eq_true rfl) (by omega) ?_
              refine H2 _ _ _ (i + 1) (CC) (by omega) (Bb.c Ea) up_s (by omega) i2 hC.at (by omega) ?_
              have g1 := G2 (i + 1) (CC.length) (by omega) i2
              cases hr1 : qq.2.1 (i + 1) (CC.length) with
              | inl e =>
                intro h1 E1 f1 p1
                refine pv_i ?_
                rw [hr1] at hQ
                refine wp_if_eq 178 dX2_factor_162 rfl (fun _ => ?_) (fun c => absurd rfl c)
                refine ic_0 dX2_factor_178 ?_
                refine wp_iretz dX2_factor_179 rfl (by omega) ?_
                exact hQ h1 (Ea.f.tr E1) f1 p1
              | inr x =>
                obtain ⟨j1, C1, M1, D1⟩ := x
                intro h1 E1 a1 d1
                refine pv_i ?_
                rw [hr1] at hQ g1
                obtain ⟨r11, r12, r13, r14⟩ := g1
                dsimp only [thn] at hQ
                refine wp_if_eq 178 dX2_factor_162 rfl (fun c => absurd c (by decide)) (fun _ => ?_)
                have l1 : ((CC ++ C1).length : Int) = CC.length + C1.length := lenA
                refine al_0 dX2_factor_165 ?_
                refine bi_60 dX2_factor_166 ?_
                refine c_X2_175 dX2_factor_168 rfl tt314 (Nat.le_of_ble_eq_true rfl) (by omega) ?_
                refine wX2_emitted (by omega) d1 (by omega) (fun h9 E9 d9 => ?_)
                refine pv_i ?_
                refine wp_if_eq 178 dX2_factor_171 rfl (fun c => absurd c (by decide)) (fun _ => ?_)
                refine ic_1 dX2_factor_174 ?_
                refine wp_goto 179 dX2_factor_175 rfl ?_
                refine wp_iretz dX2_factor_179 rfl (by omega) ?_
                refine hQ _ ((Ea.tr E1).tr E9.cl) (by rw [E9.j]; exact a1) ?_
                rw [List.append_assoc] at d9
                exact d9
            · refine wp_lsw 128 (42) dX2_factor_86 (by decide) (by rw [c86]; rfl) rfl ?_
              refine al_0 dX2_factor_128 ?_
              refine il_1 dX2_factor_129 ?_
              refine il_2 dX2_factor_130 ?_
              refine ic_1 dX2_factor_131 ?_
              refine wp_iadd dX2_factor_132 (r32 (by omega) (by omega)) ?_
              rw [if_pos (by omega)] at hQ
              refine c_X2_157 dX2_factor_133 rfl tt314 (Nat.le_of_ble_eq_true rfl) (by omega) ?_
              refine H1 _ _ _ (i + 1) (CC) (by omega) (Bb.c Ea) up_s (by omega) i2 hC.at (by omega) ?_
              have g1 := G1 (i + 1) (CC.length) (by omega) i2
              cases hr1 : qq.1 (i + 1) (CC.length) with
              | inl e =>
                intro h1 E1 f1 p1
                refine pv_i ?_
                rw [hr1] at hQ
                refine wp_if_eq 152 dX2_factor_136 rfl (fun _ => ?_) (fun c => absurd rfl c)
                refine ic_0 dX2_factor_152 ?_
                refine wp_iretz dX2_factor_153 rfl (by omega) ?_
                exact hQ h1 (Ea.f.tr E1) f1 p1
              | inr x =>
                obtain ⟨j1, C1, M1, D1⟩ := x
                intro h1 E1 a1 d1
                refine pv_i ?_
                rw [hr1] at hQ g1
                obtain ⟨r11, r12, r13, r14⟩ := g1
                dsimp only [thn] at hQ
                refine wp_if_eq 152 dX2_factor_136 rfl (fun c => absurd c (by decide)) (fun _ => ?_)
                refine al_0 dX2_factor_139 ?_
                refine bi_52 dX2_factor_140 ?_
                refine c_X2_141 dX2_factor_142 rfl tt314 (Nat.le_of_ble_eq_true rfl) (by omega) ?_
                refine wX2_expect (k := 52) (by omega) (Bb.c (Ea.tr E1)) a1 (by omega) r12 t (by omega) (fun q => ?_) (fun q => ?_)
                · refine pv_i ?_
                  refine wp_if_eq 152 dX2_factor_145 rfl (fun c => absurd c (by decide)) (fun _ => ?_)
                  refine ic_1 dX2_factor_148 ?_
                  refine wp_goto 153 dX2_factor_149 rfl ?_
                  refine wp_iretz dX2_factor_153 rfl (by omega) ?_
                  rw [if_pos q] at hQ
                  exact hQ _ ((Ea.tr E1).u4 rfl) up_s d1.at
                · refine pv_i ?_
                  refine wp_if_eq 152 dX2_factor_145 rfl (fun _ => ?_) (fun c => absurd rfl c)
                  refine ic_0 dX2_factor_152 ?_
                  refine wp_iretz dX2_factor_153 rfl (by omega) ?_
                  rw [if_neg q] at hQ
                  exact hQ _ ((Ea.tr E1).f.tr ((ClF.rf.u4 (Or.inl rfl)).u4 (Or.inr (Or.inl rfl)))) (by rw [up_k (by decide), up_s]) up_s
            · refine wp_lsw 252 (166) dX2_factor_86 (by decide) (by simp [Op.lookupswitch.offset, Ne.symm c86.1, Ne.symm c86.2.1, Ne.symm c86.2.2.1, Ne.symm c86.2.2.2]) rfl ?_
              refine al_0 dX2_factor_252 ?_
              refine il_1 dX2_factor_253 ?_
              refine il_2 dX2_factor_254 ?_
              refine ic_1 dX2_factor_255 ?_
              refine wp_iadd dX2_factor_256 (r32 (by omega) (by omega)) ?_
              rw [if_neg (by omega), if_neg (by omega), if_neg (by omega), if_neg (by omega)] at hQ
              refine c_X2_178 dX2_factor_257 rfl tt314 (Nat.le_of_ble_eq_true rfl) (by omega) ?_
              refine H3 _ _ _ (i + 1) CC (by omega) (Bb.c Ea) up_s (by omega) i2 hC.at (by omega) ?_
              refine CQr.mono (hQ.c Ea) (fun x h1 x01 hQ => ?_)
              refine pv_i ?_
              refine wp_iretz dX2_factor_260 rfl x01 ?_
              exact hQ
          · refine al_0 dX2_factor_75 ?_
            refine ic_3 dX2_factor_76 ?_
            refine c_X2_113 dX2_factor_77 rfl tt314 (Nat.le_of_ble_eq_true rfl) (by omega) ?_
            rw [if_neg (by omega), if_neg (by omega), if_pos (by omega)] at hQ
            obtain ⟨rfl, o8⟩ : rest = none ∧ o = 8 := by
              rcases hd () with z | z
              · exact z
              · have z1 := z.1
                omega
            refine wX2_fail (by omega) Bb hj i0 i1 t ?_
            refine pv_i ?_
            refine wp_iretz dX2_factor_80 rfl (by omega) ?_
            exact hQ _ ((ClF.rf.u4 (Or.inl rfl)).u4 (Or.inr (Or.inl rfl))) (by rw [up_k (by decide), up_s]) up_s
        · refine il_3 dX2_factor_45 ?_
          refine bi_21 dX2_factor_46 ?_
          refine wp_icmp_eq 69 dX2_factor_48 rfl (fun c48 => ?_) (fun c48 => ?_)
          · refine il_2 dX2_factor_69 ?_
            refine bi_8 dX2_factor_70 ?_
            refine wp_icmp_lt 81 dX2_factor_72 rfl (fun c72 => ?_) (fun c72 => ?_)
            · refine al_0 dX2_factor_81 ?_
              refine c_X2_116 dX2_factor_82 rfl tt314 (Nat.le_of_ble_eq_true rfl) (by omega) ?_
              rw [if_neg (by omega), if_neg (by omega), if_pos (by omega)] at hQ
              obtain ⟨o8, o8p, qq, rfl, H1, H2, H3, G1, G2⟩ := (hd ()).resolve_left (fun z => by have z2 := z.2; omega)
              have hQ : CQr Pf CC h hl b Q (facO K qq.1 qq.2.1 qq.2.2.1 i CC.length) := hQ
              unfold facO at hQ
              have Ea := (ClE.rf.u4 rfl : ClE h (up h 314 10 (i + 1)))
              have i2 := tk_lt t i1 (by omega)
              refine wX2_pass (by omega) Bb hj i0 i1 t (by omega) ?_
              refine pv_n ?_
              refine il_3 dX2_factor_85 ?_
              rcases (show (((K i)) = 19) ∨ (((K i)) = 21) ∨ (((K i)) = 48) ∨ (((K i)) = 51) ∨ (((K i)) ≠ 19 ∧ ((K i)) ≠ 21 ∧ ((K i)) ≠ 48 ∧ ((K i)) ≠ 51) by omega) with c86 | c86 | c86 | c86 | c86
              · refine wp_lsw 206 (120) dX2_factor_86 (by decide) (by rw [c86]; rfl) rfl ?_
                refine al_0 dX2_factor_206 ?_
                refine il_1 dX2_factor_207 ?_
                refine il_2 dX2_factor_208 ?_
                refine ic_1 dX2_factor_209 ?_
                refine wp_iadd dX2_factor_210 (r32 (by omega) (by omega)) ?_
                rw [if_neg (by omega), if_neg (by omega), if_neg (by omega), if_pos (by omega)] at hQ
                refine c_X2_166 dX2_factor_211 rfl tt314 (Nat.le_of_ble_eq_true rfl) (by omega) ?_
                refine H2 _ _ _ (i + 1) (CC) (by omega) (Bb.c Ea) up_s (by omega) i2 hC.at (by omega) ?_
                have g1 := G2 (i + 1) (CC.length) (by omega) i2
                cases hr1 : qq.2.1 (i + 1) (CC.length) with
                | inl e =>
                  intro h1 E1 f1 p1
                  refine pv_i ?_
                  rw [hr1] at hQ
                  refine wp_if_eq 250 dX2_factor_214 rfl (fun _ => ?_) (fun c => absurd rfl c)
                  refine ic_0 dX2_factor_250 ?_
                  refine wp_iretz dX2_factor_251 rfl (by omega) ?_
                  exact hQ h1 (Ea.f.tr E1) f1 p1
                | inr x =>
                  obtain ⟨j1, C1, M1, D1⟩ := x
                  intro h1 E1 a1 d1
                  refine pv_i ?_
                  rw [hr1] at hQ g1
                  obtain ⟨r11, r12, r13, r14⟩ := g1
                  dsimp only [thn] at hQ
                  refine wp_if_eq 250 dX2_factor_214 rfl (fun c => absurd c (by decide)) (fun _ => ?_)
                  have l1 : ((CC ++ C1).length : Int) = CC.length + C1.length := lenA
                  refine al_0 dX2_factor_217 ?_
                  refine bi_20 dX2_factor_218 ?_
                  refine c_X2_141 dX2_factor_220 rfl tt314 (Nat.le_of_ble_eq_true rfl) (by omega) ?_
                  refine wX2_expect (k := 20) (by omega) (Bb.c (Ea.tr E1)) a1 (by omega) r12 t (by omega) (fun q => ?_) (fun q => ?_)
                  · refine pv_i ?_
                    refine wp_if_eq 250 dX2_factor_223 rfl (fun c => absurd c (by decide)) (fun _ => ?_)
                    rw [if_pos q] at hQ
                    have j2 := tk_lt t r12 (by omega)
                    refine al_0 dX2_factor_226 ?_
                    refine il_1 dX2_factor_227 ?_
                    refine il_2 dX2_factor_228 ?_
                    refine ic_1 dX2_factor_229 ?_
                    refine wp_iadd dX2_factor_230 (r32 (by omega) (by omega)) ?_
                    refine c_X2_166 dX2_factor_231 rfl tt314 (Nat.le_of_ble_eq_true rfl) (by omega) ?_
                    refine H2 _ _ _ (j1 + 1) (CC ++ C1) (by omega) (Bb.c ((Ea.tr E1).u4 rfl)) up_s (by omega) j2 d1.at (by omega) ?_
                    rw [l1]
                    have g2 := G2 (j1 + 1) (CC.length + C1.length) (by omega) j2
                    cases hr2 : qq.2.1 (j1 + 1) (CC.length + C1.length) with
                    | inl e =>
                      intro h2 E2 f2 p2
                      refine pv_i ?_
                      rw [hr2] at hQ
                      refine wp_if_eq 250 dX2_factor_234 rfl (fun _ => ?_) (fun c => absurd rfl c)
                      refine ic_0 dX2_factor_250 ?_
                      refine wp_iretz dX2_factor_251 rfl (by omega) ?_
                      exact hQ h2 (((Ea.tr E1).u4 rfl).f.tr E2) f2 p2
                    | inr x =>
                      obtain ⟨j2, C2, M2, D2⟩ := x
                      intro h2 E2 a2 d2
                      refine pv_i ?_
                      rw [hr2] at hQ g2
                      obtain ⟨r21, r22, r23, r24⟩ := g2
                      dsimp only [thn] at hQ
                      refine wp_if_eq 250 dX2_factor_234 rfl (fun c => absurd c (by decide)) (fun _ => ?_)
                      have l2 : ((CC ++ C1 ++ C2).length : Int) = CC.length + C1.length + C2.length := by rw [lenA, l1]
                      refine al_0 dX2_factor_237 ?_
                      refine bi_19 dX2_factor_238 ?_
                      refine c_X2_175 dX2_factor_240 rfl tt314 (Nat.le_of_ble_eq_true rfl) (by omega) ?_
                      refine wX2_emitted (by omega) d2 (by omega) (fun h9 E9 d9 => ?_)
                      refine pv_i ?_
                      refine wp_if_eq 250 dX2_factor_243 rfl (fun c => absurd c (by decide)) (fun _ => ?_)
                      refine ic_1 dX2_factor_246 ?_
                      refine wp_goto 251 dX2_factor_247 rfl ?_
                      refine wp_iretz dX2_factor_251 rfl (by omega) ?_
                      refine hQ _ ((((Ea.tr E1).u4 rfl).tr E2).tr E9.cl) (by rw [E9.j]; exact a2) ?_
                      rw [List.append_assoc, List.append_assoc] at d9
                      exact d9
                  · refine pv_i ?_
                    refine wp_if_eq 250 dX2_factor_223 rfl (fun _ => ?_) (fun c => absurd rfl c)
                    refine ic_0 dX2_factor_250 ?_
                    refine wp_iretz dX2_factor_251 rfl (by omega) ?_
                    rw [if_neg q] at hQ
                    exact hQ _ ((Ea.tr E1).f.tr ((ClF.rf.u4 (Or.inl rfl)).u4 (Or.inr (Or.inl rfl)))) (by rw [up_k (by decide), up_s]) up_s
              · refine wp_lsw 180 (94) dX2_factor_86 (by decide) (by rw [c86]; rfl) rfl ?_
                refine al_0 dX2_factor_180 ?_
                refine il_1 dX2_factor_181 ?_
                refine il_2 dX2_factor_182 ?_
                refine ic_1 dX2_factor_183 ?_
                refine wp_iadd dX2_factor_184 (r32 (by omega) (by omega)) ?_
                rw [if_neg (by omega), if_neg (by omega), if_pos (by omega)] at hQ
                refine c_X2_166 dX2_factor_185 rfl tt314 (Nat.le_of_ble_eq_true rfl) (by omega) ?_
                refine H2 _ _ _ (i + 1) (CC) (by omega) (Bb.c Ea) up_s (by omega) i2 hC.at (by omega) ?_
                have g1 := G2 (i + 1) (CC.length) (by omega) i2
                cases hr1 : qq.2.1 (i + 1) (CC.length) with
                | inl e =>
                  intro h1 E1 f1 p1
                  refine pv_i ?_
                  rw [hr1] at hQ
                  refine wp_if_eq 204 dX2_factor_188 rfl (fun _ => ?_) (fun c => absurd rfl c)
                  refine ic_0 dX2_factor_204 ?_
                  refine wp_iretz dX2_factor_205 rfl (by omega) ?_
                  exact hQ h1 (Ea.f.tr E1) f1 p1
                | inr x =>
                  obtain ⟨j1, C1, M1, D1⟩ := x
                  intro h1 E1 a1 d1
                  refine pv_i ?_
                  rw [hr1] at hQ g1
                  obtain ⟨r11, r12, r13, r14⟩ := g1
                  dsimp only [thn] at hQ
                  refine wp_if_eq 204 dX2_factor_188 rfl (fun c => absurd c (by decide)) (fun _ => ?_)
                  have l1 : ((CC ++ C1).length : Int) = CC.length + C1.length := lenA
                  refine al_0 dX2_factor_191 ?_
                  refine bi_21 dX2_factor_192 ?_
                  refine c_X2_175 dX2_factor_194 rfl tt314 (Nat.le_of_ble_eq_true rfl) (by omega) ?_
                  refine wX2_emitted (by omega) d1 (by omega) (fun h9 E9 d9 => ?_)
                  refine pv_i ?_
                  refine wp_if_eq 204 dX2_factor_197 rfl (fun c => absurd c (by decide)) (fun _ => ?_)
                  refine ic_1 dX2_factor_200 ?_
                  refine wp_goto 205 dX2_factor_201 rfl ?_
                  refine wp_iretz dX2_factor_205 rfl (by omega) ?_
                  refine hQ _ ((Ea.tr E1).tr E9.cl) (by rw [E9.j]; exact a1) ?_
                  rw [List.append_assoc] at d9
                  exact d9
              · refine wp_lsw 154 (68) dX2_factor_86 (by decide) (by rw [c86]; rfl) rfl ?_
                refine al_0 dX2_factor_154 ?_
                refine il_1 dX2_factor_155 ?_
                refine il_2 dX2_factor_156 ?_
                refine ic_1 dX2_factor_157 ?_
                refine wp_iadd dX2_factor_158 (r32 (by omega) (by omega)) ?_
                rw [if_neg (by omega), if_pos (by omega)] at hQ
                refine c_X2_166 dX2_factor_159 rfl tt314 (Nat.le_of_ble_eq_true rfl) (by omega) ?_
                refine H2 _ _ _ (i + 1) (CC) (by omega) (Bb.c Ea) up_s (by omega) i2 hC.at (by omega) ?_
                have g1 := G2 (i + 1) (CC.length) (by omega) i2
                cases hr1 : qq.2.1 (i + 1) (CC.length) with
                | inl e =>
                  intro h1 E1 f1 p1
                  refine pv_i ?_
                  rw [hr1] at hQ
                  refine wp_if_eq 178 dX2_factor_162 rfl (fun _ => ?_) (fun c => absurd rfl c)
                  refine ic_0 dX2_factor_178 ?_
                  refine wp_iretz dX2_factor_179 rfl (by omega) ?_
                  exact hQ h1 (Ea.f.tr E1) f1 p1
                | inr x =>
                  obtain ⟨j1, C1, M1, D1⟩ := x
                  intro h1 E1 a1 d1
                  refine pv_i ?_
                  rw [hr1] at hQ g1
                  obtain ⟨r11, r12, r13, r14⟩ := g1
                  dsimp only [thn] at hQ
                  refine wp_if_eq 178 dX2_factor_162 rfl (fun c => absurd c (by decide)) (fun _ => ?_)
                  have l1 : ((CC ++ C1).length : Int) = CC.length + C1.length := lenA
                  refine al_0 dX2_factor_165 ?_
                  refine bi_60 dX2_factor_166 ?_
                  refine c_X2_175 dX2_factor_168 rfl tt314 (Nat.le_of_ble_eq_true rfl) (by omega) ?_
                  refine wX2_emitted (by omega) d1 (by omega) (fun h9 E9 d9 => ?_)
                  refine pv_i ?_
                  refine wp_if_eq 178 dX2_factor_171 rfl (fun c => absurd c (by decide)) (fun _ => ?_)
                  refine ic_1 dX2_factor_174 ?_
                  refine wp_goto 179 dX2_factor_175 rfl ?_
                  refine wp_iretz dX2_factor_179 rfl (by omega) ?_
                  refine hQ _ ((Ea.tr E1).tr E9.cl) (by rw [E9.j]; exact a1) ?_
                  rw [List.append_assoc] at d9
                  exact d9
              · refine wp_lsw 128 (42) dX2_factor_86 (by decide) (by rw [c86]; rfl) rfl ?_
                refine al_0 dX2_factor_128 ?_
                refine il_1 dX2_factor_129 ?_
                refine il_2 dX2_factor_130 ?_
                refine ic_1 dX2_factor_131 ?_
                refine wp_iadd dX2_factor_132 (r32 (by omega) (by omega)) ?_
                rw [if_pos (by omega)] at hQ
                refine c_X2_157 dX2_factor_133 rfl tt314 (Nat.le_of_ble_eq_true rfl) (by omega) ?_
                refine H1 _ _ _ (i + 1) (CC) (by omega) (Bb.c Ea) up_s (by omega) i2 hC.at (by omega) ?_
                have g1 := G1 (i + 1) (CC.length) (by omega) i2
                cases hr1 : qq.1 (i + 1) (CC.length) with
                | inl e =>
                  intro h1 E1 f1 p1
                  refine pv_i ?_
                  rw [hr1] at hQ
                  refine wp_if_eq 152 dX2_factor_136 rfl (fun _ => ?_) (fun c => absurd rfl c)
                  refine ic_0 dX2_factor_152 ?_
                  refine wp_iretz dX2_factor_153 rfl (by omega) ?_
                  exact hQ h1 (Ea.f.tr E1) f1 p1
                | inr x =>
                  obtain ⟨j1, C1, M1, D1⟩ := x
                  intro h1 E1 a1 d1
                  refine pv_i ?_
                  rw [hr1] at hQ g1
                  obtain ⟨r11, r12, r13, r14⟩ := g1
                  dsimp only [thn] at hQ
                  refine wp_if_eq 152 dX2_factor_136 rfl (fun c => absurd c (by decide)) (fun _ => ?_)
                  refine al_0 dX2_factor_139 ?_
                  refine bi_52 dX2_factor_140 ?_
                  refine c_X2_141 dX2_factor_142 rfl tt314 (Nat.le_of_ble_eq_true rfl) (by omega) ?_
                  refine wX2_expect (k := 52) (by omega) (Bb.c (Ea.tr E1)) a1 (by omega) r12 t (by omega) (fun q => ?_) (fun q => ?_)
                  · refine pv_i ?_
                    refine wp_if_eq 152 dX2_factor_145 rfl (fun c => absurd c (by decide)) (fun _ => ?_)
                    refine ic_1 dX2_factor_148 ?_
                    refine wp_goto 153 dX2_factor_149 rfl ?_
                    refine wp_iretz dX2_factor_153 rfl (by omega) ?_
                    rw [if_pos q] at hQ
                    exact hQ _ ((Ea.tr E1).u4 rfl) up_s d1.at
                  · refine pv_i ?_
                    refine wp_if_eq 152 dX2_factor_145 rfl (fun _ => ?_) (fun c => absurd rfl c)
                    refine ic_0 dX2_factor_152 ?_
                    refine wp_iretz dX2_factor_153 rfl (by omega) ?_
                    rw [if_neg q] at hQ
                    exact hQ _ ((Ea.tr E1).f.tr ((ClF.rf.u4 (Or.inl rfl)).u4 (Or.inr (Or.inl rfl)))) (by rw [up_k (by decide), up_s]) up_s
              · refine wp_lsw 252 (166) dX2_factor_86 (by decide) (by simp [Op.lookupswitch.offset, Ne.symm c86.1, Ne.symm c86.2.1, Ne.symm c86.2.2.1, Ne.symm c86.2.2.2]) rfl ?_
                refine al_0 dX2_factor_252 ?_
                refine il_1 dX2_factor_253 ?_
                refine il_2 dX2_factor_254 ?_
                refine ic_1 dX2_factor_255 ?_
                refine wp_iadd dX2_factor_256 (r32 (by omega) (by omega)) ?_
                rw [if_neg (by omega), if_neg (by omega), if_neg (by omega), if_neg (by omega)] at hQ
                refine c_X2_178 dX2_factor_257 rfl tt314 (Nat.le_of_ble_eq_true rfl) (by omega) ?_
                refine H3 _ _ _ (i + 1) CC (by omega) (Bb.c Ea) up_s (by omega) i2 hC.at (by omega) ?_
                refine CQr.mono (hQ.c Ea) (fun x h1 x01 hQ => ?_)
                refine pv_i ?_
                refine wp_iretz dX2_factor_260 rfl x01 ?_
                exact hQ
            · refine al_0 dX2_factor_75 ?_
              refine ic_3 dX2_factor_76 ?_
              refine c_X2_113 dX2_factor_77 rfl tt314 (Nat.le_of_ble_eq_true rfl) (by omega) ?_
              rw [if_neg (by omega), if_neg (by omega), if_pos (by omega)] at hQ
              obtain ⟨rfl, o8⟩ : rest = none ∧ o = 8 := by
                rcases hd () with z | z
                · exact z
                · have z1 := z.1
                  omega
              refine wX2_fail (by omega) Bb hj i0 i1 t ?_
              refine pv_i ?_
              refine wp_iretz dX2_factor_80 rfl (by omega) ?_
              exact hQ _ ((ClF.rf.u4 (Or.inl rfl)).u4 (Or.inr (Or.inl rfl))) (by rw [up_k (by decide), up_s]) up_s
          · refine il_3 dX2_factor_51 ?_
            refine bi_19 dX2_factor_52 ?_
            refine wp_icmp_eq 69 dX2_factor_54 rfl (fun c54 => ?_) (fun c54 => ?_)
            · refine il_2 dX2_factor_69 ?_
              refine bi_8 dX2_factor_70 ?_
              refine wp_icmp_lt 81 dX2_factor_72 rfl (fun c72 => ?_) (fun c72 => ?_)
              · refine al_0 dX2_factor_81 ?_
                refine c_X2_116 dX2_factor_82 rfl tt314 (Nat.le_of_ble_eq_true rfl) (by omega) ?_
                rw [if_neg (by omega), if_neg (by omega), if_pos (by omega)] at hQ
                obtain ⟨o8, o8p, qq, rfl, H1, H2, H3, G1, G2⟩ := (hd ()).resolve_left (fun z => by have z2 := z.2; omega)
                have hQ : CQr Pf CC h hl b Q (facO K qq.1 qq.2.1 qq.2.2.1 i CC.length) := hQ
                unfold facO at hQ
                have Ea := (ClE.rf.u4 rfl : ClE h (up h 314 10 (i + 1)))
                have i2 := tk_lt t i1 (by omega)
                refine wX2_pass (by omega) Bb hj i0 i1 t (by omega) ?_
                refine pv_n ?_
                refine il_3 dX2_factor_85 ?_
                rcases (show (((K i)) = 19) ∨ (((K i)) = 21) ∨ (((K i)) = 48) ∨ (((K i)) = 51) ∨ (((K i)) ≠ 19 ∧ ((K i)) ≠ 21 ∧ ((K i)) ≠ 48 ∧ ((K i)) ≠ 51) by omega) with c86 | c86 | c86 | c86 | c86
                · refine wp_lsw 206 (120) dX2_factor_86 (by decide) (by rw [c86]; rfl) rfl ?_
                  refine al_0 dX2_factor_206 ?_
                  refine il_1 dX2_factor_207 ?_
                  refine il_2 dX2_factor_208 ?_
                  refine ic_1 dX2_factor_209 ?_
                  refine wp_iadd dX2_factor_210 (r32 (by omega) (by omega)) ?_
                  rw [if_neg (by omega), if_neg (by omega), if_neg (by omega), if_pos (by omega)] at hQ
                  refine c_X2_166 dX2_factor_211 rfl tt314 (Nat.le_of_ble_eq_true rfl) (by omega) ?_
                  refine H2 _ _ _ (i + 1) (CC) (by omega) (Bb.c Ea) up_s (by omega) i2 hC.at (by omega) ?_
                  have g1 := G2 (i + 1) (CC.length) (by omega) i2
                  cases hr1 : qq.2.1 (i + 1) (CC.length) with
                  | inl e =>
                    intro h1 E1 f1 p1
                    refine pv_i ?_
                    rw [hr1] at hQ
                    refine wp_if_eq 250 dX2_factor_214 rfl (fun _ => ?_) (fun c => absurd rfl c)
                    refine ic_0 dX2_factor_250 ?_
                    refine wp_iretz dX2_factor_251 rfl (by omega) ?_
                    exact hQ h1 (Ea.f.tr E1) f1 p1
                  | inr x =>
                    obtain ⟨j1, C1, M1, D1⟩ := x
                    intro h1 E1 a1 d1
                    refine pv_i ?_
                    rw [hr1] at hQ g1
                    obtain ⟨r11, r12, r13, r14⟩ := g1
                    dsimp only [thn] at hQ
                    refine wp_if_eq 250 dX2_factor_214 rfl (fun c => absurd c (by decide)) (fun _ => ?_)
                    have l1 : ((CC ++ C1).length : Int) = CC.length + C1.length := lenA
                    refine al_0 dX2_factor_217 ?_
                    refine bi_20 dX2_factor_218 ?_
                    refine c_X2_141 dX2_factor_220 rfl tt314 (Nat.le_of_ble_eq_true rfl) (by omega) ?_
                    refine wX2_expect (k := 20) (by omega) (Bb.c (Ea.tr E1)) a1 (by omega) r12 t (by omega) (fun q => ?_) (fun q => ?_)
                    · refine pv_i ?_
                      refine wp_if_eq 250 dX2_factor_223 rfl (fun c => absurd c (by decide)) (fun _ => ?_)
                      rw [if_pos q] at hQ
                      have j2 := tk_lt t r12 (by omega)
                      refine al_0 dX2_factor_226 ?_
                      refine il_1 dX2_factor_227 ?_
                      refine il_2 dX2_factor_228 ?_
                      refine ic_1 dX2_factor_229 ?_
                      refine wp_iadd dX2_factor_230 (r32 (by omega) (by omega)) ?_
                      refine c_X2_166 dX2_factor_231 rfl tt314 (Nat.le_of_ble_eq_true rfl) (by omega) ?_
                      refine H2 _ _ _ (j1 + 1) (CC ++ C1) (by omega) (Bb.c ((Ea.tr E1).u4 rfl)) up_s (by omega) j2 d1.at (by omega) ?_
                      rw [l1]
                      have g2 := G2 (j1 + 1) (CC.length + C1.length) (by omega) j2
                      cases hr2 : qq.2.1 (j1 + 1) (CC.length + C1.length) with
                      | inl e =>
                        intro h2 E2 f2 p2
                        refine pv_i ?_
                        rw [hr2] at hQ
                        refine wp_if_eq 250 dX2_factor_234 rfl (fun _ => ?_) (fun c => absurd rfl c)
                        refine ic_0 dX2_factor_250 ?_
                        refine wp_iretz dX2_factor_251 rfl (by omega) ?_
                        exact hQ h2 (((Ea.tr E1).u4 rfl).f.tr E2) f2 p2
                      | inr x =>
                        obtain ⟨j2, C2, M2, D2⟩ := x
                        intro h2 E2 a2 d2
                        refine pv_i ?_
                        rw [hr2] at hQ g2
                        obtain ⟨r21, r22, r23, r24⟩ := g2
                        dsimp only [thn] at hQ
                        refine wp_if_eq 250 dX2_factor_234 rfl (fun c => absurd c (by decide)) (fun _ => ?_)
                        have l2 : ((CC ++ C1 ++ C2).length : Int) = CC.length + C1.length + C2.length := by rw [lenA, l1]
                        refine al_0 dX2_factor_237 ?_
                        refine bi_19 dX2_factor_238 ?_
                        refine c_X2_175 dX2_factor_240 rfl tt314 (Nat.le_of_ble_eq_true rfl) (by omega) ?_
                        refine wX2_emitted (by omega) d2 (by omega) (fun h9 E9 d9 => ?_)
                        refine pv_i ?_
                        refine wp_if_eq 250 dX2_factor_243 rfl (fun c => absurd c (by decide)) (fun _ => ?_)
                        refine ic_1 dX2_factor_246 ?_
                        refine wp_goto 251 dX2_factor_247 rfl ?_
                        refine wp_iretz dX2_factor_251 rfl (by omega) ?_
                        refine hQ _ ((((Ea.tr E1).u4 rfl).tr E2).tr E9.cl) (by rw [E9.j]; exact a2) ?_
                        rw [List.append_assoc, List.append_assoc] at d9
                        exact d9
                    · refine pv_i ?_
                      refine wp_if_eq 250 dX2_factor_223 rfl (fun _ => ?_) (fun c => absurd rfl c)
                      refine ic_0 dX2_factor_250 ?_
                      refine wp_iretz dX2_factor_251 rfl (by omega) ?_
                      rw [if_neg q] at hQ
                      exact hQ _ ((Ea.tr E1).f.tr ((ClF.rf.u4 (Or.inl rfl)).u4 (Or.inr (Or.inl rfl)))) (by rw [up_k (by decide), up_s]) up_s
                · refine wp_lsw 180 (94) dX2_factor_86 (by decide) (by rw [c86]; rfl) rfl ?_
                  refine al_0 dX2_factor_180 ?_
                  refine il_1 dX2_factor_181 ?_
                  refine il_2 dX2_factor_182 ?_
                  refine ic_1 dX2_factor_183 ?_
                  refine wp_iadd dX2_factor_184 (r32 (by omega) (by omega)) ?_
                  rw [if_neg (by omega), if_neg (by omega), if_pos (by omega)] at hQ
                  refine c_X2_166 dX2_factor_185 rfl tt314 (Nat.le_of_ble_eq_true rfl) (by omega) ?_
                  refine H2 _ _ _ (i + 1) (CC) (by omega) (Bb.c Ea) up_s (by omega) i2 hC.at (by omega) ?_
                  have g1 := G2 (i + 1) (CC.length) (by omega) i2
                  cases hr1 : qq.2.1 (i + 1) (CC.length) with
                  | inl e =>
                    intro h1 E1 f1 p1
                    refine pv_i ?_
                    rw [hr1] at hQ
                    refine wp_if_eq 204 dX2_factor_188 rfl (fun _ => ?_) (fun c => absurd rfl c)
                    refine ic_0 dX2_factor_204 ?_
                    refine wp_iretz dX2_factor_205 rfl (by omega) ?_
                    exact hQ h1 (Ea.f.tr E1) f1 p1
                  | inr x =>
                    obtain ⟨j1, C1, M1, D1⟩ := x
                    intro h1 E1 a1 d1
                    refine pv_i ?_
                    rw [hr1] at hQ g1
                    obtain ⟨r11, r12, r13, r14⟩ := g1
                    dsimp only [thn] at hQ
                    refine wp_if_eq 204 dX2_factor_188 rfl (fun c => absurd c (by decide)) (fun _ => ?_)
                    have l1 : ((CC ++ C1).length : Int) = CC.length + C1.length := lenA
                    refine al_0 dX2_factor_191 ?_
                    refine bi_21 dX2_factor_192 ?_
                    refine c_X2_175 dX2_factor_194 rfl tt314 (Nat.le_of_ble_eq_true rfl) (by omega) ?_
                    refine wX2_emitted (by omega) d1 (by omega) (fun h9 E9 d9 => ?_)
                    refine pv_i ?_
                    refine wp_if_eq 204 dX2_factor_197 rfl (fun c => absurd c (by decide)) (fun _ => ?_)
                    refine ic_1 dX2_factor_200 ?_
                    refine wp_goto 205 dX2_factor_201 rfl ?_
                    refine wp_iretz dX2_factor_205 rfl (by omega) ?_
                    refine hQ _ ((Ea.tr E1).tr E9.cl) (by rw [E9.j]; exact a1) ?_
                    rw [List.append_assoc] at d9
                    exact d9
                · refine wp_lsw 154 (68) dX2_factor_86 (by decide) (by rw [c86]; rfl) rfl ?_
                  refine al_0 dX2_factor_154 ?_
                  refine il_1 dX2_factor_155 ?_
                  refine il_2 dX2_factor_156 ?_
                  refine ic_1 dX2_factor_157 ?_
                  refine wp_iadd dX2_factor_158 (r32 (by omega) (by omega)) ?_
                  rw [if_neg (by omega), if_pos (by omega)] at hQ
                  refine c_X2_166 dX2_factor_159 rfl tt314 (Nat.le_of_ble_eq_true rfl) (by omega) ?_
                  refine H2 _ _ _ (i + 1) (CC) (by omega) (Bb.c Ea) up_s (by omega) i2 hC.at (by omega) ?_
                  have g1 := G2 (i + 1) (CC.length) (by omega) i2
                  cases hr1 : qq.2.1 (i + 1) (CC.length) with
                  | inl e =>
                    intro h1 E1 f1 p1
                    refine pv_i ?_
                    rw [hr1] at hQ
                    refine wp_if_eq 178 dX2_factor_162 rfl (fun _ => ?_) (fun c => absurd rfl c)
                    refine ic_0 dX2_factor_178 ?_
                    refine wp_iretz dX2_factor_179 rfl (by omega) ?_
                    exact hQ h1 (Ea.f.tr E1) f1 p1
                  | inr x =>
                    obtain ⟨j1, C1, M1, D1⟩ := x
                    intro h1 E1 a1 d1
                    refine pv_i ?_
                    rw [hr1] at hQ g1
                    obtain ⟨r11, r12, r13, r14⟩ := g1
                    dsimp only [thn] at hQ
                    refine wp_if_eq 178 dX2_factor_162 rfl (fun c => absurd c (by decide)) (fun _ => ?_)
                    have l1 : ((CC ++ C1).length : Int) = CC.length + C1.length := lenA
                    refine al_0 dX2_factor_165 ?_
                    refine bi_60 dX2_factor_166 ?_
                    refine c_X2_175 dX2_factor_168 rfl tt314 (Nat.le_of_ble_eq_true rfl) (by omega) ?_
                    refine wX2_emitted (by omega) d1 (by omega) (fun h9 E9 d9 => ?_)
                    refine pv_i ?_
                    refine wp_if_eq 178 dX2_factor_171 rfl (fun c => absurd c (by decide)) (fun _ => ?_)
                    refine ic_1 dX2_factor_174 ?_
                    refine wp_goto 179 dX2_factor_175 rfl ?_
                    refine wp_iretz dX2_factor_179 rfl (by omega) ?_
                    refine hQ _ ((Ea.tr E1).tr E9.cl) (by rw [E9.j]; exact a1) ?_
                    rw [List.append_assoc] at d9
                    exact d9
                · refine wp_lsw 128 (42) dX2_factor_86 (by decide) (by rw [c86]; rfl) rfl ?_
                  refine al_0 dX2_factor_128 ?_
                  refine il_1 dX2_factor_129 ?_
                  refine il_2 dX2_factor_130 ?_
                  refine ic_1 dX2_factor_131 ?_
                  refine wp_iadd dX2_factor_132 (r32 (by omega) (by omega)) ?_
                  rw [if_pos (by omega)] at hQ
                  refine c_X2_157 dX2_factor_133 rfl tt314 (Nat.le_of_ble_eq_true rfl) (by omega) ?_
                  refine H1 _ _ _ (i + 1) (CC) (by omega) (Bb.c Ea) up_s (by omega) i2 hC.at (by omega) ?_
                  have g1 := G1 (i + 1) (CC.length) (by omega) i2
                  cases hr1 : qq.1 (i + 1) (CC.length) with
                  | inl e =>
                    intro h1 E1 f1 p1
                    refine pv_i ?_
                    rw [hr1] at hQ
                    refine wp_if_eq 152 dX2_factor_136 rfl (fun _ => ?_) (fun c => absurd rfl c)
                    refine ic_0 dX2_factor_152 ?_
                    refine wp_iretz dX2_factor_153 rfl (by omega) ?_
                    exact hQ h1 (Ea.f.tr E1) f1 p1
                  | inr x =>
                    obtain ⟨j1, C1, M1, D1⟩ := x
                    intro h1 E1 a1 d1
                    refine pv_i ?_
                    rw [hr1] at hQ g1
                    obtain ⟨r11, r12, r13, r14⟩ := g1
                    dsimp only [thn] at hQ
                    refine wp_if_eq 152 dX2_factor_136 rfl (fun c => absurd c (by decide)) (fun _ => ?_)
                    refine al_0 dX2_factor_139 ?_
                    refine bi_52 dX2_factor_140 ?_
                    refine c_X2_141 dX2_factor_142 rfl tt314 (Nat.le_of_ble_eq_true rfl) (by omega) ?_
                    refine wX2_expect (k := 52) (by omega) (Bb.c (Ea.tr E1)) a1 (by omega) r12 t (by omega) (fun q => ?_) (fun q => ?_)
                    · refine pv_i ?_
                      refine wp_if_eq 152 dX2_factor_145 rfl (fun c => absurd c (by decide)) (fun _ => ?_)
                      refine ic_1 dX2_factor_148 ?_
                      refine wp_goto 153 dX2_factor_149 rfl ?_
                      refine wp_iretz dX2_factor_153 rfl (by omega) ?_
                      rw [if_pos q] at hQ
                      exact hQ _ ((Ea.tr E1).u4 rfl) up_s d1.at
                    · refine pv_i ?_
                      refine wp_if_eq 152 dX2_factor_145 rfl (fun _ => ?_) (fun c => absurd rfl c)
                      refine ic_0 dX2_factor_152 ?_
                      refine wp_iretz dX2_factor_153 rfl (by omega) ?_
                      rw [if_neg q] at hQ
                      exact hQ _ ((Ea.tr E1).f.tr ((ClF.rf.u4 (Or.inl rfl)).u4 (Or.inr (Or.inl rfl)))) (by rw [up_k (by decide), up_s]) up_s
                · refine wp_lsw 252 (166) dX2_factor_86 (by decide) (by simp [Op.lookupswitch.offset, Ne.symm c86.1, Ne.symm c86.2.1, Ne.symm c86.2.2.1, Ne.symm c86.2.2.2]) rfl ?_
                  refine al_0 dX2_factor_252 ?_
                  refine il_1 dX2_factor_253 ?_
                  refine il_2 dX2_factor_254 ?_
                  refine ic_1 dX2_factor_255 ?_
                  refine wp_iadd dX2_factor_256 (r32 (by omega) (by omega)) ?_
                  rw [if_neg (by omega), if_neg (by omega), if_neg (by omega), if_neg (by omega)] at hQ
                  refine c_X2_178 dX2_factor_257 rfl tt314 (Nat.le_of_ble_eq_true rfl) (by omega) ?_
                  refine H3 _ _ _ (i + 1) CC (by omega) (Bb.c Ea) up_s (by omega) i2 hC.at (by omega) ?_
                  refine CQr.mono (hQ.c Ea) (fun x h1 x01 hQ => ?_)
                  refine pv_i ?_
                  refine wp_iretz dX2_factor_260 rfl x01 ?_
                  exact hQ
              · refine al_0 dX2_factor_75 ?_
                refine ic_3 dX2_factor_76 ?_
                refine c_X2_113 dX2_factor_77 rfl tt314 (Nat.le_of_ble_eq_true rfl) (by omega) ?_
                rw [if_neg (by omega), if_neg (by omega), if_pos (by omega)] at hQ
                obtain ⟨rfl, o8⟩ : rest = none ∧ o = 8 := by
                  rcases hd () with z | z
                  · exact z
                  · have z1 := z.1
                    omega
                refine wX2_fail (by omega) Bb hj i0 i1 t ?_
                refine pv_i ?_
                refine wp_iretz dX2_factor_80 rfl (by omega) ?_
                exact hQ _ ((ClF.rf.u4 (Or.inl rfl)).u4 (Or.inr (Or.inl rfl))) (by rw [up_k (by decide), up_s]) up_s
            · refine il_3 dX2_factor_57 ?_
              refine bi_22 dX2_factor_58 ?_
              refine wp_icmp_eq 69 dX2_factor_60 rfl (fun c60 => ?_) (fun c60 => ?_)
              · refine il_2 dX2_factor_69 ?_
                refine bi_8 dX2_factor_70 ?_
                refine wp_icmp_lt 81 dX2_factor_72 rfl (fun c72 => ?_) (fun c72 => ?_)
                · refine al_0 dX2_factor_81 ?_
                  refine c_X2_116 dX2_factor_82 rfl tt314 (Nat.le_of_ble_eq_true rfl) (by omega) ?_
                  rw [if_neg (by omega), if_neg (by omega), if_pos (by omega)] at hQ
                  obtain ⟨o8, o8p, qq, rfl, H1, H2, H3, G1, G2⟩ := (hd ()).resolve_left (fun z => by have z2 := z.2; omega)
                  have hQ : CQr Pf CC h hl b Q (facO K qq.1 qq.2.1 qq.2.2.1 i CC.length) := hQ
                  unfold facO at hQ
                  have Ea := (ClE.rf.u4 rfl : ClE h (up h 314 10 (i + 1)))
                  have i2 := tk_lt t i1 (by omega)
                  refine wX2_pass (by omega) Bb hj i0 i1 t (by omega) ?_
                  refine pv_n ?_
                  refine il_3 dX2_factor_85 ?_
                  rcases (show (((K i)) = 19) ∨ (((K i)) = 21) ∨ (((K i)) = 48) ∨ (((K i)) = 51) ∨ (((K i)) ≠ 19 ∧ ((K i)) ≠ 21 ∧ ((K i)) ≠ 48 ∧ ((K i)) ≠ 51) by omega) with c86 | c86 | c86 | c86 | c86
                  · refine wp_lsw 206 (120) dX2_factor_86 (by decide) (by rw [c86]; rfl) rfl ?_
                    refine al_0 dX2_factor_206 ?_
                    refine il_1 dX2_factor_207 ?_
                    refine il_2 dX2_factor_208 ?_
                    refine ic_1 dX2_factor_209 ?_
                    refine wp_iadd dX2_factor_210 (r32 (by omega) (by omega)) ?_
                    rw [if_neg (by omega), if_neg (by omega), if_neg (by omega), if_pos (by omega)] at hQ
                    refine c_X2_166 dX2_factor_211 rfl tt314 (Nat.le_of_ble_eq_true rfl) (by omega) ?_
                    refine H2 _ _ _ (i + 1) (CC) (by omega) (Bb.c Ea) up_s (by omega) i2 hC.at (by omega) ?_
                    have g1 := G2 (i + 1) (CC.length) (by omega) i2
                    cases hr1 : qq.2.1 (i + 1) (CC.length) with
                    | inl e =>
                      intro h1 E1 f1 p1
                      refine pv_i ?_
                      rw [hr1] at hQ
                      refine wp_if_eq 250 dX2_factor_214 rfl (fun _ => ?_) (fun c => absurd rfl c)
                      refine ic_0 dX2_factor_250 ?_
                      refine wp_iretz dX2_factor_251 rfl (by omega) ?_
                      exact hQ h1 (Ea.f.tr E1) f1 p1
                    | inr x =>
                      obtain ⟨j1, C1, M1, D1⟩ := x
                      intro h1 E1 a1 d1
                      refine pv_i ?_
                      rw [hr1] at hQ g1
                      obtain ⟨r11, r12, r13, r14⟩ := g1
                      dsimp only [thn] at hQ
                      refine wp_if_eq 250 dX2_factor_214 rfl (fun c => absurd c (by decide)) (fun _ => ?_)
                      have l1 : ((CC ++ C1).length : Int) = CC.length + C1.length := lenA
                      refine al_0 dX2_factor_217 ?_
                      refine bi_20 dX2_factor_218 ?_
                      refine c_X2_141 dX2_factor_220 rfl tt314 (Nat.le_of_ble_eq_true rfl) (by omega) ?_
                      refine wX2_expect (k := 20) (by omega) (Bb.c (Ea.tr E1)) a1 (by omega) r12 t (by omega) (fun q => ?_) (fun q => ?_)
                      · refine pv_i ?_
                        refine wp_if_eq 250 dX2_factor_223 rfl (fun c => absurd c (by decide)) (fun _ => ?_)
                        rw [if_pos q] at hQ
                        have j2 := tk_lt t r12 (by omega)
                        refine al_0 dX2_factor_226 ?_
                        refine il_1 dX2_factor_227 ?_
                        refine il_2 dX2_factor_228 ?_
                        refine ic_1 dX2_factor_229 ?_
                        refine wp_iadd dX2_factor_230 (r32 (by omega) (by omega)) ?_
                        refine c_X2_166 dX2_factor_231 rfl tt314 (Nat.le_of_ble_eq_true rfl) (by omega) ?_
                        refine H2 _ _ _ (j1 + 1) (CC ++ C1) (by omega) (Bb.c ((Ea.tr E1).u4 rfl)) up_s (by omega) j2 d1.at (by omega) ?_
                        rw [l1]
                        have g2 := G2 (j1 + 1) (CC.length + C1.length) (by omega) j2
                        cases hr2 : qq.2.1 (j1 + 1) (CC.length + C1.length) with
                        | inl e =>
                          intro h2 E2 f2 p2
                          refine pv_i ?_
                          rw [hr2] at hQ
                          refine wp_if_eq 250 dX2_factor_234 rfl (fun _ => ?_) (fun c => absurd rfl c)
                          refine ic_0 dX2_factor_250 ?_
                          refine wp_iretz dX2_factor_251 rfl (by omega) ?_
                          exact hQ h2 (((Ea.tr E1).u4 rfl).f.tr E2) f2 p2
                        | inr x =>
                          obtain ⟨j2, C2, M2, D2⟩ := x
                          intro h2 E2 a2 d2
                          refine pv_i ?_
                          rw [hr2] at hQ g2
                          obtain ⟨r21, r22, r23, r24⟩ := g2
                          dsimp only [thn] at hQ
                          refine wp_if_eq 250 dX2_factor_234 rfl (fun c => absurd c (by decide)) (fun _ => ?_)
                          have l2 : ((CC ++ C1 ++ C2).length : Int) = CC.length + C1.length + C2.length := by rw [lenA, l1]
                          refine al_0 dX2_factor_237 ?_
                          refine bi_19 dX2_factor_238 ?_
                          refine c_X2_175 dX2_factor_240 rfl tt314 (Nat.le_of_ble_eq_true rfl) (by omega) ?_
                          refine wX2_emitted (by omega) d2 (by omega) (fun h9 E9 d9 => ?_)
                          refine pv_i ?_
                          refine wp_if_eq 250 dX2_factor_243 rfl (fun c => absurd c (by decide)) (fun _ => ?_)
                          refine ic_1 dX2_factor_246 ?_
                          refine wp_goto 251 dX2_factor_247 rfl ?_
                          refine wp_iretz dX2_factor_251 rfl (by omega) ?_
                          refine hQ _ ((((Ea.tr E1).u4 rfl).tr E2).tr E9.cl) (by rw [E9.j]; exact a2) ?_
                          rw [List.append_assoc, List.append_assoc] at d9
                          exact d9
                      · refine pv_i ?_
                        refine wp_if_eq 250 dX2_factor_223 rfl (fun _ => ?_) (fun c => absurd rfl c)
                        refine ic_0 dX2_factor_250 ?_
                        refine wp_iretz dX2_factor_251 rfl (by omega) ?_
                        rw [if_neg q] at hQ
                        exact hQ _ ((Ea.tr E1).f.tr ((ClF.rf.u4 (Or.inl rfl)).u4 (Or.inr (Or.inl rfl)))) (by rw [up_k (by decide), up_s]) up_s
                  · refine wp_lsw 180 (94) dX2_factor_86 (by decide) (by rw [c86]; rfl) rfl ?_
                    refine al_0 dX2_factor_180 ?_
                    refine il_1 dX2_factor_181 ?_
                    refine il_2 dX2_factor_182 ?_
                    refine ic_1 dX2_factor_183 ?_
                    refine wp_iadd dX2_factor_184 (r32 (by omega) (by omega)) ?_
                    rw [if_neg (by omega), if_neg (by omega), if_pos (by omega)] at hQ
                    refine c_X2_166 dX2_factor_185 rfl tt314 (Nat.le_of_ble_eq_true rfl) (by omega) ?_
                    refine H2 _ _ _ (i + 1) (CC) (by omega) (Bb.c Ea) up_s (by omega) i2 hC.at (by omega) ?_
                    have g1 := G2 (i + 1) (CC.length) (by omega) i2
                    cases hr1 : qq.2.1 (i + 1) (CC.length) with
                    | inl e =>
                      intro h1 E1 f1 p1
                      refine pv_i ?_
                      rw [hr1] at hQ
                      refine wp_if_eq 204 dX2_factor_188 rfl (fun _ => ?_) (fun c => absurd rfl c)
                      refine ic_0 dX2_factor_204 ?_
                      refine wp_iretz dX2_factor_205 rfl (by omega) ?_
                      exact hQ h1 (Ea.f.tr E1) f1 p1
                    | inr x =>
                      obtain ⟨j1, C1, M1, D1⟩ := x
                      intro h1 E1 a1 d1
                      refine pv_i ?_
                      rw [hr1] at hQ g1
                      obtain ⟨r11, r12, r13, r14⟩ := g1
                      dsimp only [thn] at hQ
                      refine wp_if_eq 204 dX2_factor_188 rfl (fun c => absurd c (by decide)) (fun _ => ?_)
                      have l1 : ((CC ++ C1).length : Int) = CC.length + C1.length := lenA
                      refine al_0 dX2_factor_191 ?_
                      refine bi_21 dX2_factor_192 ?_
                      refine c_X2_175 dX2_factor_194 rfl tt314 (Nat.le_of_ble_eq_true rfl) (by omega) ?_
                      refine wX2_emitted (by omega) d1 (by omega) (fun h9 E9 d9 => ?_)
                      refine pv_i ?_
                      refine wp_if_eq 204 dX2_factor_197 rfl (fun c => absurd c (by decide)) (fun _ => ?_)
                      refine ic_1 dX2_factor_200 ?_
                      refine wp_goto 205 dX2_factor_201 rfl ?_
                      refine wp_iretz dX2_factor_205 rfl (by omega) ?_
                      refine hQ _ ((Ea.tr E1).tr E9.cl) (by rw [E9.j]; exact a1) ?_
                      rw [List.append_assoc] at d9
                      exact d9
                  · refine wp_lsw 154 (68) dX2_factor_86 (by decide) (by rw [c86]; rfl) rfl ?_
                    refine al_0 dX2_factor_154 ?_
                    refine il_1 dX2_factor_155 ?_
                    refine il_2 dX2_factor_156 ?_
                    refine ic_1 dX2_factor_157 ?_
                    refine wp_iadd dX2_factor_158 (r32 (by omega) (by omega)) ?_
                    rw [if_neg (by omega), if_pos (by omega)] at hQ
                    refine c_X2_166 dX2_factor_159 rfl tt314 (Nat.le_of_ble_eq_true rfl) (by omega) ?_
                    refine H2 _ _ _ (i + 1) (CC) (by omega) (Bb.c Ea) up_s (by omega) i2 hC.at (by omega) ?_
                    have g1 := G2 (i + 1) (CC.length) (by omega) i2
                    cases hr1 : qq.2.1 (i + 1) (CC.length) with
                    | inl e =>
                      intro h1 E1 f1 p1
                      refine pv_i ?_
                      rw [hr1] at hQ
                      refine wp_if_eq 178 dX2_factor_162 rfl (fun _ => ?_) (fun c => absurd rfl c)
                      refine ic_0 dX2_factor_178 ?_
                      refine wp_iretz dX2_factor_179 rfl (by omega) ?_
                      exact hQ h1 (Ea.f.tr E1) f1 p1
                    | inr x =>
                      obtain ⟨j1, C1, M1, D1⟩ := x
                      intro h1 E1 a1 d1
                      refine pv_i ?_
                      rw [hr1] at hQ g1
                      obtain ⟨r11, r12, r13, r14⟩ := g1
                      dsimp only [thn] at hQ
                      refine wp_if_eq 178 dX2_factor_162 rfl (fun c => absurd c (by decide)) (fun _ => ?_)
                      have l1 : ((CC ++ C1).length : Int) = CC.length + C1.length := lenA
                      refine al_0 dX2_factor_165 ?_
                      refine bi_60 dX2_factor_166 ?_
                      refine c_X2_175 dX2_factor_168 rfl tt314 (Nat.le_of_ble_eq_true rfl) (by omega) ?_
                      refine wX2_emitted (by omega) d1 (by omega) (fun h9 E9 d9 => ?_)
                      refine pv_i ?_
                      refine wp_if_eq 178 dX2_factor_171 rfl (fun c => absurd c (by decide)) (fun _ => ?_)
                      refine ic_1 dX2_factor_174 ?_
                      refine wp_goto 179 dX2_factor_175 rfl ?_
                      refine wp_iretz dX2_factor_179 rfl (by omega) ?_
                      refine hQ _ ((Ea.tr E1).tr E9.cl) (by rw [E9.j]; exact a1) ?_
                      rw [List.append_assoc] at d9
                      exact d9
                  · refine wp_lsw 128 (42) dX2_factor_86 (by decide) (by rw [c86]; rfl) rfl ?_
                    refine al_0 dX2_factor_128 ?_
                    refine il_1 dX2_factor_129 ?_
                    refine il_2 dX2_factor_130 ?_
                    refine ic_1 dX2_factor_131 ?_
                    refine wp_iadd dX2_factor_132 (r32 (by omega) (by omega)) ?_
                    rw [if_pos (by omega)] at hQ
                    refine c_X2_157 dX2_factor_133 rfl tt314 (Nat.le_of_ble_eq_true rfl) (by omega) ?_
                    refine H1 _ _ _ (i + 1) (CC) (by omega) (Bb.c Ea) up_s (by omega) i2 hC.at (by omega) ?_
                    have g1 := G1 (i + 1) (CC.length) (by omega) i2
                    cases hr1 : qq.1 (i + 1) (CC.length) with
                    | inl e =>
                      intro h1 E1 f1 p1
                      refine pv_i ?_
                      rw [hr1] at hQ
                      refine wp_if_eq 152 dX2_factor_136 rfl (fun _ => ?_) (fun c => absurd rfl c)
                      refine ic_0 dX2_factor_152 ?_
                      refine wp_iretz dX2_factor_153 rfl (by omega) ?_
                      exact hQ h1 (Ea.f.tr E1) f1 p1
                    | inr x =>
                      obtain ⟨j1, C1, M1, D1⟩ := x
                      intro h1 E1 a1 d1
                      refine pv_i ?_
                      rw [hr1] at hQ g1
                      obtain ⟨r11, r12, r13, r14⟩ := g1
                      dsimp only [thn] at hQ
                      refine wp_if_eq 152 dX2_factor_136 rfl (fun c => absurd c (by decide)) (fun _ => ?_)
                      refine al_0 dX2_factor_139 ?_
                      refine bi_52 dX2_factor_140 ?_
                      refine c_X2_141 dX2_factor_142 rfl tt314 (Nat.le_of_ble_eq_true rfl) (by omega) ?_
                      refine wX2_expect (k := 52) (by omega) (Bb.c (Ea.tr E1)) a1 (by omega) r12 t (by omega) (fun q => ?_) (fun q => ?_)
                      · refine pv_i ?_
                        refine wp_if_eq 152 dX2_factor_145 rfl (fun c => absurd c (by decide)) (fun _ => ?_)
                        refine ic_1 dX2_factor_148 ?_
                        refine wp_goto 153 dX2_factor_149 rfl ?_
                        refine wp_iretz dX2_factor_153 rfl (by omega) ?_
                        rw [if_pos q] at hQ
                        exact hQ _ ((Ea.tr E1).u4 rfl) up_s d1.at
                      · refine pv_i ?_
                        refine wp_if_eq 152 dX2_factor_145 rfl (fun _ => ?_) (fun c => absurd rfl c)
                        refine ic_0 dX2_factor_152 ?_
                        refine wp_iretz dX2_factor_153 rfl (by omega) ?_
                        rw [if_neg q] at hQ
                        exact hQ _ ((Ea.tr E1).f.tr ((ClF.rf.u4 (Or.inl rfl)).u4 (Or.inr (Or.inl rfl)))) (by rw [up_k (by decide), up_s]) up_s
                  · refine wp_lsw 252 (166) dX2_factor_86 (by decide) (by simp [Op.lookupswitch.offset, Ne.symm c86.1, Ne.symm c86.2.1, Ne.symm c86.2.2.1, Ne.symm c86.2.2.2]) rfl ?_
                    refine al_0 dX2_factor_252 ?_
                    refine il_1 dX2_factor_253 ?_
                    refine il_2 dX2_factor_254 ?_
                    refine ic_1 dX2_factor_255 ?_
                    refine wp_iadd dX2_factor_256 (r32 (by omega) (by omega)) ?_
                    rw [if_neg (by omega), if_neg (by omega), if_neg (by omega), if_neg (by omega)] at hQ
                    refine c_X2_178 dX2_factor_257 rfl tt314 (Nat.le_of_ble_eq_true rfl) (by omega) ?_
                    refine H3 _ _ _ (i + 1) CC (by omega) (Bb.c Ea) up_s (by omega) i2 hC.at (by omega) ?_
                    refine CQr.mono (hQ.c Ea) (fun x h1 x01 hQ => ?_)
                    refine pv_i ?_
                    refine wp_iretz dX2_factor_260 rfl x01 ?_
                    exact hQ
                · refine al_0 dX2_factor_75 ?_
                  refine ic_3 dX2_factor_76 ?_
                  refine c_X2_113 dX2_factor_77 rfl tt314 (Nat.le_of_ble_eq_true rfl) (by omega) ?_
                  rw [if_neg (by omega), if_neg (by omega), if_pos (by omega)] at hQ
                  obtain ⟨rfl, o8⟩ : rest = none ∧ o = 8 := by
                    rcases hd () with z | z
                    · exact z
                    · have z1 := z.1
                      omega
                  refine wX2_fail (by omega) Bb hj i0 i1 t ?_
                  refine pv_i ?_
                  refine wp_iretz dX2_factor_80 rfl (by omega) ?_
                  exact hQ _ ((ClF.rf.u4 (Or.inl rfl)).u4 (Or.inr (Or.inl rfl))) (by rw [up_k (by decide), up_s]) up_s
              · refine al_0 dX2_factor_63 ?_
                refine ic_1 dX2_factor_64 ?_
                refine c_X2_113 dX2_factor_65 rfl tt314 (Nat.le_of_ble_eq_true rfl) (by omega) ?_
                rw [if_neg (by omega), if_neg (by omega), if_neg (by omega)] at hQ
                refine wX2_fail (by omega) Bb hj i0 i1 t ?_
                refine pv_i ?_
                refine wp_iretz dX2_factor_68 rfl (by omega) ?_
                exact hQ _ ((ClF.rf.u4 (Or.inl rfl)).u4 (Or.inr (Or.inl rfl))) (by rw [up_k (by decide), up_s]) up_s
    · refine al_0 dX2_factor_27 ?_
      refine il_1 dX2_factor_28 ?_
      refine c_X2_172 dX2_factor_29 rfl tt314 (Nat.le_of_ble_eq_true rfl) (by omega) ?_
      rw [if_neg (by omega), if_pos (by omega)] at hQ
      refine wX2_name (s := s) (by omega) Bb hj i0 i1 t hC cl kR (by omega) hls ?_
      refine CQr.mono hQ (fun x h1 x01 hQ => ?_)
      refine pv_i ?_
      refine wp_iretz dX2_factor_32 rfl x01 ?_
      exact hQ
  · refine al_0 dX2_factor_16 ?_
    refine c_X2_169 dX2_factor_17 rfl tt314 (Nat.le_of_ble_eq_true rfl) (by omega) ?_
    rw [if_pos (by omega)] at hQ
    refine wX2_constant (by omega) Bb hj i0 i1 t hC cl (by omega) ?_
    refine CQr.mono hQ (fun x h1 x01 hQ => ?_)
    refine pv_i ?_
    refine wp_iretz dX2_factor_20 rfl x01 ?_
    exact hQ

theorem wX2_product_L {G : GT} {δ : Nat} {hl : Nat → Int → Int} {b : Bool × Bool} {Q : V → Hp → Prop} {K Vf Pf : Int → Int} {nT l o : Int} {CC : List Int} {pr : PF} {h0 : Nat → Int → Int} {Dd : Nat} (hδ : δ ≤ 1550) (hδ' : δ + 1 ≤ Dd) (t : TkE K nT) (Bb : ClB K Vf Pf nT h0) (gp : PG nT pr) (hpr : ImpF G hl b K Vf Pf nT (Dd) MX2_factor [vr 314, vi l, vi (o), vn] (pr)) : ∀ (n : Nat) (m : Nat) (c : Int) (j : Int) (C : List Int) (Mm : MCd) (D : DV) (h : Nat → Int → Int), (m) < n → (c = 300 - m) → (m ≤ 300) → (ClE h0 h) → (h 314 10 = j) → (0 ≤ j) → (j ≤ nT - 1) → (Cd h (CC ++ C)) → (((CC ++ C).length : Int) ≤ 2 * j) → (CQr Pf CC h0 hl b Q (lpP K 49 50 (-41) pr m j CC.length C Mm D)) → WP G δ 0 0 MX2_product 13 [vr (314), vi l, vi o, vi c, vn] [] (HS h hl b) Q := by
  intro n
  induction n with
  | zero => intro m c j C Mm D h hlt; exact absurd hlt (Nat.not_lt_zero _)
  | succ n ih =>
    intro m c j C Mm D h hlt hm m3 E hj j0 j1' hC cl hQ
    have tn := t.2.1
    have l0 : ((CC ++ C).length : Int) = CC.length + C.length := lenA
    refine il_3 dX2_product_13 ?_
    refine si_300 dX2_product_14 ?_
    refine wp_icmp_ge 89 dX2_product_17 rfl (fun c17 => ?_) (fun c17 => ?_)
    · have m0 : m = 0 := by omega
      subst m0
      refine ic_1 dX2_product_89 ?_
      refine wp_iretz dX2_product_90 rfl (by omega) ?_
      first
        | exact hQ h E hj hC
        | (unfold lpP at hQ
           rw [if_neg (by omega)] at hQ
           exact hQ h E hj hC)
    · obtain ⟨m', rfl⟩ : ∃ m', m = m' + 1 := ⟨m - 1, by omega⟩
      obtain ⟨hK, -, -⟩ := (Bb.c E).2 j j0 (by omega)
      refine al_0 dX2_product_20 ?_
      refine g_X2_26 (320) dX2_product_21 rfl tt314 (rr2_6 tt314) (by omega) ?_
      refine al_0 dX2_product_24 ?_
      refine g_X2_51 dX2_product_25 rfl tt314 ?_
      rw [hj]
      refine wp_iaload dX2_product_28 tt320 (by omega) (by omega) ?_
      rw [hK]
      refine bi_49 dX2_product_29 ?_
      refine wp_icmp_eq 48 dX2_product_31 rfl (fun c31 => ?_) (fun c31 => ?_)
      · refine al_0 dX2_product_48 ?_
        refine g_X2_26 (320) dX2_product_49 rfl tt314 (rr2_6 tt314) (by omega) ?_
        refine al_0 dX2_product_52 ?_
        refine g_X2_51 dX2_product_53 rfl tt314 ?_
        rw [hj]
        refine wp_iaload dX2_product_56 tt320 (by omega) (by omega) ?_
        rw [hK]
        refine is_4 dX2_product_57 rfl (by decide) ?_
        refine al_0 dX2_product_59 ?_
        refine c_X2_116 dX2_product_60 rfl tt314 (Nat.le_of_ble_eq_true rfl) (by omega) ?_
        have q : 49 ≤ K j ∧ K j ≤ 50 := by omega
        unfold lpP at hQ
        rw [if_pos q] at hQ
        have j2 := tk_lt t j1' (by omega)
        have Ea : ClE h0 (up h 314 10 (j + 1)) := E.u4 rfl
        refine wX2_pass (by omega) (Bb.c E) hj j0 j1' t (by omega) ?_
        refine pv_n ?_
        refine al_0 dX2_product_63 ?_
        refine il_1 dX2_product_64 ?_
        refine il_2 dX2_product_65 ?_
        refine c_X2_166 dX2_product_66 rfl tt314 (Nat.le_of_ble_eq_true rfl) (by omega) ?_
        refine hpr _ _ _ (j + 1) (CC ++ C) (by omega) (Bb.c Ea) up_s (by omega) j2 hC.at (by omega) ?_
        rw [l0]
        have g1 := gp (j + 1) (CC.length + C.length) (by omega) j2
        cases hr1 : pr (j + 1) (CC.length + C.length) with
        | inl e =>
          intro h1 E1 f1 p1
          refine pv_i ?_
          rw [hr1] at hQ
          refine wp_if_ne 74 dX2_product_69 rfl (fun c => absurd rfl c) (fun _ => ?_)
          refine ic_0 dX2_product_72 ?_
          refine wp_iretz dX2_product_73 rfl (by omega) ?_
          exact hQ h1 (Ea.f.tr E1) f1 p1
        | inr x =>
          obtain ⟨j1, C1, M1, D1⟩ := x
          intro h1 E1 a1 d1
          refine pv_i ?_
          rw [hr1] at hQ g1
          obtain ⟨r11, r12, r13, r14⟩ := g1
          dsimp only [thn] at hQ
          refine wp_if_ne 74 dX2_product_69 rfl (fun _ => ?_) (fun c => absurd c (by decide))
          have l1 : ((CC ++ C ++ C1).length : Int) = CC.length + C.length + C1.length := by rw [lenA, l0]
          refine al_0 dX2_product_74 ?_
          refine g_X2_22 (316) dX2_product_75 rfl tt314 (rr2_5 tt314) (by omega) ?_
          refine il_4 dX2_product_78 ?_
          refine c_X2_160 dX2_product_80 rfl tt316 (Nat.le_of_ble_eq_true rfl) (by omega) ?_
          refine wX3_emitC (by omega) d1 (by omega) (fun h2' E2' d2' => ?_)
          refine pv_n ?_
          refine ii_3 dX2_product_83 rfl (by decide) ⟨by decide, by decide⟩ (r32 (by omega) (by omega)) ?_
          refine wp_goto 13 dX2_product_86 rfl ?_
          refine wp_fg (ls' := [_, _, _, _, vn]) ⟨Or.inr rfl, Or.inr rfl, Or.inr rfl, Or.inr rfl, Or.inl rfl, trivial⟩ ?_
          refine ih m' (c + 1) j1 (C ++ (C1 ++ [K j])) _ _ h2' (by omega) (by omega) (by omega) ((Ea.tr E1).tr E2'.cl) (by rw [E2'.j]; exact a1) (by omega) r12 (by rw [← List.append_assoc, ← List.append_assoc]; first | exact d2' | (rw [show K j = 49 by omega]; exact d2')) ?_ hQ
          rw [lenA, lenA, lenA]
          show (CC.length : Int) + (C.length + (C1.length + 1)) ≤ 2 * j1
          omega
      · refine al_0 dX2_product_34 ?_
        refine g_X2_26 (320) dX2_product_35 rfl tt314 (rr2_6 tt314) (by omega) ?_
        refine al_0 dX2_product_38 ?_
        refine g_X2_51 dX2_product_39 rfl tt314 ?_
        rw [hj]
        refine wp_iaload dX2_product_42 tt320 (by omega) (by omega) ?_
        rw [hK]
        refine bi_50 dX2_product_43 ?_
        refine wp_icmp_ne 89 dX2_product_45 rfl (fun c45 => ?_) (fun c45 => ?_)
        · refine ic_1 dX2_product_89 ?_
          refine wp_iretz dX2_product_90 rfl (by omega) ?_
          first
            | exact hQ h E hj hC
            | (unfold lpP at hQ
               rw [if_neg (by omega)] at hQ
               exact hQ h E hj hC)
        · refine al_0 dX2_product_48 ?_
          refine g_X2_26 (320) dX2_product_49 rfl tt314 (rr2_6 tt314) (by omega) ?_
          refine al_0 dX2_product_52 ?_
          refine g_X2_51 dX2_product_53 rfl tt314 ?_
          rw [hj]
          refine wp_iaload dX2_product_56 tt320 (by omega) (by omega) ?_
          rw [hK]
          refine is_4 dX2_product_57 rfl (by decide) ?_
          refine al_0 dX2_product_59 ?_
          refine c_X2_116 dX2_product_60 rfl tt314 (Nat.le_of_ble_eq_true rfl) (by omega) ?_
          have q : 49 ≤ K j ∧ K j ≤ 50 := by omega
          unfold lpP at hQ
          rw [if_pos q] at hQ
          have j2 := tk_lt t j1' (by omega)
          have Ea : ClE h0 (up h 314 10 (j + 1)) := E.u4 rfl
          refine wX2_pass (by omega) (Bb.c E) hj j0 j1' t (by omega) ?_
          refine pv_n ?_
          refine al_0 dX2_product_63 ?_
          refine il_1 dX2_product_64 ?_
          refine il_2 dX2_product_65 ?_
          refine c_X2_166 dX2_product_66 rfl tt314 (Nat.le_of_ble_eq_true rfl) (by omega) ?_
          refine hpr _ _ _ (j + 1) (CC ++ C) (by omega) (Bb.c Ea) up_s (by omega) j2 hC.at (by omega) ?_
          rw [l0]
          have g1 := gp (j + 1) (CC.length + C.length) (by omega) j2
          cases hr1 : pr (j + 1) (CC.length + C.length) with
          | inl e =>
            intro h1 E1 f1 p1
            refine pv_i ?_
            rw [hr1] at hQ
            refine wp_if_ne 74 dX2_product_69 rfl (fun c => absurd rfl c) (fun _ => ?_)
            refine ic_0 dX2_product_72 ?_
            refine wp_iretz dX2_product_73 rfl (by omega) ?_
            exact hQ h1 (Ea.f.tr E1) f1 p1
          | inr x =>
            obtain ⟨j1, C1, M1, D1⟩ := x
            intro h1 E1 a1 d1
            refine pv_i ?_
            rw [hr1] at hQ g1
            obtain ⟨r11, r12, r13, r14⟩ := g1
            dsimp only [thn] at hQ
            refine wp_if_ne 74 dX2_product_69 rfl (fun _ => ?_) (fun c => absurd c (by decide))
            have l1 : ((CC ++ C ++ C1).length : Int) = CC.length + C.length + C1.length := by rw [lenA, l0]
            refine al_0 dX2_product_74 ?_
            refine g_X2_22 (316) dX2_product_75 rfl tt314 (rr2_5 tt314) (by omega) ?_
            refine il_4 dX2_product_78 ?_
            refine c_X2_160 dX2_product_80 rfl tt316 (Nat.le_of_ble_eq_true rfl) (by omega) ?_
            refine wX3_emitC (by omega) d1 (by omega) (fun h2' E2' d2' => ?_)
            refine pv_n ?_
            refine ii_3 dX2_product_83 rfl (by decide) ⟨by decide, by decide⟩ (r32 (by omega) (by omega)) ?_
            refine wp_goto 13 dX2_product_86 rfl ?_
            refine wp_fg (ls' := [_, _, _, _, vn]) ⟨Or.inr rfl, Or.inr rfl, Or.inr rfl, Or.inr rfl, Or.inl rfl, trivial⟩ ?_
            refine ih m' (c + 1) j1 (C ++ (C1 ++ [K j])) _ _ h2' (by omega) (by omega) (by omega) ((Ea.tr E1).tr E2'.cl) (by rw [E2'.j]; exact a1) (by omega) r12 (by rw [← List.append_assoc, ← List.append_assoc]; first | exact d2' | (rw [show K j = 49 by omega]; exact d2')) ?_ hQ
            rw [lenA, lenA, lenA]
            show (CC.length : Int) + (C.length + (C1.length + 1)) ≤ 2 * j1
            omega

theorem imp_product {G : GT} {hl : Nat → Int → Int} {b : Bool × Bool} {K Vf Pf : Int → Int} {n l s : Int} (t : TkE K n) (hls : l = 10 + s) {o : Int} {D Dd : Nat} {pr : PF} (hD : D + 1 ≤ Dd) (hD2 : D ≤ 1500) (gp : PG n pr) (hpr : ImpF G hl b K Vf Pf n (Dd) MX2_factor [vr 314, vi l, vi (o), vn] (pr)) : ImpF G hl b K Vf Pf n (D) MX2_product [vr 314, vi l, vi (o), vn, vn] (seqP K 49 50 (-41) pr) := by
  intro δ h Q i CC hδ Bb hj i0 i1 hC cl hQ
  obtain ⟨hK, hV, hP⟩ := Bb.2 i i0 (by omega)
  have tn := t.2.1
  unfold seqP at hQ
  refine al_0 dX2_product_0 ?_
  refine il_1 dX2_product_1 ?_
  refine il_2 dX2_product_2 ?_
  refine c_X2_166 dX2_product_3 rfl tt314 (Nat.le_of_ble_eq_true rfl) (by omega) ?_
  refine hpr _ _ _ (i) (CC) (by omega) Bb hj (by omega) i1 hC (by omega) ?_
  have g1 := gp (i) (CC.length) (by omega) i1
  cases hr1 : pr (i) (CC.length) with
  | inl e =>
    intro h1 E1 f1 p1
    refine pv_i ?_
    rw [hr1] at hQ
    refine wp_if_ne 11 dX2_product_6 rfl (fun c => absurd rfl c) (fun _ => ?_)
    refine ic_0 dX2_product_9 ?_
    refine wp_iretz dX2_product_10 rfl (by omega) ?_
    exact hQ h1 E1 f1 p1
  | inr x =>
    obtain ⟨j1, C1, M1, D1⟩ := x
    intro h1 E1 a1 d1
    refine pv_i ?_
    rw [hr1] at hQ g1
    obtain ⟨r11, r12, r13, r14⟩ := g1
    dsimp only [thn] at hQ
    refine wp_if_ne 11 dX2_product_6 rfl (fun _ => ?_) (fun c => absurd c (by decide))
    refine ic_0 dX2_product_11 ?_
    refine is_3 dX2_product_12 rfl (by decide) ?_
    exact wX2_product_L (h0 := h) (Dd := Dd) (by omega) (by omega) t Bb gp hpr _ 300 0 j1 C1 M1 D1 h1 (Nat.lt_succ_self _) (by omega) (by omega) E1 a1 (by omega) r12 d1 (by rw [lenA]; omega) hQ

theorem wX2_sum_L {G : GT} {δ : Nat} {hl : Nat → Int → Int} {b : Bool × Bool} {Q : V → Hp → Prop} {K Vf Pf : Int → Int} {nT l o : Int} {CC : List Int} {pr : PF} {h0 : Nat → Int → Int} {Dd : Nat} (hδ : δ ≤ 1550) (hδ' : δ + 1 ≤ Dd) (t : TkE K nT) (Bb : ClB K Vf Pf nT h0) (gp : PG nT pr) (hpr : ImpF G hl b K Vf Pf nT (Dd) MX2_product [vr 314, vi l, vi (o), vn, vn] (pr)) : ∀ (n : Nat) (m : Nat) (c : Int) (j : Int) (C : List Int) (Mm : MCd) (D : DV) (h : Nat → Int → Int), (m) < n → (c = 300 - m) → (m ≤ 300) → (ClE h0 h) → (h 314 10 = j) → (0 ≤ j) → (j ≤ nT - 1) → (Cd h (CC ++ C)) → (((CC ++ C).length : Int) ≤ 2 * j) → (CQr Pf CC h0 hl b Q (lpP K 47 48 (-41) pr m j CC.length C Mm D)) → WP G δ 0 0 MX2_sum 13 [vr (314), vi l, vi o, vi c, vn] [] (HS h hl b) Q := by
  intro n
  induction n with
  | zero => intro m c j C Mm D h hlt; exact absurd hlt (Nat.not_lt_zero _)
  | succ n ih =>
    intro m c j C Mm D h hlt hm m3 E hj j0 j1' hC cl hQ
    have tn := t.2.1
    have l0 : ((CC ++ C).length : Int) = CC.length + C.length := lenA
    refine il_3 dX2_sum_13 ?_
    refine si_300 dX2_sum_14 ?_
    refine wp_icmp_ge 89 dX2_sum_17 rfl (fun c17 => ?_) (fun c17 => ?_)
    · have m0 : m = 0 := by omega
      subst m0
      refine ic_1 dX2_sum_89 ?_
      refine wp_iretz dX2_sum_90 rfl (by omega) ?_
      first
        | exact hQ h E hj hC
        | (unfold lpP at hQ
           rw [if_neg (by omega)] at hQ
           exact hQ h E hj hC)
    · obtain ⟨m', rfl⟩ : ∃ m', m = m' + 1 := ⟨m - 1, by omega⟩
      obtain ⟨hK, -, -⟩ := (Bb.c E).2 j j0 (by omega)
      refine al_0 dX2_sum_20 ?_
      refine g_X2_26 (320) dX2_sum_21 rfl tt314 (rr2_6 tt314) (by omega) ?_
      refine al_0 dX2_sum_24 ?_
      refine g_X2_51 dX2_sum_25 rfl tt314 ?_
      rw [hj]
      refine wp_iaload dX2_sum_28 tt320 (by omega) (by omega) ?_
      rw [hK]
      refine bi_47 dX2_sum_29 ?_
      refine wp_icmp_eq 48 dX2_sum_31 rfl (fun c31 => ?_) (fun c31 => ?_)
      · refine al_0 dX2_sum_48 ?_
        refine g_X2_26 (320) dX2_sum_49 rfl tt314 (rr2_6 tt314) (by omega) ?_
        refine al_0 dX2_sum_52 ?_
        refine g_X2_51 dX2_sum_53 rfl tt314 ?_
        rw [hj]
        refine wp_iaload dX2_sum_56 tt320 (by omega) (by omega) ?_
        rw [hK]
        refine is_4 dX2_sum_57 rfl (by decide) ?_
        refine al_0 dX2_sum_59 ?_
        refine c_X2_116 dX2_sum_60 rfl tt314 (Nat.le_of_ble_eq_true rfl) (by omega) ?_
        have q : 47 ≤ K j ∧ K j ≤ 48 := by omega
        unfold lpP at hQ
        rw [if_pos q] at hQ
        have j2 := tk_lt t j1' (by omega)
        have Ea : ClE h0 (up h 314 10 (j + 1)) := E.u4 rfl
        refine wX2_pass (by omega) (Bb.c E) hj j0 j1' t (by omega) ?_
        refine pv_n ?_
        refine al_0 dX2_sum_63 ?_
        refine il_1 dX2_sum_64 ?_
        refine il_2 dX2_sum_65 ?_
        refine c_X2_163 dX2_sum_66 rfl tt314 (Nat.le_of_ble_eq_true rfl) (by omega) ?_
        refine hpr _ _ _ (j + 1) (CC ++ C) (by omega) (Bb.c Ea) up_s (by omega) j2 hC.at (by omega) ?_
        rw [l0]
        have g1 := gp (j + 1) (CC.length + C.length) (by omega) j2
        cases hr1 : pr (j + 1) (CC.length + C.length) with
        | inl e =>
          intro h1 E1 f1 p1
          refine pv_i ?_
          rw [hr1] at hQ
          refine wp_if_ne 74 dX2_sum_69 rfl (fun c => absurd rfl c) (fun _ => ?_)
          refine ic_0 dX2_sum_72 ?_
          refine wp_iretz dX2_sum_73 rfl (by omega) ?_
          exact hQ h1 (Ea.f.tr E1) f1 p1
        | inr x =>
          obtain ⟨j1, C1, M1, D1⟩ := x
          intro h1 E1 a1 d1
          refine pv_i ?_
          rw [hr1] at hQ g1
          obtain ⟨r11, r12, r13, r14⟩ := g1
          dsimp only [thn] at hQ
          refine wp_if_ne 74 dX2_sum_69 rfl (fun _ => ?_) (fun c => absurd c (by decide))
          have l1 : ((CC ++ C ++ C1).length : Int) = CC.length + C.length + C1.length := by rw [lenA, l0]
          refine al_0 dX2_sum_74 ?_
          refine g_X2_22 (316) dX2_sum_75 rfl tt314 (rr2_5 tt314) (by omega) ?_
          refine il_4 dX2_sum_78 ?_
          refine c_X2_160 dX2_sum_80 rfl tt316 (Nat.le_of_ble_eq_true rfl) (by omega) ?_
          refine wX3_emitC (by omega) d1 (by omega) (fun h2' E2' d2' => ?_)
          refine pv_n ?_
          refine ii_3 dX2_sum_83 rfl (by decide) ⟨by decide, by decide⟩ (r32 (by omega) (by omega)) ?_
          refine wp_goto 13 dX2_sum_86 rfl ?_
          refine wp_fg (ls' := [_, _, _, _, vn]) ⟨Or.inr rfl, Or.inr rfl, Or.inr rfl, Or.inr rfl, Or.inl rfl, trivial⟩ ?_
          refine ih m' (c + 1) j1 (C ++ (C1 ++ [K j])) _ _ h2' (by omega) (by omega) (by omega) ((Ea.tr E1).tr E2'.cl) (by rw [E2'.j]; exact a1) (by omega) r12 (by rw [← List.append_assoc, ← List.append_assoc]; first | exact d2' | (rw [show K j = 47 by omega]; exact d2')) ?_ hQ
          rw [lenA, lenA, lenA]
          show (CC.length : Int) + (C.length + (C1.length + 1)) ≤ 2 * j1
          omega
      · refine al_0 dX2_sum_34 ?_
        refine g_X2_26 (320) dX2_sum_35 rfl tt314 (rr2_6 tt314) (by omega) ?_
        refine al_0 dX2_sum_38 ?_
        refine g_X2_51 dX2_sum_39 rfl tt314 ?_
        rw [hj]
        refine wp_iaload dX2_sum_42 tt320 (by omega) (by omega) ?_
        rw [hK]
        refine bi_48 dX2_sum_43 ?_
        refine wp_icmp_ne 89 dX2_sum_45 rfl (fun c45 => ?_) (fun c45 => ?_)
        · refine ic_1 dX2_sum_89 ?_
          refine wp_iretz dX2_sum_90 rfl (by omega) ?_
          first
            | exact hQ h E hj hC
            | (unfold lpP at hQ
               rw [if_neg (by omega)] at hQ
               exact hQ h E hj hC)
        · refine al_0 dX2_sum_48 ?_
          refine g_X2_26 (320) dX2_sum_49 rfl tt314 (rr2_6 tt314) (by omega) ?_
          refine al_0 dX2_sum_52 ?_
          refine g_X2_51 dX2_sum_53 rfl tt314 ?_
          rw [hj]
          refine wp_iaload dX2_sum_56 tt320 (by omega) (by omega) ?_
          rw [hK]
          refine is_4 dX2_sum_57 rfl (by decide) ?_
          refine al_0 dX2_sum_59 ?_
          refine c_X2_116 dX2_sum_60 rfl tt314 (Nat.le_of_ble_eq_true rfl) (by omega) ?_
          have q : 47 ≤ K j ∧ K j ≤ 48 := by omega
          unfold lpP at hQ
          rw [if_pos q] at hQ
          have j2 := tk_lt t j1' (by omega)
          have Ea : ClE h0 (up h 314 10 (j + 1)) := E.u4 rfl
          refine wX2_pass (by omega) (Bb.c E) hj j0 j1' t (by omega) ?_
          refine pv_n ?_
          refine al_0 dX2_sum_63 ?_
          refine il_1 dX2_sum_64 ?_
          refine il_2 dX2_sum_65 ?_
          refine c_X2_163 dX2_sum_66 rfl tt314 (Nat.le_of_ble_eq_true rfl) (by omega) ?_
          refine hpr _ _ _ (j + 1) (CC ++ C) (by omega) (Bb.c Ea) up_s (by omega) j2 hC.at (by omega) ?_
          rw [l0]
          have g1 := gp (j + 1) (CC.length + C.length) (by omega) j2
          cases hr1 : pr (j + 1) (CC.length + C.length) with
          | inl e =>
            intro h1 E1 f1 p1
            refine pv_i ?_
            rw [hr1] at hQ
            refine wp_if_ne 74 dX2_sum_69 rfl (fun c => absurd rfl c) (fun _ => ?_)
            refine ic_0 dX2_sum_72 ?_
            refine wp_iretz dX2_sum_73 rfl (by omega) ?_
            exact hQ h1 (Ea.f.tr E1) f1 p1
          | inr x =>
            obtain ⟨j1, C1, M1, D1⟩ := x
            intro h1 E1 a1 d1
            refine pv_i ?_
            rw [hr1] at hQ g1
            obtain ⟨r11, r12, r13, r14⟩ := g1
            dsimp only [thn] at hQ
            refine wp_if_ne 74 dX2_sum_69 rfl (fun _ => ?_) (fun c => absurd c (by decide))
            have l1 : ((CC ++ C ++ C1).length : Int) = CC.length + C.length + C1.length := by rw [lenA, l0]
            refine al_0 dX2_sum_74 ?_
            refine g_X2_22 (316) dX2_sum_75 rfl tt314 (rr2_5 tt314) (by omega) ?_
            refine il_4 dX2_sum_78 ?_
            refine c_X2_160 dX2_sum_80 rfl tt316 (Nat.le_of_ble_eq_true rfl) (by omega) ?_
            refine wX3_emitC (by omega) d1 (by omega) (fun h2' E2' d2' => ?_)
            refine pv_n ?_
            refine ii_3 dX2_sum_83 rfl (by decide) ⟨by decide, by decide⟩ (r32 (by omega) (by omega)) ?_
            refine wp_goto 13 dX2_sum_86 rfl ?_
            refine wp_fg (ls' := [_, _, _, _, vn]) ⟨Or.inr rfl, Or.inr rfl, Or.inr rfl, Or.inr rfl, Or.inl rfl, trivial⟩ ?_
            refine ih m' (c + 1) j1 (C ++ (C1 ++ [K j])) _ _ h2' (by omega) (by omega) (by omega) ((Ea.tr E1).tr E2'.cl) (by rw [E2'.j]; exact a1) (by omega) r12 (by rw [← List.append_assoc, ← List.append_assoc]; first | exact d2' | (rw [show K j = 47 by omega]; exact d2')) ?_ hQ
            rw [lenA, lenA, lenA]
            show (CC.length : Int) + (C.length + (C1.length + 1)) ≤ 2 * j1
            omega

theorem imp_sum {G : GT} {hl : Nat → Int → Int} {b : Bool × Bool} {K Vf Pf : Int → Int} {n l s : Int} (t : TkE K n) (hls : l = 10 + s) {o : Int} {D Dd : Nat} {pr : PF} (hD : D + 1 ≤ Dd) (hD2 : D ≤ 1500) (gp : PG n pr) (hpr : ImpF G hl b K Vf Pf n (Dd) MX2_product [vr 314, vi l, vi (o), vn, vn] (pr)) : ImpF G hl b K Vf Pf n (D) MX2_sum [vr 314, vi l, vi (o), vn, vn] (seqP K 47 48 (-41) pr) := by
  intro δ h Q i CC hδ Bb hj i0 i1 hC cl hQ
  obtain ⟨hK, hV, hP⟩ := Bb.2 i i0 (by omega)
  have tn := t.2.1
  unfold seqP at hQ
  refine al_0 dX2_sum_0 ?_
  refine il_1 dX2_sum_1 ?_
  refine il_2 dX2_sum_2 ?_
  refine c_X2_163 dX2_sum_3 rfl tt314 (Nat.le_of_ble_eq_true rfl) (by omega) ?_
  refine hpr _ _ _ (i) (CC) (by omega) Bb hj (by omega) i1 hC (by omega) ?_
  have g1 := gp (i) (CC.length) (by omega) i1
  cases hr1 : pr (i) (CC.length) with
  | inl e =>
    intro h1 E1 f1 p1
    refine pv_i ?_
    rw [hr1] at hQ
    refine wp_if_ne 11 dX2_sum_6 rfl (fun c => absurd rfl c) (fun _ => ?_)
    refine ic_0 dX2_sum_9 ?_
    refine wp_iretz dX2_sum_10 rfl (by omega) ?_
    exact hQ h1 E1 f1 p1
  | inr x =>
    obtain ⟨j1, C1, M1, D1⟩ := x
    intro h1 E1 a1 d1
    refine pv_i ?_
    rw [hr1] at hQ g1
    obtain ⟨r11, r12, r13, r14⟩ := g1
    dsimp only [thn] at hQ
    refine wp_if_ne 11 dX2_sum_6 rfl (fun _ => ?_) (fun c => absurd c (by decide))
    refine ic_0 dX2_sum_11 ?_
    refine is_3 dX2_sum_12 rfl (by decide) ?_
    exact wX2_sum_L (h0 := h) (Dd := Dd) (by omega) (by omega) t Bb gp hpr _ 300 0 j1 C1 M1 D1 h1 (Nat.lt_succ_self _) (by omega) (by omega) E1 a1 (by omega) r12 d1 (by rw [lenA]; omega) hQ

theorem wX2_both_L {G : GT} {δ : Nat} {hl : Nat → Int → Int} {b : Bool × Bool} {Q : V → Hp → Prop} {K Vf Pf : Int → Int} {nT l o : Int} {CC : List Int} {pr : PF} {h0 : Nat → Int → Int} {Dd : Nat} (hδ : δ ≤ 1550) (hδ' : δ + 1 ≤ Dd) (t : TkE K nT) (Bb : ClB K Vf Pf nT h0) (gp : PG nT pr) (hpr : ImpF G hl b K Vf Pf nT (Dd) MX2_ask [vr 314, vi l, vi (o), vn] (pr)) : ∀ (n : Nat) (m : Nat) (c : Int) (j : Int) (C : List Int) (Mm : MCd) (D : DV) (h : Nat → Int → Int), (m) < n → (c = 300 - m) → (m ≤ 300) → (ClE h0 h) → (h 314 10 = j) → (0 ≤ j) → (j ≤ nT - 1) → (Cd h (CC ++ C)) → (((CC ++ C).length : Int) ≤ 2 * j) → (CQr Pf CC h0 hl b Q (lpP K 27 27 (-6) pr m j CC.length C Mm D)) → WP G δ 0 0 MX2_both 13 [vr (314), vi l, vi o, vi c] [] (HS h hl b) Q := by
  intro n
  induction n with
  | zero => intro m c j C Mm D h hlt; exact absurd hlt (Nat.not_lt_zero _)
  | succ n ih =>
    intro m c j C Mm D h hlt hm m3 E hj j0 j1' hC cl hQ
    have tn := t.2.1
    have l0 : ((CC ++ C).length : Int) = CC.length + C.length := lenA
    refine il_3 dX2_both_13 ?_
    refine si_300 dX2_both_14 ?_
    refine wp_icmp_ge 64 dX2_both_17 rfl (fun c17 => ?_) (fun c17 => ?_)
    · have m0 : m = 0 := by omega
      subst m0
      refine ic_1 dX2_both_64 ?_
      refine wp_iretz dX2_both_65 rfl (by omega) ?_
      first
        | exact hQ h E hj hC
        | (unfold lpP at hQ
           rw [if_neg (by omega)] at hQ
           exact hQ h E hj hC)
    · obtain ⟨m', rfl⟩ : ∃ m', m = m' + 1 := ⟨m - 1, by omega⟩
      obtain ⟨hK, -, -⟩ := (Bb.c E).2 j j0 (by omega)
      refine al_0 dX2_both_20 ?_
      refine g_X2_26 (320) dX2_both_21 rfl tt314 (rr2_6 tt314) (by omega) ?_
      refine al_0 dX2_both_24 ?_
      refine g_X2_51 dX2_both_25 rfl tt314 ?_
      rw [hj]
      refine wp_iaload dX2_both_28 tt320 (by omega) (by omega) ?_
      rw [hK]
      refine bi_27 dX2_both_29 ?_
      refine wp_icmp_ne 64 dX2_both_31 rfl (fun c31 => ?_) (fun c31 => ?_)
      · refine ic_1 dX2_both_64 ?_
        refine wp_iretz dX2_both_65 rfl (by omega) ?_
        first
          | exact hQ h E hj hC
          | (unfold lpP at hQ
             rw [if_neg (by omega)] at hQ
             exact hQ h E hj hC)
      · refine al_0 dX2_both_34 ?_
        refine c_X2_116 dX2_both_35 rfl tt314 (Nat.le_of_ble_eq_true rfl) (by omega) ?_
        have q : 27 ≤ K j ∧ K j ≤ 27 := by omega
        unfold lpP at hQ
        rw [if_pos q] at hQ
        have j2 := tk_lt t j1' (by omega)
        have Ea : ClE h0 (up h 314 10 (j + 1)) := E.u4 rfl
        refine wX2_pass (by omega) (Bb.c E) hj j0 j1' t (by omega) ?_
        refine pv_n ?_
        refine al_0 dX2_both_38 ?_
        refine il_1 dX2_both_39 ?_
        refine il_2 dX2_both_40 ?_
        refine c_X2_193 dX2_both_41 rfl tt314 (Nat.le_of_ble_eq_true rfl) (by omega) ?_
        refine hpr _ _ _ (j + 1) (CC ++ C) (by omega) (Bb.c Ea) up_s (by omega) j2 hC.at (by omega) ?_
        rw [l0]
        have g1 := gp (j + 1) (CC.length + C.length) (by omega) j2
        cases hr1 : pr (j + 1) (CC.length + C.length) with
        | inl e =>
          intro h1 E1 f1 p1
          refine pv_i ?_
          rw [hr1] at hQ
          refine wp_if_ne 49 dX2_both_44 rfl (fun c => absurd rfl c) (fun _ => ?_)
          refine ic_0 dX2_both_47 ?_
          refine wp_iretz dX2_both_48 rfl (by omega) ?_
          exact hQ h1 (Ea.f.tr E1) f1 p1
        | inr x =>
          obtain ⟨j1, C1, M1, D1⟩ := x
          intro h1 E1 a1 d1
          refine pv_i ?_
          rw [hr1] at hQ g1
          obtain ⟨r11, r12, r13, r14⟩ := g1
          dsimp only [thn] at hQ
          refine wp_if_ne 49 dX2_both_44 rfl (fun _ => ?_) (fun c => absurd c (by decide))
          have l1 : ((CC ++ C ++ C1).length : Int) = CC.length + C.length + C1.length := by rw [lenA, l0]
          refine al_0 dX2_both_49 ?_
          refine g_X2_22 (316) dX2_both_50 rfl tt314 (rr2_5 tt314) (by omega) ?_
          refine bi_27 dX2_both_53 ?_
          refine c_X2_160 dX2_both_55 rfl tt316 (Nat.le_of_ble_eq_true rfl) (by omega) ?_
          refine wX3_emitC (by omega) d1 (by omega) (fun h2' E2' d2' => ?_)
          refine pv_n ?_
          refine ii_3 dX2_both_58 rfl (by decide) ⟨by decide, by decide⟩ (r32 (by omega) (by omega)) ?_
          refine wp_goto 13 dX2_both_61 rfl ?_
          refine ih m' (c + 1) j1 (C ++ (C1 ++ [K j])) _ _ h2' (by omega) (by omega) (by omega) ((Ea.tr E1).tr E2'.cl) (by rw [E2'.j]; exact a1) (by omega) r12 (by rw [← List.append_assoc, ← List.append_assoc]; first | exact d2' | (rw [show K j = 27 by omega]; exact d2')) ?_ hQ
          rw [lenA, lenA, lenA]
          show (CC.length : Int) + (C.length + (C1.length + 1)) ≤ 2 * j1
          omega

theorem imp_both {G : GT} {hl : Nat → Int → Int} {b : Bool × Bool} {K Vf Pf : Int → Int} {n l s : Int} (t : TkE K n) (hls : l = 10 + s) {o : Int} {D Dd : Nat} {pr : PF} (hD : D + 1 ≤ Dd) (hD2 : D ≤ 1500) (gp : PG n pr) (hpr : ImpF G hl b K Vf Pf n (Dd) MX2_ask [vr 314, vi l, vi (o), vn] (pr)) : ImpF G hl b K Vf Pf n (D) MX2_both [vr 314, vi l, vi (o), vn] (seqP K 27 27 (-6) pr) := by
  intro δ h Q i CC hδ Bb hj i0 i1 hC cl hQ
  obtain ⟨hK, hV, hP⟩ := Bb.2 i i0 (by omega)
  have tn := t.2.1
  unfold seqP at hQ
  refine al_0 dX2_both_0 ?_
  refine il_1 dX2_both_1 ?_
  refine il_2 dX2_both_2 ?_
  refine c_X2_193 dX2_both_3 rfl tt314 (Nat.le_of_ble_eq_true rfl) (by omega) ?_
  refine hpr _ _ _ (i) (CC) (by omega) Bb hj (by omega) i1 hC (by omega) ?_
  have g1 := gp (i) (CC.length) (by omega) i1
  cases hr1 : pr (i) (CC.length) with
  | inl e =>
    intro h1 E1 f1 p1
    refine pv_i ?_
    rw [hr1] at hQ
    refine wp_if_ne 11 dX2_both_6 rfl (fun c => absurd rfl c) (fun _ => ?_)
    refine ic_0 dX2_both_9 ?_
    refine wp_iretz dX2_both_10 rfl (by omega) ?_
    exact hQ h1 E1 f1 p1
  | inr x =>
    obtain ⟨j1, C1, M1, D1⟩ := x
    intro h1 E1 a1 d1
    refine pv_i ?_
    rw [hr1] at hQ g1
    obtain ⟨r11, r12, r13, r14⟩ := g1
    dsimp only [thn] at hQ
    refine wp_if_ne 11 dX2_both_6 rfl (fun _ => ?_) (fun c => absurd c (by decide))
    refine ic_0 dX2_both_11 ?_
    refine is_3 dX2_both_12 rfl (by decide) ?_
    exact wX2_both_L (h0 := h) (Dd := Dd) (by omega) (by omega) t Bb gp hpr _ 300 0 j1 C1 M1 D1 h1 (Nat.lt_succ_self _) (by omega) (by omega) E1 a1 (by omega) r12 d1 (by rw [lenA]; omega) hQ

theorem wX2_either_L {G : GT} {δ : Nat} {hl : Nat → Int → Int} {b : Bool × Bool} {Q : V → Hp → Prop} {K Vf Pf : Int → Int} {nT l o : Int} {CC : List Int} {pr : PF} {h0 : Nat → Int → Int} {Dd : Nat} (hδ : δ ≤ 1550) (hδ' : δ + 1 ≤ Dd) (t : TkE K nT) (Bb : ClB K Vf Pf nT h0) (gp : PG nT pr) (hpr : ImpF G hl b K Vf Pf nT (Dd) MX2_both [vr 314, vi l, vi (o), vn] (pr)) : ∀ (n : Nat) (m : Nat) (c : Int) (j : Int) (C : List Int) (Mm : MCd) (D : DV) (h : Nat → Int → Int), (m) < n → (c = 300 - m) → (m ≤ 300) → (ClE h0 h) → (h 314 10 = j) → (0 ≤ j) → (j ≤ nT - 1) → (Cd h (CC ++ C)) → (((CC ++ C).length : Int) ≤ 2 * j) → (CQr Pf CC h0 hl b Q (lpP K 26 26 (-4) pr m j CC.length C Mm D)) → WP G δ 0 0 MX2_either 13 [vr (314), vi l, vi o, vi c] [] (HS h hl b) Q := by
  intro n
  induction n with
  | zero => intro m c j C Mm D h hlt; exact absurd hlt (Nat.not_lt_zero _)
  | succ n ih =>
    intro m c j C Mm D h hlt hm m3 E hj j0 j1' hC cl hQ
    have tn := t.2.1
    have l0 : ((CC ++ C).length : Int) = CC.length + C.length := lenA
    refine il_3 dX2_either_13 ?_
    refine si_300 dX2_either_14 ?_
    refine wp_icmp_ge 64 dX2_either_17 rfl (fun c17 => ?_) (fun c17 => ?_)
    · have m0 : m = 0 := by omega
      subst m0
      refine ic_1 dX2_either_64 ?_
      refine wp_iretz dX2_either_65 rfl (by omega) ?_
      first
        | exact hQ h E hj hC
        | (unfold lpP at hQ
           rw [if_neg (by omega)] at hQ
           exact hQ h E hj hC)
    · obtain ⟨m', rfl⟩ : ∃ m', m = m' + 1 := ⟨m - 1, by omega⟩
      obtain ⟨hK, -, -⟩ := (Bb.c E).2 j j0 (by omega)
      refine al_0 dX2_either_20 ?_
      refine g_X2_26 (320) dX2_either_21 rfl tt314 (rr2_6 tt314) (by omega) ?_
      refine al_0 dX2_either_24 ?_
      refine g_X2_51 dX2_either_25 rfl tt314 ?_
      rw [hj]
      refine wp_iaload dX2_either_28 tt320 (by omega) (by omega) ?_
      rw [hK]
      refine bi_26 dX2_either_29 ?_
      refine wp_icmp_ne 64 dX2_either_31 rfl (fun c31 => ?_) (fun c31 => ?_)
      · refine ic_1 dX2_either_64 ?_
        refine wp_iretz dX2_either_65 rfl (by omega) ?_
        first
          | exact hQ h E hj hC
          | (unfold lpP at hQ
             rw [if_neg (by omega)] at hQ
             exact hQ h E hj hC)
      · refine al_0 dX2_either_34 ?_
        refine c_X2_116 dX2_either_35 rfl tt314 (Nat.le_of_ble_eq_true rfl) (by omega) ?_
        have q : 26 ≤ K j ∧ K j ≤ 26 := by omega
        unfold lpP at hQ
        rw [if_pos q] at hQ
        have j2 := tk_lt t j1' (by omega)
        have Ea : ClE h0 (up h 314 10 (j + 1)) := E.u4 rfl
        refine wX2_pass (by omega) (Bb.c E) hj j0 j1' t (by omega) ?_
        refine pv_n ?_
        refine al_0 dX2_either_38 ?_
        refine il_1 dX2_either_39 ?_
        refine il_2 dX2_either_40 ?_
        refine c_X2_190 dX2_either_41 rfl tt314 (Nat.le_of_ble_eq_true rfl) (by omega) ?_
        refine hpr _ _ _ (j + 1) (CC ++ C) (by omega) (Bb.c Ea) up_s (by omega) j2 hC.at (by omega) ?_
        rw [l0]
        have g1 := gp (j + 1) (CC.length + C.length) (by omega) j2
        cases hr1 : pr (j + 1) (CC.length + C.length) with
        | inl e =>
          intro h1 E1 f1 p1
          refine pv_i ?_
          rw [hr1] at hQ
          refine wp_if_ne 49 dX2_either_44 rfl (fun c => absurd rfl c) (fun _ => ?_)
          refine ic_0 dX2_either_47 ?_
          refine wp_iretz dX2_either_48 rfl (by omega) ?_
          exact hQ h1 (Ea.f.tr E1) f1 p1
        | inr x =>
          obtain ⟨j1, C1, M1, D1⟩ := x
          intro h1 E1 a1 d1
          refine pv_i ?_
          rw [hr1] at hQ g1
          obtain ⟨r11, r12, r13, r14⟩ := g1
          dsimp only [thn] at hQ
          refine wp_if_ne 49 dX2_either_44 rfl (fun _ => ?_) (fun c => absurd c (by decide))
          have l1 : ((CC ++ C ++ C1).length : Int) = CC.length + C.length + C1.length := by rw [lenA, l0]
          refine al_0 dX2_either_49 ?_
          refine g_X2_22 (316) dX2_either_50 rfl tt314 (rr2_5 tt314) (by omega) ?_
          refine bi_26 dX2_either_53 ?_
          refine c_X2_160 dX2_either_55 rfl tt316 (Nat.le_of_ble_eq_true rfl) (by omega) ?_
          refine wX3_emitC (by omega) d1 (by omega) (fun h2' E2' d2' => ?_)
          refine pv_n ?_
          refine ii_3 dX2_either_58 rfl (by decide) ⟨by decide, by decide⟩ (r32 (by omega) (by omega)) ?_
          refine wp_goto 13 dX2_either_61 rfl ?_
          refine ih m' (c + 1) j1 (C ++ (C1 ++ [K j])) _ _ h2' (by omega) (by omega) (by omega) ((Ea.tr E1).tr E2'.cl) (by rw [E2'.j]; exact a1) (by omega) r12 (by rw [← List.append_assoc, ← List.append_assoc]; first | exact d2' | (rw [show K j = 26 by omega]; exact d2')) ?_ hQ
          rw [lenA, lenA, lenA]
          show (CC.length : Int) + (C.length + (C1.length + 1)) ≤ 2 * j1
          omega

theorem imp_either {G : GT} {hl : Nat → Int → Int} {b : Bool × Bool} {K Vf Pf : Int → Int} {n l s : Int} (t : TkE K n) (hls : l = 10 + s) {o : Int} {D Dd : Nat} {pr : PF} (hD : D + 1 ≤ Dd) (hD2 : D ≤ 1500) (gp : PG n pr) (hpr : ImpF G hl b K Vf Pf n (Dd) MX2_both [vr 314, vi l, vi (o), vn] (pr)) : ImpF G hl b K Vf Pf n (D) MX2_either [vr 314, vi l, vi (o), vn] (seqP K 26 26 (-4) pr) := by
  intro δ h Q i CC hδ Bb hj i0 i1 hC cl hQ
  obtain ⟨hK, hV, hP⟩ := Bb.2 i i0 (by omega)
  have tn := t.2.1
  unfold seqP at hQ
  refine al_0 dX2_either_0 ?_
  refine il_1 dX2_either_1 ?_
  refine il_2 dX2_either_2 ?_
  refine c_X2_190 dX2_either_3 rfl tt314 (Nat.le_of_ble_eq_true rfl) (by omega) ?_
  refine hpr _ _ _ (i) (CC) (by omega) Bb hj (by omega) i1 hC (by omega) ?_
  have g1 := gp (i) (CC.length) (by omega) i1
  cases hr1 : pr (i) (CC.length) with
  | inl e =>
    intro h1 E1 f1 p1
    refine pv_i ?_
    rw [hr1] at hQ
    refine wp_if_ne 11 dX2_either_6 rfl (fun c => absurd rfl c) (fun _ => ?_)
    refine ic_0 dX2_either_9 ?_
    refine wp_iretz dX2_either_10 rfl (by omega) ?_
    exact hQ h1 E1 f1 p1
  | inr x =>
    obtain ⟨j1, C1, M1, D1⟩ := x
    intro h1 E1 a1 d1
    refine pv_i ?_
    rw [hr1] at hQ g1
    obtain ⟨r11, r12, r13, r14⟩ := g1
    dsimp only [thn] at hQ
    refine wp_if_ne 11 dX2_either_6 rfl (fun _ => ?_) (fun c => absurd c (by decide))
    refine ic_0 dX2_either_11 ?_
    refine is_3 dX2_either_12 rfl (by decide) ?_
    exact wX2_either_L (h0 := h) (Dd := Dd) (by omega) (by omega) t Bb gp hpr _ 300 0 j1 C1 M1 D1 h1 (Nat.lt_succ_self _) (by omega) (by omega) E1 a1 (by omega) r12 d1 (by rw [lenA]; omega) hQ

theorem imp_ask {G : GT} {hl : Nat → Int → Int} {b : Bool × Bool} {K Vf Pf : Int → Int} {n l s : Int} (t : TkE K n) (hls : l = 10 + s) {o : Int} {D : Nat} {sm : PF} {de : Option PF} (hD : D ≤ 1500) (o0 : 0 ≤ o) (o9 : o ≤ 8) (gsm : PG n sm) (hsm : ImpF G hl b K Vf Pf n (D + 1) MX2_sum [vr 314, vi l, vi (o), vn, vn] (sm)) (hd : Unit → (de = none ∧ o = 8) ∨ (o < 8 ∧ ∃ ak : PF, de = some ak ∧ ImpF G hl b K Vf Pf n (D + 1) MX2_ask [vr 314, vi l, vi (o + 1), vn] (ak) ∧ PG n ak)) : ImpF G hl b K Vf Pf n (D) MX2_ask [vr 314, vi l, vi (o), vn] (askP K sm de) := by
  intro δ h Q i CC hδ Bb hj i0 i1 hC cl hQ
  obtain ⟨hK, hV, hP⟩ := Bb.2 i i0 (by omega)
  have tn := t.2.1
  unfold askP at hQ
  refine al_0 dX2_ask_0 ?_
  refine g_X2_26 (320) dX2_ask_1 rfl tt314 (rr2_6 tt314) (by omega) ?_
  refine al_0 dX2_ask_4 ?_
  refine g_X2_51 dX2_ask_5 rfl tt314 ?_
  rw [hj]
  refine wp_iaload dX2_ask_8 tt320 (by omega) (by omega) ?_
  rw [hK]
  refine bi_28 dX2_ask_9 ?_
  refine wp_icmp_ne 56 dX2_ask_11 rfl (fun c11 => ?_) (fun c11 => ?_)
  · refine al_0 dX2_ask_56 ?_
    refine il_1 dX2_ask_57 ?_
    refine il_2 dX2_ask_58 ?_
    rw [if_neg (by omega)] at hQ
    refine c_X2_157 dX2_ask_59 rfl tt314 (Nat.le_of_ble_eq_true rfl) (by omega) ?_
    refine hsm _ _ _ (i) (CC) (by omega) Bb hj (by omega) i1 hC (by omega) ?_
    have g1 := gsm (i) (CC.length) (by omega) i1
    cases hr1 : sm (i) (CC.length) with
    | inl e =>
      intro h1 E1 f1 p1
      refine pv_i ?_
      rw [hr1] at hQ
      refine wp_if_ne 67 dX2_ask_62 rfl (fun c => absurd rfl c) (fun _ => ?_)
      refine ic_0 dX2_ask_65 ?_
      refine wp_iretz dX2_ask_66 rfl (by omega) ?_
      exact hQ h1 E1 f1 p1
    | inr x =>
      obtain ⟨j1, C1, M1, D1⟩ := x
      intro h1 E1 a1 d1
      refine pv_i ?_
      rw [hr1] at hQ g1
      obtain ⟨r11, r12, r13, r14⟩ := g1
      dsimp only [thn] at hQ
      refine wp_if_ne 67 dX2_ask_62 rfl (fun _ => ?_) (fun c => absurd c (by decide))
      have l1 : ((CC ++ C1).length : Int) = CC.length + C1.length := lenA
      obtain ⟨hK1, -, -⟩ := (Bb.c E1).2 j1 (by omega) (by omega)
      refine al_0 dX2_ask_67 ?_
      refine g_X2_26 (320) dX2_ask_68 rfl tt314 (rr2_6 tt314) (by omega) ?_
      refine al_0 dX2_ask_71 ?_
      refine g_X2_51 dX2_ask_72 rfl tt314 ?_
      rw [a1]
      refine wp_iaload dX2_ask_75 tt320 (by omega) (by omega) ?_
      rw [hK1]
      refine is_3 dX2_ask_76 rfl (by decide) ?_
      refine il_3 dX2_ask_77 ?_
      refine bi_41 dX2_ask_78 ?_
      refine wp_icmp_lt 89 dX2_ask_80 rfl (fun c80 => ?_) (fun c80 => ?_)
      · refine al_0 dX2_ask_89 ?_
        refine ic_1 dX2_ask_90 ?_
        refine c_X2_113 dX2_ask_91 rfl tt314 (Nat.le_of_ble_eq_true rfl) (by omega) ?_
        refine wX2_fail (by omega) (Bb.c E1) a1 (by omega) r12 t ?_
        refine pv_i ?_
        refine wp_iretz dX2_ask_94 rfl (by omega) ?_
        rw [if_neg (by omega)] at hQ
        exact hQ _ ((E1).f.tr ((ClF.rf.u4 (Or.inl rfl)).u4 (Or.inr (Or.inl rfl)))) (by rw [up_k (by decide), up_s]) up_s
      · refine il_3 dX2_ask_83 ?_
        refine bi_46 dX2_ask_84 ?_
        refine wp_icmp_le 95 dX2_ask_86 rfl (fun c86 => ?_) (fun c86 => ?_)
        · refine al_0 dX2_ask_95 ?_
          refine c_X2_116 dX2_ask_96 rfl tt314 (Nat.le_of_ble_eq_true rfl) (by omega) ?_
          rw [if_pos (by omega)] at hQ
          have j2 := tk_lt t r12 (by omega)
          refine wX2_pass (by omega) (Bb.c E1) a1 (by omega) r12 t (by omega) ?_
          refine pv_n ?_
          refine al_0 dX2_ask_99 ?_
          refine il_1 dX2_ask_100 ?_
          refine il_2 dX2_ask_101 ?_
          refine c_X2_157 dX2_ask_102 rfl tt314 (Nat.le_of_ble_eq_true rfl) (by omega) ?_
          refine hsm _ _ _ (j1 + 1) (CC ++ C1) (by omega) (Bb.c (E1.u4 rfl)) up_s (by omega) j2 d1.at (by omega) ?_
          rw [l1]
          have g2 := gsm (j1 + 1) (CC.length + C1.length) (by omega) j2
          cases hr2 : sm (j1 + 1) (CC.length + C1.length) with
          | inl e =>
            intro h2 E2 f2 p2
            refine pv_i ?_
            rw [hr2] at hQ
            refine wp_if_eq 120 dX2_ask_105 rfl (fun _ => ?_) (fun c => absurd rfl c)
            refine ic_0 dX2_ask_120 ?_
            refine wp_iretz dX2_ask_121 rfl (by omega) ?_
            exact hQ h2 ((E1.u4 rfl).f.tr E2) f2 p2
          | inr x =>
            obtain ⟨j2, C2, M2, D2⟩ := x
            intro h2 E2 a2 d2
            refine pv_i ?_
            rw [hr2] at hQ g2
            obtain ⟨r21, r22, r23, r24⟩ := g2
            dsimp only [thn] at hQ
            refine wp_if_eq 120 dX2_ask_105 rfl (fun c => absurd c (by decide)) (fun _ => ?_)
            have l2 : ((CC ++ C1 ++ C2).length : Int) = CC.length + C1.length + C2.length := by rw [lenA, l1]
            refine al_0 dX2_ask_108 ?_
            refine il_3 dX2_ask_109 ?_
            refine c_X2_175 dX2_ask_110 rfl tt314 (Nat.le_of_ble_eq_true rfl) (by omega) ?_
            refine wX2_emitted (by omega) d2 (by omega) (fun h9 E9 d9 => ?_)
            refine pv_i ?_
            refine wp_if_eq 120 dX2_ask_113 rfl (fun c => absurd c (by decide)) (fun _ => ?_)
            refine ic_1 dX2_ask_116 ?_
            refine wp_goto 121 dX2_ask_117 rfl ?_
            refine wp_iretz dX2_ask_121 rfl (by omega) ?_
            refine hQ _ (((E1.u4 rfl).tr E2).tr E9.cl) (by rw [E9.j]; exact a2) ?_
            rw [List.append_assoc, List.append_assoc] at d9
            exact d9
        · refine al_0 dX2_ask_89 ?_
          refine ic_1 dX2_ask_90 ?_
          refine c_X2_113 dX2_ask_91 rfl tt314 (Nat.le_of_ble_eq_true rfl) (by omega) ?_
          refine wX2_fail (by omega) (Bb.c E1) a1 (by omega) r12 t ?_
          refine pv_i ?_
          refine wp_iretz dX2_ask_94 rfl (by omega) ?_
          rw [if_neg (by omega)] at hQ
          exact hQ _ ((E1).f.tr ((ClF.rf.u4 (Or.inl rfl)).u4 (Or.inr (Or.inl rfl)))) (by rw [up_k (by decide), up_s]) up_s
  · refine il_2 dX2_ask_14 ?_
    refine bi_8 dX2_ask_15 ?_
    refine wp_icmp_lt 26 dX2_ask_17 rfl (fun c17 => ?_) (fun c17 => ?_)
    · refine al_0 dX2_ask_26 ?_
      refine c_X2_116 dX2_ask_27 rfl tt314 (Nat.le_of_ble_eq_true rfl) (by omega) ?_
      rw [if_pos (by omega)] at hQ
      obtain ⟨o8, ak, rfl, H1, G1⟩ := (hd ()).resolve_left (fun z => by have z2 := z.2; omega)
      have hQ : CQr Pf CC h hl b Q (thn (ak (i + 1) CC.length) (fun j C M D => .inr (j, C ++ [28], M ++ [(20, 0)], fun nm lit => one 28 (D nm lit) lit))) := hQ
      have Ea := (ClE.rf.u4 rfl : ClE h (up h 314 10 (i + 1)))
      have i2 := tk_lt t i1 (by omega)
      refine wX2_pass (by omega) Bb hj i0 i1 t (by omega) ?_
      refine pv_n ?_
      refine al_0 dX2_ask_30 ?_
      refine il_1 dX2_ask_31 ?_
      refine il_2 dX2_ask_32 ?_
      refine ic_1 dX2_ask_33 ?_
      refine wp_iadd dX2_ask_34 (r32 (by omega) (by omega)) ?_
      refine c_X2_193 dX2_ask_35 rfl tt314 (Nat.le_of_ble_eq_true rfl) (by omega) ?_
      refine H1 _ _ _ (i + 1) (CC) (by omega) (Bb.c Ea) up_s (by omega) i2 hC.at (by omega) ?_
      have g1 := G1 (i + 1) (CC.length) (by omega) i2
      cases hr1 : ak (i + 1) (CC.length) with
      | inl e =>
        intro h1 E1 f1 p1
        refine pv_i ?_
        rw [hr1] at hQ
        refine wp_if_eq 54 dX2_ask_38 rfl (fun _ => ?_) (fun c => absurd rfl c)
        refine ic_0 dX2_ask_54 ?_
        refine wp_iretz dX2_ask_55 rfl (by omega) ?_
        exact hQ h1 (Ea.f.tr E1) f1 p1
      | inr x =>
        obtain ⟨j1, C1, M1, D1⟩ := x
        intro h1 E1 a1 d1
        refine pv_i ?_
        rw [hr1] at hQ g1
        obtain ⟨r11, r12, r13, r14⟩ := g1
        dsimp only [thn] at hQ
        refine wp_if_eq 54 dX2_ask_38 rfl (fun c => absurd c (by decide)) (fun _ => ?_)
        have l1 : ((CC ++ C1).length : Int) = CC.length + C1.length := lenA
        refine al_0 dX2_ask_41 ?_
        refine bi_28 dX2_ask_42 ?_
        refine c_X2_175 dX2_ask_44 rfl tt314 (Nat.le_of_ble_eq_true rfl) (by omega) ?_
        refine wX2_emitted (by omega) d1 (by omega) (fun h9 E9 d9 => ?_)
        refine pv_i ?_
        refine wp_if_eq 54 dX2_ask_47 rfl (fun c => absurd c (by decide)) (fun _ => ?_)
        refine ic_1 dX2_ask_50 ?_
        refine wp_goto 55 dX2_ask_51 rfl ?_
        refine wp_iretz dX2_ask_55 rfl (by omega) ?_
        refine hQ _ ((Ea.tr E1).tr E9.cl) (by rw [E9.j]; exact a1) ?_
        rw [List.append_assoc] at d9
        exact d9
    · refine al_0 dX2_ask_20 ?_
      refine ic_3 dX2_ask_21 ?_
      refine c_X2_113 dX2_ask_22 rfl tt314 (Nat.le_of_ble_eq_true rfl) (by omega) ?_
      rw [if_pos (by omega)] at hQ
      obtain ⟨rfl, o8⟩ : de = none ∧ o = 8 := by
        rcases hd () with z | z
        · exact z
        · have z1 := z.1
          omega
      refine wX2_fail (by omega) Bb hj i0 i1 t ?_
      refine pv_i ?_
      refine wp_iretz dX2_ask_25 rfl (by omega) ?_
      exact hQ _ ((ClF.rf.u4 (Or.inl rfl)).u4 (Or.inr (Or.inl rfl))) (by rw [up_k (by decide), up_s]) up_s

theorem imp_choice {G : GT} {hl : Nat → Int → Int} {b : Bool × Bool} {K Vf Pf : Int → Int} {n l s : Int} (t : TkE K n) (hls : l = 10 + s) {o : Int} {D Dd De : Nat} {ei sm : PF} (hD : D + 1 ≤ Dd) (hD3 : D + 1 ≤ De) (hD2 : D ≤ 1500) (gei : PG n ei) (gsm : PG n sm) (hei : ImpF G hl b K Vf Pf n (De) MX2_either [vr 314, vi l, vi (o), vn] (ei)) (hsm : ImpF G hl b K Vf Pf n (Dd) MX2_sum [vr 314, vi l, vi (o), vn, vn] (sm)) : ImpF G hl b K Vf Pf n (D) MX2_choice [vr 314, vi l, vi (o), vn, vn] (choP K ei sm) := by
  intro δ h Q i CC hδ Bb hj i0 i1 hC cl hQ
  obtain ⟨hK, hV, hP⟩ := Bb.2 i i0 (by omega)
  have tn := t.2.1
  unfold choP at hQ
  refine al_0 dX2_choice_0 ?_
  refine il_1 dX2_choice_1 ?_
  refine il_2 dX2_choice_2 ?_
  refine c_X2_181 dX2_choice_3 rfl tt314 (Nat.le_of_ble_eq_true rfl) (by omega) ?_
  refine hei _ _ _ (i) (CC) (by omega) Bb hj (by omega) i1 hC (by omega) ?_
  have g1 := gei (i) (CC.length) (by omega) i1
  cases hr1 : ei (i) (CC.length) with
  | inl e =>
    intro h1 E1 f1 p1
    refine pv_i ?_
    rw [hr1] at hQ
    refine wp_if_eq 18 dX2_choice_6 rfl (fun _ => ?_) (fun c => absurd rfl c)
    refine ic_0 dX2_choice_18 ?_
    refine wp_iretz dX2_choice_19 rfl (by omega) ?_
    exact hQ h1 E1 f1 p1
  | inr x =>
    obtain ⟨j1, C1, M1, D1⟩ := x
    intro h1 E1 a1 d1
    refine pv_i ?_
    rw [hr1] at hQ g1
    obtain ⟨r11, r12, r13, r14⟩ := g1
    dsimp only [thn] at hQ
    refine wp_if_eq 18 dX2_choice_6 rfl (fun c => absurd c (by decide)) (fun _ => ?_)
    have l1 : ((CC ++ C1).length : Int) = CC.length + C1.length := lenA
    refine al_0 dX2_choice_9 ?_
    refine bi_23 dX2_choice_10 ?_
    refine c_X2_141 dX2_choice_12 rfl tt314 (Nat.le_of_ble_eq_true rfl) (by omega) ?_
    refine wX2_expect (k := 23) (by omega) (Bb.c E1) a1 (by omega) r12 t (by omega) (fun q => ?_) (fun q => ?_)
    · refine pv_i ?_
      refine wp_if_ne 20 dX2_choice_15 rfl (fun _ => ?_) (fun c => absurd c (by decide))
      rw [if_pos q] at hQ
      have j2' := tk_lt t r12 (by omega)
      refine al_0 dX2_choice_20 ?_
      refine bi_62 dX2_choice_21 ?_
      refine c_X2_184 dX2_choice_23 rfl tt314 (Nat.le_of_ble_eq_true rfl) (by omega) ?_
      refine wX2_emitJump (x := 62) (by omega) d1.at (by omega) (fun h7 E7 d7 => ?_)
      refine pv_i ?_
      have l7' : ((CC ++ C1 ++ [62, (0 : Int)]).length : Int) = CC.length + C1.length + 2 := by rw [lenA, l1]; rfl
      refine is_3 dX2_choice_26 rfl (by decide) ?_
      refine al_0 dX2_choice_27 ?_
      refine il_1 dX2_choice_28 ?_
      refine il_2 dX2_choice_29 ?_
      refine c_X2_157 dX2_choice_30 rfl tt314 (Nat.le_of_ble_eq_true rfl) (by omega) ?_
      refine hsm _ _ _ (j1 + 1) (CC ++ C1 ++ [62, 0]) (by omega) (Bb.c ((E1.u4 rfl).tr E7.cl)) (by rw [E7.j, up_s]) (by omega) j2' d7 (by omega) ?_
      rw [l7']
      have g2 := gsm (j1 + 1) (CC.length + C1.length + 2) (by omega) j2'
      cases hr2 : sm (j1 + 1) (CC.length + C1.length + 2) with
      | inl e =>
        intro h2 E2 f2 p2
        refine pv_i ?_
        rw [hr2] at hQ
        refine wp_if_eq 45 dX2_choice_33 rfl (fun _ => ?_) (fun c => absurd rfl c)
        refine ic_0 dX2_choice_45 ?_
        refine wp_iretz dX2_choice_46 rfl (by omega) ?_
        exact hQ h2 (((E1.u4 rfl).tr E7.cl).f.tr E2) f2 p2
      | inr x =>
        obtain ⟨j2, C2, M2, D2⟩ := x
        intro h2 E2 a2 d2
        refine pv_i ?_
        rw [hr2] at hQ g2
        obtain ⟨r21, r22, r23, r24⟩ := g2
        dsimp only [thn] at hQ
        refine wp_if_eq 45 dX2_choice_33 rfl (fun c => absurd c (by decide)) (fun _ => ?_)
        have l2 : ((CC ++ C1 ++ [62, (0 : Int)] ++ C2).length : Int) = CC.length + C1.length + 2 + C2.length := by rw [lenA, l7']
        refine al_0 dX2_choice_36 ?_
        refine bi_24 dX2_choice_37 ?_
        refine c_X2_141 dX2_choice_39 rfl tt314 (Nat.le_of_ble_eq_true rfl) (by omega) ?_
        refine wX2_expect (k := 24) (by omega) (Bb.c (((E1.u4 rfl).tr E7.cl).tr E2)) a2 (by omega) r22 t (by omega) (fun q => ?_) (fun q => ?_)
        · refine pv_i ?_
          refine wp_if_ne 47 dX2_choice_42 rfl (fun _ => ?_) (fun c => absurd c (by decide))
          rw [if_pos q] at hQ
          have j3' := tk_lt t r22 (by omega)
          refine al_0 dX2_choice_47 ?_
          refine bi_61 dX2_choice_48 ?_
          refine c_X2_184 dX2_choice_50 rfl tt314 (Nat.le_of_ble_eq_true rfl) (by omega) ?_
          refine wX2_emitJump (x := 61) (by omega) d2.at (by omega) (fun h8 E8 d8 => ?_)
          refine pv_i ?_
          have l8 : ((CC ++ C1 ++ [62, (0 : Int)] ++ C2 ++ [61, 0]).length : Int) = CC.length + C1.length + 2 + C2.length + 2 := by rw [lenA, l2]; rfl
          have l9 : ((CC ++ C1 ++ [(62 : Int)]).length : Int) = CC.length + C1.length + 1 := by rw [lenA, l1]; rfl
          refine is_4 dX2_choice_53 rfl (by decide) ?_
          refine al_0 dX2_choice_55 ?_
          refine g_X2_22 (316) dX2_choice_56 rfl tt314 (rr2_5 tt314) (by omega) ?_
          refine il_3 dX2_choice_59 ?_
          refine c_X2_187 dX2_choice_60 rfl tt316 (Nat.le_of_ble_eq_true rfl) (by omega) ?_
          have d8' : Cd h8 ((CC ++ C1 ++ [62]) ++ 0 :: (C2 ++ [61, 0])) := by
            have z := d8
            simp only [List.append_assoc, List.cons_append, List.nil_append] at z ⊢
            exact z
          have l6 : ((CC ++ C1 ++ [62] ++ (CC.length + C1.length + 2 + C2.length + 2 : Int) :: (C2 ++ [61, 0])).length : Int) = CC.length + C1.length + 2 + C2.length + 2 := by
            rw [lenA, l9, List.length_cons, List.length_append]; simp only [List.length_cons, List.length_nil]; omega
          have l7 : ((CC ++ C1 ++ [62] ++ (0 : Int) :: (C2 ++ [61, 0])).length : Int) = CC.length + C1.length + 2 + C2.length + 2 := by
            rw [lenA, l9, List.length_cons, List.length_append]; simp only [List.length_cons, List.length_nil]; omega
          refine wX3_landC (by omega) d8' (by omega) (by omega) (fun h6 E6 d6 => ?_)
          rw [l7] at d6
          refine pv_n ?_
          refine al_0 dX2_choice_63 ?_
          refine il_1 dX2_choice_64 ?_
          refine il_2 dX2_choice_65 ?_
          refine c_X2_157 dX2_choice_66 rfl tt314 (Nat.le_of_ble_eq_true rfl) (by omega) ?_
          refine hsm _ _ _ (j2 + 1) (CC ++ C1 ++ [62] ++ (CC.length + C1.length + 2 + C2.length + 2 : Int) :: (C2 ++ [61, 0])) (by omega) (Bb.c ((((((E1.u4 rfl).tr E7.cl).tr E2).u4 rfl).tr E8.cl).tr E6.cl)) (by rw [E6.j, E8.j, up_s]) (by omega) j3' d6 (by omega) ?_
          rw [l6]
          have g3 := gsm (j2 + 1) (CC.length + C1.length + 2 + C2.length + 2) (by omega) j3'
          cases hr3 : sm (j2 + 1) (CC.length + C1.length + 2 + C2.length + 2) with
          | inl e =>
            intro h3 E3 f3 p3
            refine pv_i ?_
            rw [hr3] at hQ
            refine wp_if_eq 81 dX2_choice_69 rfl (fun _ => ?_) (fun c => absurd rfl c)
            refine ic_0 dX2_choice_81 ?_
            refine wp_iretz dX2_choice_82 rfl (by omega) ?_
            exact hQ h3 (((((((E1.u4 rfl).tr E7.cl).tr E2).u4 rfl).tr E8.cl).tr E6.cl).f.tr E3) f3 p3
          | inr x =>
            obtain ⟨j3, C3, M3, D3⟩ := x
            intro h3 E3 a3 d3
            refine pv_i ?_
            rw [hr3] at hQ g3
            obtain ⟨r31, r32, r33, r34⟩ := g3
            dsimp only [thn] at hQ
            refine wp_if_eq 81 dX2_choice_69 rfl (fun c => absurd c (by decide)) (fun _ => ?_)
            refine al_0 dX2_choice_72 ?_
            refine bi_25 dX2_choice_73 ?_
            refine c_X2_141 dX2_choice_75 rfl tt314 (Nat.le_of_ble_eq_true rfl) (by omega) ?_
            refine wX2_expect (k := 25) (by omega) (Bb.c (((((((E1.u4 rfl).tr E7.cl).tr E2).u4 rfl).tr E8.cl).tr E6.cl).tr E3)) a3 (by omega) r32 t (by omega) (fun q => ?_) (fun q => ?_)
            · refine pv_i ?_
              refine wp_if_ne 83 dX2_choice_78 rfl (fun _ => ?_) (fun c => absurd c (by decide))
              refine al_0 dX2_choice_83 ?_
              refine g_X2_22 (316) dX2_choice_84 rfl tt314 (rr2_5 tt314) (by omega) ?_
              refine il_4 dX2_choice_87 ?_
              refine c_X2_187 dX2_choice_89 rfl tt316 (Nat.le_of_ble_eq_true rfl) (by omega) ?_
              have d4 : Cd (up h3 314 10 (j3 + 1)) ((CC ++ C1 ++ [62, (CC.length + C1.length + 2 + C2.length + 2 : Int)] ++ C2 ++ [61]) ++ 0 :: C3) := by
                have z := d3.at (x := j3 + 1)
                simp only [List.append_assoc, List.cons_append, List.nil_append] at z ⊢
                exact z
              have l4 : ((CC ++ C1 ++ [62, (CC.length + C1.length + 2 + C2.length + 2 : Int)] ++ C2 ++ [61]).length : Int) = CC.length + C1.length + 2 + C2.length + 1 := by
                rw [lenA, lenA, lenA, lenA]; simp only [List.length_cons, List.length_nil]; omega
              have l5 : (((CC ++ C1 ++ [62, (CC.length + C1.length + 2 + C2.length + 2 : Int)] ++ C2 ++ [61]) ++ 0 :: C3).length : Int) = CC.length + C1.length + 2 + C2.length + 2 + C3.length := by
                rw [lenA, l4, List.length_cons]; omega
              refine wX3_landC (by omega) d4 (by omega) (by omega) (fun h5 E5 d5 => ?_)
              refine pv_n ?_
              refine ic_1 dX2_choice_92 ?_
              refine wp_iretz dX2_choice_93 rfl (by omega) ?_
              rw [if_pos q] at hQ
              refine hQ h5 (((((((((E1.u4 rfl).tr E7.cl).tr E2).u4 rfl).tr E8.cl).tr E6.cl).tr E3).u4 rfl).tr E5.cl) (by rw [E5.j, up_s]) ?_
              have z := d5
              rw [l5] at z
              simp only [List.append_assoc, List.cons_append, List.nil_append] at z ⊢
              exact z
            · refine pv_i ?_
              refine wp_if_ne 83 dX2_choice_78 rfl (fun c => absurd rfl c) (fun _ => ?_)
              refine ic_0 dX2_choice_81 ?_
              refine wp_iretz dX2_choice_82 rfl (by omega) ?_
              rw [if_neg q] at hQ
              exact hQ _ ((((((((E1.u4 rfl).tr E7.cl).tr E2).u4 rfl).tr E8.cl).tr E6.cl).tr E3).f.tr ((ClF.rf.u4 (Or.inl rfl)).u4 (Or.inr (Or.inl rfl)))) (by rw [up_k (by decide), up_s]) up_s
        · refine pv_i ?_
          refine wp_if_ne 47 dX2_choice_42 rfl (fun c => absurd rfl c) (fun _ => ?_)
          refine ic_0 dX2_choice_45 ?_
          refine wp_iretz dX2_choice_46 rfl (by omega) ?_
          rw [if_neg q] at hQ
          exact hQ _ ((((E1.u4 rfl).tr E7.cl).tr E2).f.tr ((ClF.rf.u4 (Or.inl rfl)).u4 (Or.inr (Or.inl rfl)))) (by rw [up_k (by decide), up_s]) up_s
    · refine pv_i ?_
      refine wp_if_ne 20 dX2_choice_15 rfl (fun c => absurd rfl c) (fun _ => ?_)
      refine ic_0 dX2_choice_18 ?_
      refine wp_iretz dX2_choice_19 rfl (by omega) ?_
      rw [if_neg q] at hQ
      exact hQ _ ((E1).f.tr ((ClF.rf.u4 (Or.inl rfl)).u4 (Or.inr (Or.inl rfl)))) (by rw [up_k (by decide), up_s]) up_s
