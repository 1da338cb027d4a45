theorem wX9_copy_2 {G : GT} {δ : Nat} {hl : Nat → Int → Int} {b : Bool × Bool} {Q : V → Hp → Prop} {h0 : Nat → Int → Int} {o q : Nat} (hδ : δ ≤ 1700) (ho : o = 337 ∧ q = 338 ∨ o = 338 ∧ q = 337)  : ∀ (n : Nat) (i : Int) (h : Nat → Int → Int), ((1278 - i).toNat) < n → (eqX [q] h0 h) → (0 ≤ i) → (i ≤ 1278) → (∀ k : Int, 0 ≤ k → k < i → h q k = h0 o k) → (∀ h' : Nat → Int → Int, eqX [q] h0 h' → eqR (h0 o) (h' q) → Q vn (HS h' hl b)) → WP G δ 0 0 MX9_copy 2 [vr (o), vr (q), vi i] [] (HS h hl b) Q := by
  intro n
  induction n with
  | zero => intro i h hlt; exact absurd hlt (Nat.not_lt_zero _)
  | succ n ih =>
    intro i h hlt E i0 i1 A hQ
    have to : ty TT o = some (.inr (0, 1278)) := by rcases ho with ⟨e, _⟩ | ⟨e, _⟩ <;> rw [e]; exact tt337; exact tt338
    have tq : ty TT q = some (.inr (0, 1278)) := by rcases ho with ⟨_, e⟩ | ⟨_, e⟩ <;> rw [e]; exact tt338; exact tt337
    have ne : o ≠ q := by omega
    refine il_2 dX9_copy_2 ?_
    refine si_1278 dX9_copy_3 ?_
    refine wp_icmp_ge 21 dX9_copy_6 rfl (fun c6 => ?_) (fun c6 => ?_)
    · have e : i = 1278 := by omega
      subst e
      refine wp_vret dX9_copy_21 rfl ?_
      exact hQ h E A
    · refine al_1 dX9_copy_9 ?_
      refine il_2 dX9_copy_10 ?_
      refine al_0 dX9_copy_11 ?_
      refine il_2 dX9_copy_12 ?_
      refine wp_iaload dX9_copy_13 to (by omega) (by omega) ?_
      rw [E o (by simpa using ne)]
      refine wp_iastore dX9_copy_14 tq (by omega) (by omega) ?_
      refine ii_2 dX9_copy_15 rfl (by decide) ⟨by decide, by decide⟩ (r32 (by omega) (by omega)) ?_
      refine wp_goto 2 dX9_copy_18 rfl ?_
      refine ih (i + 1) _ (by omega) (E.up (by simp)) (by omega) (by omega) (fun k k0 k1 => ?_) hQ
      by_cases e : k = i
      · rw [e, up_s]
      · rw [up_k e]; exact A k k0 (by omega)

theorem wX9_copy {G : GT} {δ : Nat} {h hl : Nat → Int → Int} {b : Bool × Bool} {Q : V → Hp → Prop} {o q : Nat}  (hδ : δ ≤ 1700) (ho : o = 337 ∧ q = 338 ∨ o = 338 ∧ q = 337)  (hQ : ∀ h' : Nat → Int → Int, eqX [q] h h' → eqR (h o) (h' q) → Q vn (HS h' hl b)) : WP G δ 0 0 MX9_copy 0 [vr (o), vr (q), vn] [] (HS h hl b) Q := by
  have to : ty TT o = some (.inr (0, 1278)) := by rcases ho with ⟨e, _⟩ | ⟨e, _⟩ <;> rw [e]; exact tt337; exact tt338
  have tq : ty TT q = some (.inr (0, 1278)) := by rcases ho with ⟨_, e⟩ | ⟨_, e⟩ <;> rw [e]; exact tt338; exact tt337
  have ne : o ≠ q := by omega
  refine ic_0 dX9_copy_0 ?_
  refine is_2 dX9_copy_1 rfl (by decide) ?_
  exact wX9_copy_2 (by omega) ho _ 0 h (Nat.lt_succ_self _) eqX.rf (by omega) (by omega) (fun k k0 k1 => by omega) hQ

theorem wX8_image {G : GT} {δ : Nat} {h hl : Nat → Int → Int} {b : Bool × Bool} {Q : V → Hp → Prop} {R : Int → Int} {L : Laws} (hδ : δ ≤ 1640) (C : CT h R L) {T : Int → Int} (cl : ClT h 2 T (R 2)) (hQ : ∀ h' : Nat → Int → Int, (∀ x, x < 158 ∨ 313 < x → h' x = h x) → TPic h' 158 R → LwC h' 158 (R 2) L → ClT h' 158 T (R 2) → Q (vi (R 8)) (HS h' hl b)) : WP G δ 0 0 MX8_image 0 [vr (1)] [] (HS h hl b) Q := by
  obtain ⟨⟨s0, s3, s4, s1, s2, s5⟩, ⟨t0, t1, t5, t6, t7⟩, ⟨g7, g8, g11, g10, g10x⟩⟩ := C.1.f
  have vn' := C.2.1.n
  have vw := C.2.1.w
  refine al_0 dX8_image_0 ?_
  refine g_X8_16 (158) dX8_image_1 rfl tt1 (rr8_1 tt1) (by omega) ?_
  refine al_0 dX8_image_4 ?_
  refine g_X8_12 (2) dX8_image_5 rfl tt1 (rr8_0 tt1) (by omega) ?_
  refine c_X8_339 dX8_image_8 rfl tt158 (Nat.le_of_ble_eq_true rfl) (by omega) ?_
  refine wX7_copyI (by omega) C.1 C.2.1 C.2.2 cl (fun h1 E1 P1 W1 K1 => ?_)
  refine pv_n ?_
  refine al_0 dX8_image_11 ?_
  refine g_X8_12 (2) dX8_image_12 rfl tt1 (rr8_0 tt1) (by omega) ?_
  refine g_X8_112 (3) dX8_image_15 rfl tt2 (rr7_0 tt2) (by omega) ?_
  refine g_X8_115 dX8_image_18 rfl tt3 ?_
  rw [E1 3 (by omega), s3]
  refine wp_ireti dX8_image_21 rfl ?_
  exact hQ h1 E1 P1 W1 K1

theorem wX8_back {G : GT} {δ : Nat} {h hl : Nat → Int → Int} {b : Bool × Bool} {Q : V → Hp → Prop} {R : Int → Int} {L : Laws} {T : Int → Int}  (hδ : δ ≤ 1640) (P : TPic h 158 R) (V : RV R) (lw : LwC h 158 (R 2) L) (cl : ClT h 158 T (R 2)) (hQ : ∀ h' : Nat → Int → Int, (∀ x, x < 2 ∨ 157 < x → h' x = h x) → CT h' R L → ClT h' 2 T (R 2) → Q (vi (R 8)) (HS h' hl b)) : WP G δ 0 0 MX8_back 0 [vr (1)] [] (HS h hl b) Q := by
  refine al_0 dX8_back_0 ?_
  refine g_X8_12 (2) dX8_back_1 rfl tt1 (rr8_0 tt1) (by omega) ?_
  refine al_0 dX8_back_4 ?_
  refine g_X8_16 (158) dX8_back_5 rfl tt1 (rr8_1 tt1) (by omega) ?_
  refine c_X8_339 dX8_back_8 rfl tt2 (Nat.le_of_ble_eq_true rfl) (by omega) ?_
  refine wX7_copyB (by omega) P V lw cl (fun h1 E1 P1 W1 K1 => ?_)
  refine pv_n ?_
  refine al_0 dX8_back_11 ?_
  refine g_X8_12 (2) dX8_back_12 rfl tt1 (rr8_0 tt1) (by omega) ?_
  refine g_X8_112 (3) dX8_back_15 rfl tt2 (rr7_0 tt2) (by omega) ?_
  refine g_X8_115 dX8_back_18 rfl tt3 ?_
  rw [P1.f.1.2.1]
  refine wp_ireti dX8_back_21 rfl ?_
  exact hQ h1 E1 ⟨P1, V, W1⟩ K1

theorem wX9_image {G : GT} {δ : Nat} {h hl : Nat → Int → Int} {b : Bool × Bool} {Q : V → Hp → Prop} {R : Int → Int} {L : Laws} (hδ : δ ≤ 1680) (M : MT h R L)  (hQ : ∀ h' : Nat → Int → Int, eqX [338] h h' → eqR R (h' 338) → Q (vi (R 8)) (HS h' hl b)) : WP G δ 0 0 MX9_image 0 [vr (336)] [] (HS h hl b) Q := by
  have m := M.1
  have V := M.2.1
  have vn' := V.n
  have vw := V.w
  refine al_0 dX9_image_0 ?_
  refine g_X9_7 (337) dX9_image_1 rfl tt336 (rr9_0 tt336) (by omega) ?_
  refine al_0 dX9_image_4 ?_
  refine g_X9_13 (338) dX9_image_5 rfl tt336 (rr9_1 tt336) (by omega) ?_
  refine c_X9_65 dX9_image_8 rfl (Nat.le_of_ble_eq_true rfl) (by omega) ?_
  refine wX9_copy (by omega) (Or.inl ⟨rfl, rfl⟩) (fun h1 E1 A1 => ?_)
  have m1 : h1 337 = R := by rw [E1 337 (by decide), m]
  refine pv_n ?_
  refine al_0 dX9_image_11 ?_
  refine g_X9_7 (337) dX9_image_12 rfl tt336 (rr9_0 tt336) (by omega) ?_
  refine bi_8 dX9_image_15 ?_
  refine wp_iaload dX9_image_17 tt337 (by omega) (by omega) ?_
  first | rw [m2] | rw [m1] | rw [m] | rw [sw_s] | skip
  refine wp_ireti dX9_image_18 rfl ?_
  exact hQ h1 E1 (by rw [m] at A1; exact A1)

theorem wX9_back {G : GT} {δ : Nat} {h hl : Nat → Int → Int} {b : Bool × Bool} {Q : V → Hp → Prop}  (hδ : δ ≤ 1680)  (hQ : ∀ h' : Nat → Int → Int, eqX [337] h h' → eqR (h 338) (h' 337) → Q (vi (h 338 8)) (HS h' hl b)) : WP G δ 0 0 MX9_back 0 [vr (336)] [] (HS h hl b) Q := by
  refine al_0 dX9_back_0 ?_
  refine g_X9_13 (338) dX9_back_1 rfl tt336 (rr9_1 tt336) (by omega) ?_
  refine al_0 dX9_back_4 ?_
  refine g_X9_7 (337) dX9_back_5 rfl tt336 (rr9_0 tt336) (by omega) ?_
  refine c_X9_65 dX9_back_8 rfl (Nat.le_of_ble_eq_true rfl) (by omega) ?_
  refine wX9_copy (by omega) (Or.inr ⟨rfl, rfl⟩) (fun h1 E1 A1 => ?_)
  refine pv_n ?_
  refine al_0 dX9_back_11 ?_
  refine g_X9_7 (337) dX9_back_12 rfl tt336 (rr9_0 tt336) (by omega) ?_
  refine bi_8 dX9_back_15 ?_
  refine wp_iaload dX9_back_17 tt337 (by omega) (by omega) ?_
  rw [A1 8 (by omega) (by omega)]
  refine wp_ireti dX9_back_18 rfl ?_
  exact hQ h1 E1 A1
