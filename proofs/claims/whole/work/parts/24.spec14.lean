def canArg (R : Int → Int) (d p q : Int) : Prop := (0 ≤ d ∧ d < R 1) ∧ (0 ≤ p ∧ p < R 0) ∧ (0 ≤ q ∧ q < R 0) ∧ p ≠ q
def canPr (R : Int → Int) (p x : Int) : Prop := (0 ≤ p ∧ p < R 0) ∧ 0 ≤ R (13 + 2 * p) + x ∧ R (13 + 2 * p) + x ≤ 99
def rPour (R : Int → Int) (p x : Int) : Int → Int := ur R (13 + 2 * p) (R (13 + 2 * p) + x)
def rSnuff (R : Int → Int) (l : Int) : Int → Int := ur R 10 (snuffL (R 10) l)
def among (x n : Int) : Int := if 0 < n then x % n else -1
section HAND
variable {h h' : Nat → Int → Int} {R R' : Int → Int} {L : Laws} {k x p v d l : Int} {w : Bool}
theorem rPour_V (V : SV R 0 8 1253) (c : canPr R p x) : SV (rPour R p x) 0 8 1253 := V.oil c.1.1 (by have := V.now.1; have := c.1; omega) c.2.1 c.2.2
theorem rPour_N (V : SV R 0 8 1253) (c : canPr R p x) : nowEq R (rPour R p x) := nowEq.rf.ur (by have := V.now.1; have := c.1; omega)
theorem rSnuff_V (V : SV R 0 8 1253) (l0 : 0 ≤ l) (l1 : l < 10) : SV (rSnuff R l) 0 8 1253 := by
  have v := V.now
  have s := snuff_R v.2.2.2.1.1 v.2.2.2.1.2 l0 l1
  exact V.lit s.1 s.2
theorem rSnuff_N : nowEq R (rSnuff R l) := nowEq.rf.ur (by omega)
theorem CT.pour (C : CT h R L) (c : canPr R p x) : CT (up h 4 p (R (13 + 2 * p) + x)) (rPour R p x) L :=
  C.nw (rPour_N C.2.1.2.1 c) (C.1.1.oil c.1.1 (by have := C.2.1.n.1; have := c.1; omega)) (eqX.rf.up (by decide)) (rPour_V C.2.1.2.1 c)
theorem CT.snuff (C : CT h R L) (l0 : 0 ≤ l) (l1 : l < 10) : CT (up h 3 1 (snuffL (R 10) l)) (rSnuff R l) L :=
  C.nw rSnuff_N C.1.1.lit (eqX.rf.up (by decide)) (rSnuff_V C.2.1.2.1 l0 l1)
end HAND
def rYear (L : Laws) (w : Bool) (R : Int → Int) : Int → Int :=
  if R 9 % 6 = 0 ∨ R 9 % 6 = 1 then (if (0 ≤ among (R 9 / 6) (R 1) ∧ among (R 9 / 6) (R 1) < R 1) ∧ (0 ≤ among (R 9) (R 0) ∧ among (R 9) (R 0) < R 0) ∧ (0 ≤ among (R 9 / 6) (R 0) ∧ among (R 9 / 6) (R 0) < R 0) ∧ among (R 9) (R 0) ≠ among (R 9 / 6) (R 0) then rArg L w (rDraw R) (among (R 9 / 6) (R 1)) (among (R 9) (R 0)) (among (R 9 / 6) (R 0)) else rDraw R)
  else if R 9 % 6 = 2 then rSnuff (rDraw R) (R 9 / 6 % 10)
  else if R 9 % 6 = 3 then (if (0 ≤ among (R 9) (R 0) ∧ among (R 9) (R 0) < R 0) ∧ 0 ≤ R (13 + 2 * among (R 9) (R 0)) + (1 + R 9 / 6 % 5) ∧ R (13 + 2 * among (R 9) (R 0)) + (1 + R 9 / 6 % 5) ≤ 99 then rPour (rDraw R) (among (R 9) (R 0)) (1 + R 9 / 6 % 5) else rDraw R)
  else if R 8 < 9999 then rPass L w (rDraw R) else rDraw R
theorem rYear_ok {L : Laws} {w : Bool} {R : Int → Int} (V : RV R) : SV (rYear L w R) 0 8 1253 ∧ nowEq R (rYear L w R) := by
  have V1 := rDraw_RV V
  have e : ∀ j : Int, j ≠ 9 → rDraw R j = R j := fun j hj => rDraw_o hj
  unfold rYear
  split
  · split
    · rename_i u
      have z := rArg_ok (L := L) (w := w) V1 (d := among (R 9 / 6) (R 1)) (p := among (R 9) (R 0)) (q := among (R 9 / 6) (R 0)) u.1.1 (by rw [e 1 (by decide)]; exact u.1.2) u.2.1.1 (by rw [e 0 (by decide)]; exact u.2.1.2) u.2.2.1.1 (by rw [e 0 (by decide)]; exact u.2.2.1.2)
      exact ⟨z.1, rDraw_N.tr z.2.1⟩
    · exact ⟨V1.2.1, rDraw_N⟩
  · split
    · exact ⟨rSnuff_V V1.2.1 (by omega) (by omega), rDraw_N.tr rSnuff_N⟩
    · split
      · split
        · rename_i u
          have c : canPr (rDraw R) (among (R 9) (R 0)) (1 + R 9 / 6 % 5) := by
            unfold canPr; rw [e 0 (by decide), e _ (by omega)]; exact u
          exact ⟨rPour_V V1.2.1 c, rDraw_N.tr (rPour_N V1.2.1 c)⟩
        · exact ⟨V1.2.1, rDraw_N⟩
      · split
        · rename_i u
          have z := rPass_ok (L := L) (w := w) V1 (by rw [e 8 (by decide)]; exact u)
          exact ⟨z.1, rDraw_N.tr z.2.1⟩
        · exact ⟨V1.2.1, rDraw_N⟩

theorem wX7_argueByHand {G : GT} {δ : Nat} {h hl : Nat → Int → Int} {b : Bool × Bool} {Q : V → Hp → Prop} {d p q : Int} {R : Int → Int} {L : Laws} (hδ : δ ≤ 1600) (C : CT h R L) (hQ : ¬ canArg R d p q → Q (vi (-1)) (HS h hl b)) (hQ2 : canArg R d p q → ∀ h', eqT h h' → CT h' (rArg L true (rKeep R) d p q) L → Q (vi (loserV L (rKeep R) d p q)) (HS h' hl b)) : WP G δ 0 0 MX7_argueByHand 0 [vr (2), vi d, vi p, vi q] [] (HS h hl b) Q := by
  have f := C.1.f
  have n := C.2.1.n
  have w := C.2.1.w
  obtain ⟨s0, s3, s4, s1, s2, s5, s6, s7, s8⟩ := C.1.1.now
  refine al_0 dX7_argueByHand_0 ?_
  refine il_1 dX7_argueByHand_1 ?_
  refine il_2 dX7_argueByHand_2 ?_
  refine il_3 dX7_argueByHand_3 ?_
  refine c_X7_161 dX7_argueByHand_4 rfl tt2 (Nat.le_of_ble_eq_true rfl) (by omega) ?_
  refine wX7_canArgue (by omega) ?_
  rw [f.2.1.2.1, s0]
  refine pv_i ?_
  refine wp_if_ne 12 dX7_argueByHand_7 rfl (fun c7 => ?_) (fun c7 => ?_)
  · rw [b2i_n0] at c7
    refine al_0 dX7_argueByHand_12 ?_
    refine c_X7_165 dX7_argueByHand_13 rfl tt2 (Nat.le_of_ble_eq_true rfl) (by omega) ?_
    refine wX7_beginStep (by omega) C (fun h1 E1 C1 => ?_)
    have k0 : rKeep R 0 = R 0 := rKeep_o C.2.1 (by decide) (by decide)
    have k1 : rKeep R 1 = R 1 := rKeep_o C.2.1 (by decide) (by decide)
    refine pv_n ?_
    refine al_0 dX7_argueByHand_16 ?_
    refine il_1 dX7_argueByHand_17 ?_
    refine il_2 dX7_argueByHand_18 ?_
    refine il_3 dX7_argueByHand_19 ?_
    refine c_X7_168 dX7_argueByHand_20 rfl tt2 (Nat.le_of_ble_eq_true rfl) (by omega) ?_
    refine wX7_argueOut (by omega) C1 (by omega) (by omega) (by omega) (by omega) (by omega) (by omega) (fun h2 E2 C2 => ?_)
    refine pv_i ?_
    refine wp_ireti dX7_argueByHand_23 rfl ?_
    exact hQ2 c7 h2 (E1.tr E2.T) C2
  · rw [b2i_0] at c7
    refine ic_m1 dX7_argueByHand_10 ?_
    refine wp_ireti dX7_argueByHand_11 rfl ?_
    exact hQ c7

theorem wX7_canPour {G : GT} {δ : Nat} {h hl : Nat → Int → Int} {b : Bool × Bool} {Q : V → Hp → Prop} {p x : Int} {R : Int → Int} {L : Laws} (hδ : δ ≤ 1680) (C : CT h R L) (x0 : -99 ≤ x) (x1 : x ≤ 99) (hQ : Q (vi (b2i ((0 ≤ p ∧ p < R 0) ∧ 0 ≤ R (13 + 2 * p) + x ∧ R (13 + 2 * p) + x ≤ 99))) (HS h hl b)) : WP G δ 0 0 MX7_canPour 0 [vr (2), vi p, vi x] [] (HS h hl b) Q := by
  have f := C.1.f
  have n := C.2.1.n
  have w := C.2.1.w
  obtain ⟨s0, s3, s4, s1, s2, s5, s6, s7, s8⟩ := C.1.1.now
  refine al_0 dX7_canPour_0 ?_
  refine il_1 dX7_canPour_1 ?_
  refine c_X7_83 dX7_canPour_2 rfl tt2 (Nat.le_of_ble_eq_true rfl) (by omega) ?_
  refine wX7_hasPerson (by omega) ?_
  rw [s0]
  refine pv_i ?_
  refine wp_if_eq 42 dX7_canPour_5 rfl (fun c5 => ?_) (fun c5 => ?_)
  · rw [b2i_0] at c5
    refine ic_0 dX7_canPour_42 ?_
    refine wp_iretz dX7_canPour_43 rfl (by omega) ?_
    exact qv hQ (by first | exact b2i_t (by omega) | exact b2i_f (by omega))
  · rw [b2i_n0] at c5
    refine al_0 dX7_canPour_8 ?_
    refine g_X7_12 (3) dX7_canPour_9 rfl tt2 (rr7_0 tt2) (by omega) ?_
    refine g_X7_100 (4) dX7_canPour_12 rfl tt3 (rr5_6 tt3) (by omega) ?_
    refine il_1 dX7_canPour_15 ?_
    refine wp_iaload dX7_canPour_16 tt4 (by omega) (by omega) ?_
    rw [s6 p (by omega) (by omega)]
    have ho := C.2.1.oil p (by omega) (by omega)
    refine il_2 dX7_canPour_17 ?_
    refine wp_iadd dX7_canPour_18 (r32 (by omega) (by omega)) ?_
    refine wp_if_lt 42 dX7_canPour_19 rfl (fun c19 => ?_) (fun c19 => ?_)
    · refine ic_0 dX7_canPour_42 ?_
      refine wp_iretz dX7_canPour_43 rfl (by omega) ?_
      exact qv hQ (by first | exact b2i_t (by omega) | exact b2i_f (by omega))
    · refine al_0 dX7_canPour_22 ?_
      refine g_X7_12 (3) dX7_canPour_23 rfl tt2 (rr7_0 tt2) (by omega) ?_
      refine g_X7_100 (4) dX7_canPour_26 rfl tt3 (rr5_6 tt3) (by omega) ?_
      refine il_1 dX7_canPour_29 ?_
      refine wp_iaload dX7_canPour_30 tt4 (by omega) (by omega) ?_
      rw [s6 p (by omega) (by omega)]
      refine il_2 dX7_canPour_31 ?_
      refine wp_iadd dX7_canPour_32 (r32 (by omega) (by omega)) ?_
      refine bi_99 dX7_canPour_33 ?_
      refine wp_icmp_gt 42 dX7_canPour_35 rfl (fun c35 => ?_) (fun c35 => ?_)
      · refine ic_0 dX7_canPour_42 ?_
        refine wp_iretz dX7_canPour_43 rfl (by omega) ?_
        exact qv hQ (by first | exact b2i_t (by omega) | exact b2i_f (by omega))
      · refine ic_1 dX7_canPour_38 ?_
        refine wp_goto 43 dX7_canPour_39 rfl ?_
        refine wp_iretz dX7_canPour_43 rfl (by omega) ?_
        exact qv hQ (by first | exact b2i_t (by omega) | exact b2i_f (by omega))

theorem wX7_pourByHand {G : GT} {δ : Nat} {h hl : Nat → Int → Int} {b : Bool × Bool} {Q : V → Hp → Prop} {p x : Int} {R : Int → Int} {L : Laws} (hδ : δ ≤ 1640) (C : CT h R L) (hQ : ¬ (canPr R p x ∧ x ≠ 0 ∧ -99 ≤ x ∧ x ≤ 99) → Q (vi 0) (HS h hl b)) (hQ2 : canPr R p x ∧ x ≠ 0 ∧ -99 ≤ x ∧ x ≤ 99 → ∀ h', eqT h h' → CT h' (rPour (rKeep R) p x) L → Q (vi 1) (HS h' hl b)) : WP G δ 0 0 MX7_pourByHand 0 [vr (2), vi p, vi x] [] (HS h hl b) Q := by
  have f := C.1.f
  have n := C.2.1.n
  have w := C.2.1.w
  obtain ⟨s0, s3, s4, s1, s2, s5, s6, s7, s8⟩ := C.1.1.now
  refine il_2 dX7_pourByHand_0 ?_
  refine wp_if_eq 25 dX7_pourByHand_1 rfl (fun c1 => ?_) (fun c1 => ?_)
  · refine ic_0 dX7_pourByHand_25 ?_
    refine wp_iretz dX7_pourByHand_26 rfl (by omega) ?_
    exact hQ (by unfold canPr; omega)
  · refine il_2 dX7_pourByHand_4 ?_
    refine bi_m99 dX7_pourByHand_5 ?_
    refine wp_icmp_lt 25 dX7_pourByHand_7 rfl (fun c7 => ?_) (fun c7 => ?_)
    · refine ic_0 dX7_pourByHand_25 ?_
      refine wp_iretz dX7_pourByHand_26 rfl (by omega) ?_
      exact hQ (by unfold canPr; omega)
    · refine il_2 dX7_pourByHand_10 ?_
      refine bi_99 dX7_pourByHand_11 ?_
      refine wp_icmp_gt 25 dX7_pourByHand_13 rfl (fun c13 => ?_) (fun c13 => ?_)
      · refine ic_0 dX7_pourByHand_25 ?_
        refine wp_iretz dX7_pourByHand_26 rfl (by omega) ?_
        exact hQ (by unfold canPr; omega)
      · refine al_0 dX7_pourByHand_16 ?_
        refine il_1 dX7_pourByHand_17 ?_
        refine il_2 dX7_pourByHand_18 ?_
        refine c_X7_171 dX7_pourByHand_19 rfl tt2 (Nat.le_of_ble_eq_true rfl) (by omega) ?_
        refine wX7_canPour (by omega) C (by omega) (by omega) ?_
        refine pv_i ?_
        refine wp_if_ne 27 dX7_pourByHand_22 rfl (fun c22 => ?_) (fun c22 => ?_)
        · rw [b2i_n0] at c22
          refine al_0 dX7_pourByHand_27 ?_
          refine c_X7_165 dX7_pourByHand_28 rfl tt2 (Nat.le_of_ble_eq_true rfl) (by omega) ?_
          refine wX7_beginStep (by omega) C (fun h1 E1 C1 => ?_)
          have k0 : rKeep R 0 = R 0 := rKeep_o C.2.1 (by decide) (by decide)
          have kp : rKeep R (13 + 2 * p) = R (13 + 2 * p) := rKeep_o C.2.1 (by omega) (by omega)
          have po := C1.1.oil p (by omega) (by omega)
          have vo := C1.2.1.oil p (by omega) (by omega)
          refine pv_n ?_
          refine al_0 dX7_pourByHand_31 ?_
          refine g_X7_12 (3) dX7_pourByHand_32 rfl tt2 (rr7_0 tt2) (by omega) ?_
          refine g_X7_100 (4) dX7_pourByHand_35 rfl tt3 (rr5_6 tt3) (by omega) ?_
          refine il_1 dX7_pourByHand_38 ?_
          refine wp_dup2 dX7_pourByHand_39 rfl rfl ?_
          refine wp_iaload dX7_pourByHand_40 tt4 (by omega) (by omega) ?_
          rw [po]
          refine il_2 dX7_pourByHand_41 ?_
          refine wp_iadd dX7_pourByHand_42 (r32 (by omega) (by omega)) ?_
          refine wp_iastore dX7_pourByHand_43 tt4 (by omega) (by omega) ?_
          refine ic_1 dX7_pourByHand_44 ?_
          refine wp_iretz dX7_pourByHand_45 rfl (by omega) ?_
          exact hQ2 ⟨by unfold canPr; omega, by omega, by omega, by omega⟩ _ (E1.up (by omega)) (C1.pour (by unfold canPr; omega))
        · rw [b2i_0] at c22
          refine ic_0 dX7_pourByHand_25 ?_
          refine wp_iretz dX7_pourByHand_26 rfl (by omega) ?_
          exact hQ (by unfold canPr; omega)

theorem wX7_snuffByHand {G : GT} {δ : Nat} {h hl : Nat → Int → Int} {b : Bool × Bool} {Q : V → Hp → Prop} {l : Int} {R : Int → Int} {L : Laws} (hδ : δ ≤ 1640) (C : CT h R L) (hQ : ¬ ((0 ≤ l ∧ l < 10) ∧ tb (R 10) l = true) → Q (vi 0) (HS h hl b)) (hQ2 : (0 ≤ l ∧ l < 10) ∧ tb (R 10) l = true → ∀ h', eqT h h' → CT h' (rSnuff (rKeep R) l) L → Q (vi 1) (HS h' hl b)) : WP G δ 0 0 MX7_snuffByHand 0 [vr (2), vi l] [] (HS h hl b) Q := by
  have f := C.1.f
  have n := C.2.1.n
  have w := C.2.1.w
  obtain ⟨s0, s3, s4, s1, s2, s5, s6, s7, s8⟩ := C.1.1.now
  refine il_1 dX7_snuffByHand_0 ?_
  refine c_X7_174 dX7_snuffByHand_1 rfl (Nat.le_of_ble_eq_true rfl) (by omega) ?_
  refine wX8_isLamp (by omega) ?_
  refine pv_i ?_
  refine wp_if_eq 21 dX7_snuffByHand_4 rfl (fun c4 => ?_) (fun c4 => ?_)
  · rw [b2i_0] at c4
    refine ic_0 dX7_snuffByHand_21 ?_
    refine wp_iretz dX7_snuffByHand_22 rfl (by omega) ?_
    refine hQ (fun z => ?_)
    first | exact c4 z.1 | (rw [if_pos z.2] at c18; omega)
  · rw [b2i_n0] at c4
    refine al_0 dX7_snuffByHand_7 ?_
    refine g_X7_12 (3) dX7_snuffByHand_8 rfl tt2 (rr7_0 tt2) (by omega) ?_
    refine g_X7_127 dX7_snuffByHand_11 rfl tt3 ?_
    rw [s1]
    refine il_1 dX7_snuffByHand_14 ?_
    refine wp_ishr dX7_snuffByHand_15 ?_
    refine ic_1 dX7_snuffByHand_16 ?_
    
    refine wp_iand dX7_snuffByHand_17 ?_
    rw [has_tb w.2.2.1.1 (by omega) (by omega) (by omega)]
    refine wp_if_ne 23 dX7_snuffByHand_18 rfl (fun c18 => ?_) (fun c18 => ?_)
    · refine al_0 dX7_snuffByHand_23 ?_
      refine c_X7_165 dX7_snuffByHand_24 rfl tt2 (Nat.le_of_ble_eq_true rfl) (by omega) ?_
      refine wX7_beginStep (by omega) C (fun h1 E1 C1 => ?_)
      have kt : rKeep R 10 = R 10 := rKeep_o C.2.1 (by decide) (by decide)
      have t1 := C1.1.1.now.2.2.2.1
      refine pv_n ?_
      refine al_0 dX7_snuffByHand_27 ?_
      refine g_X7_12 (3) dX7_snuffByHand_28 rfl tt2 (rr7_0 tt2) (by omega) ?_
      refine wp_dup dX7_snuffByHand_31 rfl ?_
      refine g_X7_127 dX7_snuffByHand_32 rfl tt3 ?_
      rw [t1]
      refine ic_1 dX7_snuffByHand_35 ?_
      refine il_1 dX7_snuffByHand_36 ?_
      refine wp_ishl dX7_snuffByHand_37 ?_
      refine ic_m1 dX7_snuffByHand_38 ?_
      refine wp_ixor dX7_snuffByHand_39 ?_
      refine wp_iand dX7_snuffByHand_40 ?_
      refine p_X7_127 dX7_snuffByHand_41 rfl tt3 ?_
      refine ic_1 dX7_snuffByHand_44 ?_
      refine wp_iretz dX7_snuffByHand_45 rfl (by omega) ?_
      exact hQ2 ⟨c4, by by_cases z : tb (R 10) l = true; exact z; rw [if_neg z] at c18; omega⟩ _ (E1.up (by omega)) (C1.snuff (by omega) (by omega))
    · refine ic_0 dX7_snuffByHand_21 ?_
      refine wp_iretz dX7_snuffByHand_22 rfl (by omega) ?_
      refine hQ (fun z => ?_)
      first | exact c4 z.1 | (rw [if_pos z.2] at c18; omega)

theorem wX7_among {G : GT} {δ : Nat} {h hl : Nat → Int → Int} {b : Bool × Bool} {Q : V → Hp → Prop} {x n : Int} (hδ : δ ≤ 1700) (x0 : 0 ≤ x) (hQ : Q (vi (among x n)) (HS h hl b)) : WP G δ 0 0 MX7_among 0 [vi x, vi n] [] (HS h hl b) Q := by
  refine il_1 dX7_among_0 ?_
  refine wp_if_le 10 dX7_among_1 rfl (fun c1 => ?_) (fun c1 => ?_)
  · refine ic_m1 dX7_among_10 ?_
    refine wp_ireti dX7_among_11 rfl ?_
    exact qv hQ (by unfold among; first | rw [if_pos (by omega)] | rw [if_neg (by omega)])
  · refine il_0 dX7_among_4 ?_
    refine il_1 dX7_among_5 ?_
    refine wp_iremN dX7_among_6 (by omega) (by omega) ?_
    refine wp_goto 11 dX7_among_7 rfl ?_
    refine wp_ireti dX7_among_11 rfl ?_
    exact qv hQ (by unfold among; first | rw [if_pos (by omega)] | rw [if_neg (by omega)])

theorem wX7_argueInYear {G : GT} {δ : Nat} {h hl : Nat → Int → Int} {b : Bool × Bool} {Q : V → Hp → Prop} {d p q : Int} {R : Int → Int} {L : Laws} (hδ : δ ≤ 1600) (C : CT h R L) (hQ : ¬ canArg R d p q → Q vn (HS h hl b)) (hQ2 : canArg R d p q → ∀ h', eqT h h' → CT h' (rArg L true R d p q) L → Q vn (HS h' hl b)) : WP G δ 0 0 MX7_argueInYear 0 [vr (2), vi d, vi p, vi q] [] (HS h hl b) Q := by
  have f := C.1.f
  have n := C.2.1.n
  have w := C.2.1.w
  obtain ⟨s0, s3, s4, s1, s2, s5, s6, s7, s8⟩ := C.1.1.now
  refine al_0 dX7_argueInYear_0 ?_
  refine il_1 dX7_argueInYear_1 ?_
  refine il_2 dX7_argueInYear_2 ?_
  refine il_3 dX7_argueInYear_3 ?_
  refine c_X7_161 dX7_argueInYear_4 rfl tt2 (Nat.le_of_ble_eq_true rfl) (by omega) ?_
  refine wX7_canArgue (by omega) ?_
  rw [f.2.1.2.1, s0]
  refine pv_i ?_
  refine wp_if_eq 18 dX7_argueInYear_7 rfl (fun c7 => ?_) (fun c7 => ?_)
  · rw [b2i_0] at c7
    refine wp_vret dX7_argueInYear_18 rfl ?_
    first | exact hQ2 c7 h2 E2.T C2 | exact hQ c7
  · rw [b2i_n0] at c7
    refine al_0 dX7_argueInYear_10 ?_
    refine il_1 dX7_argueInYear_11 ?_
    refine il_2 dX7_argueInYear_12 ?_
    refine il_3 dX7_argueInYear_13 ?_
    refine c_X7_168 dX7_argueInYear_14 rfl tt2 (Nat.le_of_ble_eq_true rfl) (by omega) ?_
    refine wX7_argueOut (by omega) C (by omega) (by omega) (by omega) (by omega) (by omega) (by omega) (fun h2 E2 C2 => ?_)
    refine pv_i ?_
    refine wp_pop dX7_argueInYear_17 rfl ?_
    refine wp_vret dX7_argueInYear_18 rfl ?_
    first | exact hQ2 c7 h2 E2.T C2 | exact hQ c7

theorem wX7_pourInYear {G : GT} {δ : Nat} {h hl : Nat → Int → Int} {b : Bool × Bool} {Q : V → Hp → Prop} {p x : Int} {R : Int → Int} {L : Laws} (hδ : δ ≤ 1660) (C : CT h R L) (x0 : -99 ≤ x) (x1 : x ≤ 99) (hQ : ¬ canPr R p x → Q vn (HS h hl b)) (hQ2 : canPr R p x → ∀ h', eqT h h' → CT h' (rPour R p x) L → Q vn (HS h' hl b)) : WP G δ 0 0 MX7_pourInYear 0 [vr (2), vi p, vi x] [] (HS h hl b) Q := by
  have f := C.1.f
  have n := C.2.1.n
  have w := C.2.1.w
  obtain ⟨s0, s3, s4, s1, s2, s5, s6, s7, s8⟩ := C.1.1.now
  refine al_0 dX7_pourInYear_0 ?_
  refine il_1 dX7_pourInYear_1 ?_
  refine il_2 dX7_pourInYear_2 ?_
  refine c_X7_171 dX7_pourInYear_3 rfl tt2 (Nat.le_of_ble_eq_true rfl) (by omega) ?_
  refine wX7_canPour (by omega) C (by omega) (by omega) ?_
  refine pv_i ?_
  refine wp_if_eq 22 dX7_pourInYear_6 rfl (fun c6 => ?_) (fun c6 => ?_)
  · rw [b2i_0] at c6
    refine wp_vret dX7_pourInYear_22 rfl ?_
    first | exact hQ2 c6 _ (eqT.rf.up (by omega)) (C.pour c6) | exact hQ c6
  · rw [b2i_n0] at c6
    have po := s6 p (by omega) (by omega)
    have vo := C.2.1.oil p (by omega) (by omega)
    refine al_0 dX7_pourInYear_9 ?_
    refine g_X7_12 (3) dX7_pourInYear_10 rfl tt2 (rr7_0 tt2) (by omega) ?_
    refine g_X7_100 (4) dX7_pourInYear_13 rfl tt3 (rr5_6 tt3) (by omega) ?_
    refine il_1 dX7_pourInYear_16 ?_
    refine wp_dup2 dX7_pourInYear_17 rfl rfl ?_
    refine wp_iaload dX7_pourInYear_18 tt4 (by omega) (by omega) ?_
    rw [po]
    refine il_2 dX7_pourInYear_19 ?_
    refine wp_iadd dX7_pourInYear_20 (r32 (by omega) (by omega)) ?_
    refine wp_iastore dX7_pourInYear_21 tt4 (by omega) (by omega) ?_
    refine wp_vret dX7_pourInYear_22 rfl ?_
    first | exact hQ2 c6 _ (eqT.rf.up (by omega)) (C.pour c6) | exact hQ c6
