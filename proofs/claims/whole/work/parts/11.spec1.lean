theorem b2i_n0 {P : Prop} [Decidable P] : ¬ b2i P = 0 ↔ P := by unfold b2i; split <;> simp_all
theorem b2i_c {P Q : Prop} [Decidable P] [Decidable Q] (h : P ↔ Q) : b2i P = b2i Q := by unfold b2i; by_cases q : P; rw [if_pos q, if_pos (h.mp q)]; rw [if_neg q, if_neg (fun z => q (h.mpr z))]

theorem wX8_isLamp {G : GT} {δ : Nat} {h hl : Nat → Int → Int} {b : Bool × Bool} {Q : V → Hp → Prop} {l : Int} (hδ : δ ≤ 1700)  (hQ : Q (vi (b2i (0 ≤ l ∧ l < 10))) (HS h hl b)) : WP G δ 0 0 MX8_isLamp 0 [vi l] [] (HS h hl b) Q := by
  refine il_0 dX8_isLamp_0 ?_
  refine wp_if_lt 14 dX8_isLamp_1 rfl (fun c1 => ?_) (fun c1 => ?_)
  · refine ic_0 dX8_isLamp_14 ?_
    refine wp_iretz dX8_isLamp_15 rfl (by omega) ?_
    exact qv hQ (by first | exact b2i_t (by omega) | exact b2i_f (by omega))
  · refine il_0 dX8_isLamp_4 ?_
    refine bi_10 dX8_isLamp_5 ?_
    refine wp_icmp_ge 14 dX8_isLamp_7 rfl (fun c7 => ?_) (fun c7 => ?_)
    · refine ic_0 dX8_isLamp_14 ?_
      refine wp_iretz dX8_isLamp_15 rfl (by omega) ?_
      exact qv hQ (by first | exact b2i_t (by omega) | exact b2i_f (by omega))
    · refine ic_1 dX8_isLamp_10 ?_
      refine wp_goto 15 dX8_isLamp_11 rfl ?_
      refine wp_iretz dX8_isLamp_15 rfl (by omega) ?_
      exact qv hQ (by first | exact b2i_t (by omega) | exact b2i_f (by omega))

theorem wX8_areLamps {G : GT} {δ : Nat} {h hl : Nat → Int → Int} {b : Bool × Bool} {Q : V → Hp → Prop} {l : Int} (hδ : δ ≤ 1700)  (hQ : Q (vi (b2i (0 ≤ l ∧ l ≤ 1023))) (HS h hl b)) : WP G δ 0 0 MX8_areLamps 0 [vi l] [] (HS h hl b) Q := by
  refine il_0 dX8_areLamps_0 ?_
  refine wp_if_lt 15 dX8_areLamps_1 rfl (fun c1 => ?_) (fun c1 => ?_)
  · refine ic_0 dX8_areLamps_15 ?_
    refine wp_iretz dX8_areLamps_16 rfl (by omega) ?_
    exact qv hQ (by first | exact b2i_t (by omega) | exact b2i_f (by omega))
  · refine il_0 dX8_areLamps_4 ?_
    refine si_1023 dX8_areLamps_5 ?_
    refine wp_icmp_gt 15 dX8_areLamps_8 rfl (fun c8 => ?_) (fun c8 => ?_)
    · refine ic_0 dX8_areLamps_15 ?_
      refine wp_iretz dX8_areLamps_16 rfl (by omega) ?_
      exact qv hQ (by first | exact b2i_t (by omega) | exact b2i_f (by omega))
    · refine ic_1 dX8_areLamps_11 ?_
      refine wp_goto 16 dX8_areLamps_12 rfl ?_
      refine wp_iretz dX8_areLamps_16 rfl (by omega) ?_
      exact qv hQ (by first | exact b2i_t (by omega) | exact b2i_f (by omega))

theorem wX7_hasPerson {G : GT} {δ : Nat} {h hl : Nat → Int → Int} {b : Bool × Bool} {Q : V → Hp → Prop} {p : Int} (hδ : δ ≤ 1700)  (hQ : Q (vi (b2i (0 ≤ p ∧ p < h 3 0))) (HS h hl b)) : WP G δ 0 0 MX7_hasPerson 0 [vr (2), vi p] [] (HS h hl b) Q := by
  refine il_1 dX7_hasPerson_0 ?_
  refine wp_if_lt 19 dX7_hasPerson_1 rfl (fun c1 => ?_) (fun c1 => ?_)
  · refine ic_0 dX7_hasPerson_19 ?_
    refine wp_iretz dX7_hasPerson_20 rfl (by omega) ?_
    exact qv hQ (by first | exact b2i_t (by omega) | exact b2i_f (by omega))
  · refine il_1 dX7_hasPerson_4 ?_
    refine al_0 dX7_hasPerson_5 ?_
    refine g_X7_12 (3) dX7_hasPerson_6 rfl tt2 (rr7_0 tt2) (by omega) ?_
    refine g_X7_80 dX7_hasPerson_9 rfl tt3 ?_
    refine wp_icmp_ge 19 dX7_hasPerson_12 rfl (fun c12 => ?_) (fun c12 => ?_)
    · refine ic_0 dX7_hasPerson_19 ?_
      refine wp_iretz dX7_hasPerson_20 rfl (by omega) ?_
      exact qv hQ (by first | exact b2i_t (by omega) | exact b2i_f (by omega))
    · refine ic_1 dX7_hasPerson_15 ?_
      refine wp_goto 20 dX7_hasPerson_16 rfl ?_
      refine wp_iretz dX7_hasPerson_20 rfl (by omega) ?_
      exact qv hQ (by first | exact b2i_t (by omega) | exact b2i_f (by omega))

theorem wX7_hasTwo {G : GT} {δ : Nat} {h hl : Nat → Int → Int} {b : Bool × Bool} {Q : V → Hp → Prop} {p q : Int} (hδ : δ ≤ 1680)  (hQ : Q (vi (b2i ((0 ≤ p ∧ p < h 3 0) ∧ (0 ≤ q ∧ q < h 3 0) ∧ p ≠ q))) (HS h hl b)) : WP G δ 0 0 MX7_hasTwo 0 [vr (2), vi p, vi q] [] (HS h hl b) Q := by
  refine al_0 dX7_hasTwo_0 ?_
  refine il_1 dX7_hasTwo_1 ?_
  refine c_X7_83 dX7_hasTwo_2 rfl tt2 (Nat.le_of_ble_eq_true rfl) (by omega) ?_
  refine wX7_hasPerson (by omega) ?_
  refine pv_i ?_
  refine wp_if_eq 25 dX7_hasTwo_5 rfl (fun c5 => ?_) (fun c5 => ?_)
  · rw [b2i_0] at c5
    refine ic_0 dX7_hasTwo_25 ?_
    refine wp_iretz dX7_hasTwo_26 rfl (by omega) ?_
    exact qv hQ (by first | exact b2i_t (by omega) | exact b2i_f (by omega))
  · rw [b2i_n0] at c5
    refine al_0 dX7_hasTwo_8 ?_
    refine il_2 dX7_hasTwo_9 ?_
    refine c_X7_83 dX7_hasTwo_10 rfl tt2 (Nat.le_of_ble_eq_true rfl) (by omega) ?_
    refine wX7_hasPerson (by omega) ?_
    refine pv_i ?_
    refine wp_if_eq 25 dX7_hasTwo_13 rfl (fun c13 => ?_) (fun c13 => ?_)
    · rw [b2i_0] at c13
      refine ic_0 dX7_hasTwo_25 ?_
      refine wp_iretz dX7_hasTwo_26 rfl (by omega) ?_
      exact qv hQ (by first | exact b2i_t (by omega) | exact b2i_f (by omega))
    · rw [b2i_n0] at c13
      refine il_1 dX7_hasTwo_16 ?_
      refine il_2 dX7_hasTwo_17 ?_
      refine wp_icmp_eq 25 dX7_hasTwo_18 rfl (fun c18 => ?_) (fun c18 => ?_)
      · refine ic_0 dX7_hasTwo_25 ?_
        refine wp_iretz dX7_hasTwo_26 rfl (by omega) ?_
        exact qv hQ (by first | exact b2i_t (by omega) | exact b2i_f (by omega))
      · refine ic_1 dX7_hasTwo_21 ?_
        refine wp_goto 26 dX7_hasTwo_22 rfl ?_
        refine wp_iretz dX7_hasTwo_26 rfl (by omega) ?_
        exact qv hQ (by first | exact b2i_t (by omega) | exact b2i_f (by omega))

theorem wX7_hasDispute {G : GT} {δ : Nat} {h hl : Nat → Int → Int} {b : Bool × Bool} {Q : V → Hp → Prop} {d : Int} (hδ : δ ≤ 1700)  (hQ : Q (vi (b2i (0 ≤ d ∧ d < h 9 1))) (HS h hl b)) : WP G δ 0 0 MX7_hasDispute 0 [vr (2), vi d] [] (HS h hl b) Q := by
  refine il_1 dX7_hasDispute_0 ?_
  refine wp_if_lt 19 dX7_hasDispute_1 rfl (fun c1 => ?_) (fun c1 => ?_)
  · refine ic_0 dX7_hasDispute_19 ?_
    refine wp_iretz dX7_hasDispute_20 rfl (by omega) ?_
    exact qv hQ (by first | exact b2i_t (by omega) | exact b2i_f (by omega))
  · refine il_1 dX7_hasDispute_4 ?_
    refine al_0 dX7_hasDispute_5 ?_
    refine g_X7_27 (9) dX7_hasDispute_6 rfl tt2 (rr7_2 tt2) (by omega) ?_
    refine g_X7_87 dX7_hasDispute_9 rfl tt9 ?_
    refine wp_icmp_ge 19 dX7_hasDispute_12 rfl (fun c12 => ?_) (fun c12 => ?_)
    · refine ic_0 dX7_hasDispute_19 ?_
      refine wp_iretz dX7_hasDispute_20 rfl (by omega) ?_
      exact qv hQ (by first | exact b2i_t (by omega) | exact b2i_f (by omega))
    · refine ic_1 dX7_hasDispute_15 ?_
      refine wp_goto 20 dX7_hasDispute_16 rfl ?_
      refine wp_iretz dX7_hasDispute_20 rfl (by omega) ?_
      exact qv hQ (by first | exact b2i_t (by omega) | exact b2i_f (by omega))

theorem wX7_hasText {G : GT} {δ : Nat} {h hl : Nat → Int → Int} {b : Bool × Bool} {Q : V → Hp → Prop} {t : Int} (hδ : δ ≤ 1700)  (hQ : Q (vi (b2i (0 ≤ t ∧ t < h 2 7))) (HS h hl b)) : WP G δ 0 0 MX7_hasText 0 [vr (2), vi t] [] (HS h hl b) Q := by
  refine il_1 dX7_hasText_0 ?_
  refine wp_if_lt 16 dX7_hasText_1 rfl (fun c1 => ?_) (fun c1 => ?_)
  · refine ic_0 dX7_hasText_16 ?_
    refine wp_iretz dX7_hasText_17 rfl (by omega) ?_
    exact qv hQ (by first | exact b2i_t (by omega) | exact b2i_f (by omega))
  · refine il_1 dX7_hasText_4 ?_
    refine al_0 dX7_hasText_5 ?_
    refine g_X7_68 dX7_hasText_6 rfl tt2 ?_
    refine wp_icmp_ge 16 dX7_hasText_9 rfl (fun c9 => ?_) (fun c9 => ?_)
    · refine ic_0 dX7_hasText_16 ?_
      refine wp_iretz dX7_hasText_17 rfl (by omega) ?_
      exact qv hQ (by first | exact b2i_t (by omega) | exact b2i_f (by omega))
    · refine ic_1 dX7_hasText_12 ?_
      refine wp_goto 17 dX7_hasText_13 rfl ?_
      refine wp_iretz dX7_hasText_17 rfl (by omega) ?_
      exact qv hQ (by first | exact b2i_t (by omega) | exact b2i_f (by omega))

theorem wX7_canArgue {G : GT} {δ : Nat} {h hl : Nat → Int → Int} {b : Bool × Bool} {Q : V → Hp → Prop} {d p q : Int} (hδ : δ ≤ 1660)  (hQ : Q (vi (b2i ((0 ≤ d ∧ d < h 9 1) ∧ (0 ≤ p ∧ p < h 3 0) ∧ (0 ≤ q ∧ q < h 3 0) ∧ p ≠ q))) (HS h hl b)) : WP G δ 0 0 MX7_canArgue 0 [vr (2), vi d, vi p, vi q] [] (HS h hl b) Q := by
  refine al_0 dX7_canArgue_0 ?_
  refine il_1 dX7_canArgue_1 ?_
  refine c_X7_90 dX7_canArgue_2 rfl tt2 (Nat.le_of_ble_eq_true rfl) (by omega) ?_
  refine wX7_hasDispute (by omega) ?_
  refine pv_i ?_
  refine wp_if_eq 21 dX7_canArgue_5 rfl (fun c5 => ?_) (fun c5 => ?_)
  · rw [b2i_0] at c5
    refine ic_0 dX7_canArgue_21 ?_
    refine wp_iretz dX7_canArgue_22 rfl (by omega) ?_
    exact qv hQ (by first | exact b2i_t (by omega) | exact b2i_f (by omega))
  · rw [b2i_n0] at c5
    refine al_0 dX7_canArgue_8 ?_
    refine il_2 dX7_canArgue_9 ?_
    refine il_3 dX7_canArgue_10 ?_
    refine c_X7_93 dX7_canArgue_11 rfl tt2 (Nat.le_of_ble_eq_true rfl) (by omega) ?_
    refine wX7_hasTwo (by omega) ?_
    refine pv_i ?_
    refine wp_if_eq 21 dX7_canArgue_14 rfl (fun c14 => ?_) (fun c14 => ?_)
    · rw [b2i_0] at c14
      refine ic_0 dX7_canArgue_21 ?_
      refine wp_iretz dX7_canArgue_22 rfl (by omega) ?_
      exact qv hQ (by first | exact b2i_t (by omega) | exact b2i_f (by omega))
    · rw [b2i_n0] at c14
      refine ic_1 dX7_canArgue_17 ?_
      refine wp_goto 22 dX7_canArgue_18 rfl ?_
      refine wp_iretz dX7_canArgue_22 rfl (by omega) ?_
      exact qv hQ (by first | exact b2i_t (by omega) | exact b2i_f (by omega))

theorem wX8_between {G : GT} {δ : Nat} {h hl : Nat → Int → Int} {b : Bool × Bool} {Q : V → Hp → Prop} {lo v hi : Int} (hδ : δ ≤ 1680)  (hQ : Q (vi (max lo (min v hi))) (HS h hl b)) : WP G δ 0 0 MX8_between 0 [vi lo, vi v, vi hi] [] (HS h hl b) Q := by
  refine il_0 dX8_between_0 ?_
  refine il_1 dX8_between_1 ?_
  refine il_2 dX8_between_2 ?_
  refine c_X8_321 dX8_between_3 rfl (by simp) (by omega) ?_
  refine c_X8_316 dX8_between_6 rfl (by simp) (by omega) ?_
  refine wp_ireti dX8_between_9 rfl ?_
  exact hQ
