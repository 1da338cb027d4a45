/-! signs of the reader -/
theorem wX2_isLetter {G : GT} {δ : Nat} {h hl : Nat → Int → Int} {b : Bool × Bool} {Q : V → Hp → Prop} {s : Int} (hδ : δ ≤ 1700)  (hQ : Q (vi (b2i ((97 ≤ s ∧ s ≤ 122) ∨ (65 ≤ s ∧ s ≤ 90)))) (HS h hl b)) : WP G δ 0 0 MX2_isLetter 0 [vi s] [] (HS h hl b) Q := by
  refine il_0 dX2_isLetter_0 ?_
  refine bi_97 dX2_isLetter_1 ?_
  refine wp_icmp_lt 12 dX2_isLetter_3 rfl (fun c3 => ?_) (fun c3 => ?_)
  · refine il_0 dX2_isLetter_12 ?_
    refine bi_65 dX2_isLetter_13 ?_
    refine wp_icmp_lt 28 dX2_isLetter_15 rfl (fun c15 => ?_) (fun c15 => ?_)
    · refine ic_0 dX2_isLetter_28 ?_
      refine wp_iretz dX2_isLetter_29 rfl (by omega) ?_
      first | exact qv hQ (b2i_t (by omega)) | exact qv hQ (b2i_f (by omega))
    · refine il_0 dX2_isLetter_18 ?_
      refine bi_90 dX2_isLetter_19 ?_
      refine wp_icmp_gt 28 dX2_isLetter_21 rfl (fun c21 => ?_) (fun c21 => ?_)
      · refine ic_0 dX2_isLetter_28 ?_
        refine wp_iretz dX2_isLetter_29 rfl (by omega) ?_
        first | exact qv hQ (b2i_t (by omega)) | exact qv hQ (b2i_f (by omega))
      · refine ic_1 dX2_isLetter_24 ?_
        refine wp_goto 29 dX2_isLetter_25 rfl ?_
        refine wp_iretz dX2_isLetter_29 rfl (by omega) ?_
        first | exact qv hQ (b2i_t (by omega)) | exact qv hQ (b2i_f (by omega))
  · refine il_0 dX2_isLetter_6 ?_
    refine bi_122 dX2_isLetter_7 ?_
    refine wp_icmp_le 24 dX2_isLetter_9 rfl (fun c9 => ?_) (fun c9 => ?_)
    · refine ic_1 dX2_isLetter_24 ?_
      refine wp_goto 29 dX2_isLetter_25 rfl ?_
      refine wp_iretz dX2_isLetter_29 rfl (by omega) ?_
      first | exact qv hQ (b2i_t (by omega)) | exact qv hQ (b2i_f (by omega))
    · refine il_0 dX2_isLetter_12 ?_
      refine bi_65 dX2_isLetter_13 ?_
      refine wp_icmp_lt 28 dX2_isLetter_15 rfl (fun c15 => ?_) (fun c15 => ?_)
      · refine ic_0 dX2_isLetter_28 ?_
        refine wp_iretz dX2_isLetter_29 rfl (by omega) ?_
        first | exact qv hQ (b2i_t (by omega)) | exact qv hQ (b2i_f (by omega))
      · refine il_0 dX2_isLetter_18 ?_
        refine bi_90 dX2_isLetter_19 ?_
        refine wp_icmp_gt 28 dX2_isLetter_21 rfl (fun c21 => ?_) (fun c21 => ?_)
        · refine ic_0 dX2_isLetter_28 ?_
          refine wp_iretz dX2_isLetter_29 rfl (by omega) ?_
          first | exact qv hQ (b2i_t (by omega)) | exact qv hQ (b2i_f (by omega))
        · refine ic_1 dX2_isLetter_24 ?_
          refine wp_goto 29 dX2_isLetter_25 rfl ?_
          refine wp_iretz dX2_isLetter_29 rfl (by omega) ?_
          first | exact qv hQ (b2i_t (by omega)) | exact qv hQ (b2i_f (by omega))

theorem wX2_isDigit {G : GT} {δ : Nat} {h hl : Nat → Int → Int} {b : Bool × Bool} {Q : V → Hp → Prop} {s : Int} (hδ : δ ≤ 1700)  (hQ : Q (vi (b2i (48 ≤ s ∧ s ≤ 57))) (HS h hl b)) : WP G δ 0 0 MX2_isDigit 0 [vi s] [] (HS h hl b) Q := by
  refine il_0 dX2_isDigit_0 ?_
  refine bi_48 dX2_isDigit_1 ?_
  refine wp_icmp_lt 16 dX2_isDigit_3 rfl (fun c3 => ?_) (fun c3 => ?_)
  · refine ic_0 dX2_isDigit_16 ?_
    refine wp_iretz dX2_isDigit_17 rfl (by omega) ?_
    first | exact qv hQ (b2i_t (by omega)) | exact qv hQ (b2i_f (by omega))
  · refine il_0 dX2_isDigit_6 ?_
    refine bi_57 dX2_isDigit_7 ?_
    refine wp_icmp_gt 16 dX2_isDigit_9 rfl (fun c9 => ?_) (fun c9 => ?_)
    · refine ic_0 dX2_isDigit_16 ?_
      refine wp_iretz dX2_isDigit_17 rfl (by omega) ?_
      first | exact qv hQ (b2i_t (by omega)) | exact qv hQ (b2i_f (by omega))
    · refine ic_1 dX2_isDigit_12 ?_
      refine wp_goto 17 dX2_isDigit_13 rfl ?_
      refine wp_iretz dX2_isDigit_17 rfl (by omega) ?_
      first | exact qv hQ (b2i_t (by omega)) | exact qv hQ (b2i_f (by omega))
