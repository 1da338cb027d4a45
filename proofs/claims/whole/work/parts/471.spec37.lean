theorem wX0_oil {G : GT} {δ : Nat} {h hl : Nat → Int → Int} {b : Bool × Bool} {Q : V → Hp → Prop} {v : Int} (hδ : δ ≤ 1700) (ev : h 328 3 = v) (v0 : 0 ≤ v) (hQ : Q (vi (v / 65536)) (HS h hl b)) : WP G δ 0 0 MX0_oil 0 [vr (328)] [] (HS h hl b) Q := by
  refine al_0 dX0_oil_0 ?_
  refine g_X0_22 dX0_oil_1 rfl tt328 ?_
  rw [ev]
  refine wp_ldc (65536) dX0_oil_4 ⟨by decide, by decide⟩ cc_X0_52 ?_
  refine wp_idivN dX0_oil_6 (by omega) (by omega) ?_
  refine wp_ireti dX0_oil_7 rfl ?_
  exact hQ

theorem wX0_loserOf {G : GT} {δ : Nat} {h hl : Nat → Int → Int} {b : Bool × Bool} {Q : V → Hp → Prop} {v w : Int} (hδ : δ ≤ 1680) (ev : h 328 3 = v) (v0 : 0 ≤ v) (w0 : 0 ≤ w) (w8 : w < 8) (hQ : Q (vi (v / dgI w % 4)) (HS h hl b)) : WP G δ 0 0 MX0_loserOf 0 [vr (328), vi w] [] (HS h hl b) Q := by
  have vd : 0 ≤ v / dgI w := Int.ediv_nonneg v0 (by have := dgI_R w0 w8; omega)
  refine il_1 dX0_loserOf_0 ?_
  refine wp_if_lt 24 dX0_loserOf_1 rfl (fun c1 => ?_) (fun c1 => ?_)
  · omega
  · refine il_1 dX0_loserOf_4 ?_
    refine bi_8 dX0_loserOf_5 ?_
    refine wp_icmp_ge 24 dX0_loserOf_7 rfl (fun c7 => ?_) (fun c7 => ?_)
    · omega
    · refine al_0 dX0_loserOf_10 ?_
      refine g_X0_22 dX0_loserOf_11 rfl tt328 ?_
      rw [ev]
      refine il_1 dX0_loserOf_14 ?_
      refine c_X0_53 dX0_loserOf_15 rfl (Nat.le_of_ble_eq_true rfl) (by omega) ?_
      have dr := dgI_R w0 w8
      refine wX0_digit (by omega) w0 w8 ?_
      refine pv_i ?_
      refine wp_idivN dX0_loserOf_18 (by omega) (by omega) ?_
      refine ic_4 dX0_loserOf_19 ?_
      refine wp_iremN dX0_loserOf_20 (by omega) (by omega) ?_
      refine wp_goto 26 dX0_loserOf_21 rfl ?_
      refine wp_ireti dX0_loserOf_26 rfl ?_
      exact hQ

theorem wX8_bill {G : GT} {δ : Nat} {h hl : Nat → Int → Int} {b : Bool × Bool} {Q : V → Hp → Prop} {D w : Int} {R : Int → Int} {L : Laws} (hδ : δ ≤ 1580) (C : CT h R L)  (hQ : ∀ h' : Nat → Int → Int, ∀ b' : Bool × Bool, eqX BLL h h' → Q (vi (aBill L R D w)) (HS h' hl b')) : WP G δ 0 0 MX8_bill 0 [vr (1), vi D, vi w] [] (HS h hl b) Q := by
  obtain ⟨⟨s0, s3, s4, s1, s2, s5⟩, ⟨t0, t1, t5, t6, t7⟩, ⟨g7, g8, g11, g10, g10x⟩⟩ := C.1.f
  have vn' := C.2.1.n
  have vw := C.2.1.w
  have nn := nS_e C.2.1
  refine il_1 dX8_bill_0 ?_
  refine wp_if_lt 20 dX8_bill_1 rfl (fun c1 => ?_) (fun c1 => ?_)
  · refine bi_m2 dX8_bill_20 ?_
    refine wp_ireti dX8_bill_22 rfl ?_
    exact qv (hQ h b eqX.rf) (aBill_n (fun z => by have := z.1; omega))
  · obtain ⟨k, rfl⟩ := Int.eq_ofNat_of_zero_le (show 0 ≤ D by omega)
    refine il_1 dX8_bill_4 ?_
    refine ic_1 dX8_bill_5 ?_
    refine al_0 dX8_bill_6 ?_
    refine g_X8_12 (2) dX8_bill_7 rfl tt1 (rr8_0 tt1) (by omega) ?_
    refine g_X8_167 (9) dX8_bill_10 rfl tt2 (rr7_2 tt2) (by omega) ?_
    refine g_X8_249 dX8_bill_13 rfl tt9 ?_
    rw [t1]
    refine wp_ishl dX8_bill_16 ?_
    rw [show shl 1 (R 1) = nS R from rfl]
    refine wp_icmp_lt 23 dX8_bill_17 rfl (fun c17 => ?_) (fun c17 => ?_)
    · refine il_2 dX8_bill_23 ?_
      refine ic_m1 dX8_bill_24 ?_
      refine wp_icmp_eq 50 dX8_bill_25 rfl (fun c25 => ?_) (fun c25 => ?_)
      · refine al_0 dX8_bill_50 ?_
        refine g_X8_36 (328) dX8_bill_51 rfl tt1 (rr8_4 tt1) (by omega) ?_
        refine al_0 dX8_bill_54 ?_
        refine g_X8_12 (2) dX8_bill_55 rfl tt1 (rr8_0 tt1) (by omega) ?_
        refine il_1 dX8_bill_58 ?_
        refine c_X8_254 dX8_bill_59 rfl tt328 (Nat.le_of_ble_eq_true rfl) (by omega) ?_
        refine wX0_solve (by omega) C (by omega) (fun h1 b1 v E1 bv ev => ?_)
        have v0 := BV_0le FN_R (by omega) bv
        have bc := BV_code FN_R (by omega) bv
        refine pv_i ?_
        refine wp_if_ne 68 dX8_bill_62 rfl (fun c62 => ?_) (fun c62 => ?_)
        · rw [b2i_n0] at c62
          refine il_2 dX8_bill_68 ?_
          refine ic_m1 dX8_bill_69 ?_
          refine wp_icmp_ne 83 dX8_bill_70 rfl (fun c70 => ?_) (fun c70 => ?_)
          · refine al_0 dX8_bill_83 ?_
            refine g_X8_36 (328) dX8_bill_84 rfl tt1 (rr8_4 tt1) (by omega) ?_
            refine il_2 dX8_bill_87 ?_
            refine c_X8_260 dX8_bill_88 rfl tt328 (Nat.le_of_ble_eq_true rfl) (by omega) ?_
            refine wX0_loserOf (by omega) ev v0 (by omega) (by omega) ?_
            refine pv_i ?_
            refine wp_ireti dX8_bill_91 rfl ?_
            obtain ⟨c, b0, t1, t2⟩ := bc.2 c62
            refine qv (hQ h1 b1 E1) (aBill_e ⟨by omega, ?_⟩ (Or.inr ⟨c, b0, ?_⟩))
            · first | (exfalso; omega) | exact Or.inl (by omega) | exact Or.inr ⟨by omega, by omega, q⟩
            · first
                | (exfalso; omega)
                | (rw [if_pos (by omega)]; exact t1)
                | (rw [if_neg (by omega)]; exact t2 w (by omega) (by omega) q)
          · refine al_0 dX8_bill_73 ?_
            refine g_X8_36 (328) dX8_bill_74 rfl tt1 (rr8_4 tt1) (by omega) ?_
            refine c_X8_258 dX8_bill_77 rfl tt328 (Nat.le_of_ble_eq_true rfl) (by omega) ?_
            refine wX0_oil (by omega) ev v0 ?_
            refine pv_i ?_
            refine wp_goto 91 dX8_bill_80 rfl ?_
            refine wp_ireti dX8_bill_91 rfl ?_
            obtain ⟨c, b0, t1, t2⟩ := bc.2 c62
            refine qv (hQ h1 b1 E1) (aBill_e ⟨by omega, ?_⟩ (Or.inr ⟨c, b0, ?_⟩))
            · first | (exfalso; omega) | exact Or.inl (by omega) | exact Or.inr ⟨by omega, by omega, q⟩
            · first
                | (exfalso; omega)
                | (rw [if_pos (by omega)]; exact t1)
                | (rw [if_neg (by omega)]; exact t2 w (by omega) (by omega) q)
        · rw [b2i_0] at c62
          refine bi_m2 dX8_bill_65 ?_
          refine wp_ireti dX8_bill_67 rfl ?_
          refine qv (hQ h1 b1 E1) (aBill_e ⟨by omega, ?_⟩ (Or.inl ⟨bc.1 c62, rfl⟩))
          first | exact Or.inl (by omega) | exact Or.inr ⟨by omega, by omega, q⟩
      · refine al_0 dX8_bill_28 ?_
        refine g_X8_12 (2) dX8_bill_29 rfl tt1 (rr8_0 tt1) (by omega) ?_
        refine il_2 dX8_bill_32 ?_
        refine c_X8_164 dX8_bill_33 rfl tt2 (Nat.le_of_ble_eq_true rfl) (by omega) ?_
        refine wX7_hasDispute (by omega) ?_
        rw [t1]
        refine pv_i ?_
        refine wp_if_eq 47 dX8_bill_36 rfl (fun c36 => ?_) (fun c36 => ?_)
        · rw [b2i_0] at c36
          refine bi_m2 dX8_bill_47 ?_
          refine wp_ireti dX8_bill_49 rfl ?_
          refine qv (hQ h b eqX.rf) (aBill_n (fun z => ?_))
          rcases z.2 with e | ⟨e1, e2, e3⟩
          · omega
          · first | omega | (rw [q] at e3; cases e3)
        · rw [b2i_n0] at c36
          refine il_1 dX8_bill_39 ?_
          refine il_2 dX8_bill_40 ?_
          refine wp_ishr dX8_bill_41 ?_
          refine ic_1 dX8_bill_42 ?_
          refine wp_iand dX8_bill_43 ?_
          rw [has_tb (by omega) (by omega) (by omega) (by omega)]
          refine wp_if_ne 50 dX8_bill_44 rfl (fun c44 => ?_) (fun c44 => ?_)
          · have q : tb (k : Int) w = true := by
              cases z : tb (k : Int) w with
              | true => rfl
              | false => rw [z] at c44; exact absurd rfl c44
            refine al_0 dX8_bill_50 ?_
            refine g_X8_36 (328) dX8_bill_51 rfl tt1 (rr8_4 tt1) (by omega) ?_
            refine al_0 dX8_bill_54 ?_
            refine g_X8_12 (2) dX8_bill_55 rfl tt1 (rr8_0 tt1) (by omega) ?_
            refine il_1 dX8_bill_58 ?_
            refine c_X8_254 dX8_bill_59 rfl tt328 (Nat.le_of_ble_eq_true rfl) (by omega) ?_
            refine wX0_solve (by omega) C (by omega) (fun h1 b1 v E1 bv ev => ?_)
            have v0 := BV_0le FN_R (by omega) bv
            have bc := BV_code FN_R (by omega) bv
            refine pv_i ?_
            refine wp_if_ne 68 dX8_bill_62 rfl (fun c62 => ?_) (fun c62 => ?_)
            · rw [b2i_n0] at c62
              refine il_2 dX8_bill_68 ?_
              refine ic_m1 dX8_bill_69 ?_
              refine wp_icmp_ne 83 dX8_bill_70 rfl (fun c70 => ?_) (fun c70 => ?_)
              · refine al_0 dX8_bill_83 ?_
                refine g_X8_36 (328) dX8_bill_84 rfl tt1 (rr8_4 tt1) (by omega) ?_
                refine il_2 dX8_bill_87 ?_
                refine c_X8_260 dX8_bill_88 rfl tt328 (Nat.le_of_ble_eq_true rfl) (by omega) ?_
                refine wX0_loserOf (by omega) ev v0 (by omega) (by omega) ?_
                refine pv_i ?_
                refine wp_ireti dX8_bill_91 rfl ?_
                obtain ⟨c, b0, t1, t2⟩ := bc.2 c62
                refine qv (hQ h1 b1 E1) (aBill_e ⟨by omega, ?_⟩ (Or.inr ⟨c, b0, ?_⟩))
                · first | (exfalso; omega) | exact Or.inl (by omega) | exact Or.inr ⟨by omega, by omega, q⟩
                · first
                    | (exfalso; omega)
                    | (rw [if_pos (by omega)]; exact t1)
                    | (rw [if_neg (by omega)]; exact t2 w (by omega) (by omega) q)
              · refine al_0 dX8_bill_73 ?_
                refine g_X8_36 (328) dX8_bill_74 rfl tt1 (rr8_4 tt1) (by omega) ?_
                refine c_X8_258 dX8_bill_77 rfl tt328 (Nat.le_of_ble_eq_true rfl) (by omega) ?_
                refine wX0_oil (by omega) ev v0 ?_
                refine pv_i ?_
                refine wp_goto 91 dX8_bill_80 rfl ?_
                refine wp_ireti dX8_bill_91 rfl ?_
                obtain ⟨c, b0, t1, t2⟩ := bc.2 c62
                refine qv (hQ h1 b1 E1) (aBill_e ⟨by omega, ?_⟩ (Or.inr ⟨c, b0, ?_⟩))
                · first | (exfalso; omega) | exact Or.inl (by omega) | exact Or.inr ⟨by omega, by omega, q⟩
                · first
                    | (exfalso; omega)
                    | (rw [if_pos (by omega)]; exact t1)
                    | (rw [if_neg (by omega)]; exact t2 w (by omega) (by omega) q)
            · rw [b2i_0] at c62
              refine bi_m2 dX8_bill_65 ?_
              refine wp_ireti dX8_bill_67 rfl ?_
              refine qv (hQ h1 b1 E1) (aBill_e ⟨by omega, ?_⟩ (Or.inl ⟨bc.1 c62, rfl⟩))
              first | exact Or.inl (by omega) | exact Or.inr ⟨by omega, by omega, q⟩
          · have q : tb (k : Int) w = false := by
              cases z : tb (k : Int) w with
              | false => rfl
              | true => rw [z] at c44; exact absurd c44 (by decide)
            refine bi_m2 dX8_bill_47 ?_
            refine wp_ireti dX8_bill_49 rfl ?_
            refine qv (hQ h b eqX.rf) (aBill_n (fun z => ?_))
            rcases z.2 with e | ⟨e1, e2, e3⟩
            · omega
            · first | omega | (rw [q] at e3; cases e3)
    · refine bi_m2 dX8_bill_20 ?_
      refine wp_ireti dX8_bill_22 rfl ?_
      exact qv (hQ h b eqX.rf) (aBill_n (fun z => by have := z.1; omega))

theorem wX9_billBy_11 {G : GT} {δ : Nat} {hl : Nat → Int → Int} {b : Bool × Bool} {Q : V → Hp → Prop} {D c bn t : Int} {h0 : Nat → Int → Int} (hδ : δ ≤ 1600)  : ∀ (n : Nat) (i : Int) (h : Nat → Int → Int), ((4 - i).toNat) < n → (eqX [342, 344, 347] h0 h) → (0 ≤ i) → (i ≤ 4) → (∀ p : Int, 0 ≤ p → p < i → h 347 p = 0) → (∀ h' : Nat → Int → Int, eqX [342, 344, 347] h0 h' → (∀ p : Int, 0 ≤ p → p < 4 → h' 347 p = 0) → WP G δ 0 0 MX9_billBy 31 [vr 336, vi D, vi c, vi bn, vi t, vn, vn] [] (HS h' hl b) Q) → WP G δ 0 0 MX9_billBy 11 [vr (336), vi D, vi c, vi bn, vi t, vi i, vn] [] (HS h hl b) Q := by
  intro n
  induction n with
  | zero => intro i h hlt; exact absurd hlt (Nat.not_lt_zero _)
  | succ n ih =>
    intro i h hlt E i0 i1 A hQ
    refine il_5 dX9_billBy_11 ?_
    refine ic_4 dX9_billBy_13 ?_
    refine wp_icmp_ge 31 dX9_billBy_14 rfl (fun c14 => ?_) (fun c14 => ?_)
    · have e : i = 4 := by omega
      subst e
      refine wp_fg (ls' := [_, _, _, _, _, vn, vn]) ⟨Or.inr rfl, Or.inr rfl, Or.inr rfl, Or.inr rfl, Or.inr rfl, Or.inl rfl, Or.inl rfl, trivial⟩ ?_
      exact hQ h E A
    · refine al_0 dX9_billBy_17 ?_
      refine g_X9_53 (347) dX9_billBy_18 rfl tt336 (rr9_27 tt336) (by omega) ?_
      refine il_5 dX9_billBy_21 ?_
      refine ic_0 dX9_billBy_23 ?_
      refine wp_iastore dX9_billBy_24 tt347 (by omega) (by omega) ?_
      refine ii_5 dX9_billBy_25 rfl (by decide) ⟨by decide, by decide⟩ (r32 (by omega) (by omega)) ?_
      refine wp_goto 11 dX9_billBy_28 rfl ?_
      refine ih (i + 1) _ (by omega) (E.up (by decide)) (by omega) (by omega) (fun p q0 q1 => ?_) hQ
      by_cases e : p = i
      · rw [e, up_s]
      · rw [up_k e]; exact A p q0 (by omega)

theorem wX9_billBy_34 {G : GT} {δ : Nat} {b : Bool × Bool} {Q : V → Hp → Prop} {D c : Nat} {h0 : Nat → Int → Int} {R : Int → Int} {L : Laws} (hδ : δ ≤ 1600) (M0 : MT h0 R L) (hD : (D : Int) < nS R) (hc : c < 65536) : ∀ (n : Nat) (d : Nat) (bn : Int) (t : Int) (c6 : Option (Int ⊕ Int ⊕ Nat ⊕ Nat)) (h : Nat → Int → Int) (hl : Nat → Int → Int), ((8 - d)) < n → (eqX [342, 344, 347] h0 h) → ((d : Int) ≤ R 1) → (∀ p : Int, 0 ≤ p → p < 4 → h 347 p = pS (fun j => if aC D c j = p then FN L R j p else 0) D d) → (∀ j : Nat, j < d → D.testBit j = true → aC D c j < R 0) → (∀ p : Int, 0 ≤ p → p < R 0 → pS (fun j => if aC D c j = p then FN L R j p else 0) D d ≤ ON R p) → (t = pS (fun j => FN L R j (aC D c j)) D d) → (bn = (rkN D 8 : Int) - rkN D d) → (∀ h' hl' : Nat → Int → Int, ∀ v : Int, eqX [342, 344, 347] h0 h' → ((VALm (FN L R) (ON R) (R 0) D c ∧ v = totC (FN L R) D c) ∨ (¬ VALm (FN L R) (ON R) (R 0) D c ∧ v = -1)) → Q (vi v) (HS h' hl' b)) → WP G δ 0 0 MX9_billBy 34 [vr (336), vi (D : Int), vi (c : Int), vi bn, vi t, vi (d : Int), c6] [] (HS h hl b) Q := by
  intro n
  induction n with
  | zero => intro d bn t c6 h hl hlt; exact absurd hlt (Nat.not_lt_zero _)
  | succ n ih =>
    intro d bn t c6 h hl hlt E d1 A V1 V2 ht hb hQ
    have M := MT.x M0 E (by decide) (by decide)
    have m := M.1
    have V := M.2.1
    have vn' := V.n
    have vw := V.w
    have nn := nS_e V
    have tr := pS_R (g := (fun j => FN L R j (aC D c j))) (D := D) (fun _ => FN_R _ _) d
    rw [← ht] at tr
    have rk := rk_le (D := D) 8
    have gR : ∀ p d, 0 ≤ (fun j => if aC D c j = p then FN L R j p else 0) d ∧ (fun j => if aC D c j = p then FN L R j p else 0) d ≤ 9 := fun p d => by
      have := FN_R (L := L) (R := R) d p
      dsimp only
      split <;> omega
    refine il_5 dX9_billBy_34 ?_
    refine al_0 dX9_billBy_36 ?_
    refine g_X9_7 (337) dX9_billBy_37 rfl tt336 (rr9_0 tt336) (by omega) ?_
    refine ic_1 dX9_billBy_40 ?_
    refine wp_iaload dX9_billBy_41 tt337 (by omega) (by omega) ?_
    first | rw [m2] | rw [m1] | rw [m] | rw [sw_s] | skip
    refine wp_icmp_ge 147 dX9_billBy_42 rfl (fun c42 => ?_) (fun c42 => ?_)
    · have e : R 1 = d := by omega
      refine il_4 dX9_billBy_147 ?_
      refine wp_ireti dX9_billBy_149 rfl ?_
      have D2 : D < 2 ^ d := by rw [show (R 1).toNat = d by omega] at nn; omega
      refine hQ h hl _ E (Or.inl ⟨⟨fun j j0 j1 q => ⟨aC_R.1, ?_⟩, fun p p0 p1 => ?_⟩, ?_⟩)
      · obtain ⟨i, rfl⟩ := Int.eq_ofNat_of_zero_le j0
        refine V1 i ?_ q
        rcases Nat.lt_or_ge i d with z | z
        · exact z
        · rw [Int.toNat_natCast, Nat.testBit_lt_two_pow (Nat.lt_of_lt_of_le D2 (Nat.pow_le_pow_right (by decide) z))] at q; cases q
      · have := V2 p p0 p1
        rw [pS_8 D2 (by omega)] at this; exact this
      · rw [ht, pS_8 D2 (by omega)]; rfl
    · refine il_1 dX9_billBy_45 ?_
      refine il_5 dX9_billBy_46 ?_
      refine c_X9_248 dX9_billBy_48 rfl (Nat.le_of_ble_eq_true rfl) (by omega) ?_
      refine wX9_has (by omega) (by omega) (by omega) (by omega) (by omega) ?_
      refine pv_i ?_
      refine wp_if_ne 57 dX9_billBy_51 rfl (fun c51 => ?_) (fun c51 => ?_)
      · rw [b2i_n0] at c51
        have q : D.testBit d = true := c51
        have r8 := rk_8 (by omega) q
        refine ii_3 dX9_billBy_57 rfl (by decide) ⟨by decide, by decide⟩ (r32 (by omega) (by omega)) ?_
        refine il_2 dX9_billBy_60 ?_
        refine ic_2 dX9_billBy_61 ?_
        refine il_3 dX9_billBy_62 ?_
        refine wp_imul dX9_billBy_63 (r32 (by omega) (by omega)) ?_
        refine wp_ishr dX9_billBy_64 ?_
        refine ic_3 dX9_billBy_65 ?_
        refine wp_iand dX9_billBy_66 ?_
        rw [show 2 * (bn + -1) = 2 * ((rkN D 8 - 1 - rkN D d : Nat) : Int) by omega, dgt _ (by omega) c hc, show ((c / 4 ^ (rkN D 8 - 1 - rkN D d) % 4 : Nat) : Int) = aC D c (d : Int) from rfl]
        refine is_6 dX9_billBy_67 rfl (by decide) ?_
        refine al_0 dX9_billBy_69 ?_
        refine il_6 dX9_billBy_70 ?_
        refine c_X9_335 dX9_billBy_72 rfl tt336 (Nat.le_of_ble_eq_true rfl) (by omega) ?_
        have ap := aC_R (D := D) (c := c) (d := (d : Int))
        refine wX9_isPerson (by omega) (by rw [m]; omega) (by rw [m]; omega) ?_
        rw [m]
        refine pv_i ?_
        refine wp_if_ne 80 dX9_billBy_75 rfl (fun c75 => ?_) (fun c75 => ?_)
        · rw [b2i_n0] at c75
          refine al_0 dX9_billBy_80 ?_
          refine g_X9_53 (347) dX9_billBy_81 rfl tt336 (rr9_27 tt336) (by omega) ?_
          refine il_6 dX9_billBy_84 ?_
          refine wp_dup2 dX9_billBy_86 rfl rfl ?_
          refine wp_iaload dX9_billBy_87 tt347 (by omega) (by omega) ?_
          rw [A _ ap.1 ap.2]
          have or_ := pS_R (gR (aC D c d)) (D := D) d
          refine al_0 dX9_billBy_88 ?_
          refine al_0 dX9_billBy_89 ?_
          refine g_X9_7 (337) dX9_billBy_90 rfl tt336 (rr9_0 tt336) (by omega) ?_
          refine ic_3 dX9_billBy_93 ?_
          refine wp_iaload dX9_billBy_94 tt337 (by omega) (by omega) ?_
          first | rw [m2] | rw [m1] | rw [m] | rw [sw_s] | skip
          refine il_5 dX9_billBy_95 ?_
          refine il_6 dX9_billBy_97 ?_
          refine c_X9_323 dX9_billBy_99 rfl tt336 (Nat.le_of_ble_eq_true rfl) (by omega) ?_
          refine wX9_fillsOf (by omega) M (by omega) (by omega) (by omega) (by omega) (by omega) (by omega) (fun h1 hl1 E1 => ?_)
          have M1 := MT.x M E1 (by decide) (by decide)
          have m1 := M1.1
          refine pv_i ?_
          refine wp_iadd dX9_billBy_102 (by have fr := fillsV_R (L := L) (R := R) (t := R 3) (d := (d : Int)) (p := aC D c (d : Int)); exact r32 (by omega) (by omega)) ?_
          refine wp_iastore dX9_billBy_103 tt347 (by omega) (by omega) ?_
          refine il_4 dX9_billBy_104 ?_
          refine al_0 dX9_billBy_106 ?_
          refine al_0 dX9_billBy_107 ?_
          refine g_X9_7 (337) dX9_billBy_108 rfl tt336 (rr9_0 tt336) (by omega) ?_
          refine ic_3 dX9_billBy_111 ?_
          refine wp_iaload dX9_billBy_112 tt337 (by omega) (by omega) ?_
          rw [up_o (o := 347) (q := 337) (by decide)]
          first | rw [m2] | rw [m1] | rw [m] | rw [sw_s] | skip
          refine il_5 dX9_billBy_113 ?_
          refine il_6 dX9_billBy_115 ?_
          refine c_X9_323 dX9_billBy_117 rfl tt336 (Nat.le_of_ble_eq_true rfl) (by omega) ?_
          refine wX9_fillsOf (by omega) M1.u (by omega) (by omega) (by omega) (by omega) (by omega) (by omega) (fun h2 hl2 E2 => ?_)
          have M2 := MT.x M1.u E2 (by decide) (by decide)
          have m2 := M2.1
          refine pv_i ?_
          refine wp_iadd dX9_billBy_120 (by have fr := fillsV_R (L := L) (R := R) (t := R 3) (d := (d : Int)) (p := aC D c (d : Int)); exact r32 (by omega) (by omega)) ?_
          refine is_4 dX9_billBy_121 rfl (by decide) ?_
          refine al_0 dX9_billBy_123 ?_
          refine g_X9_53 (347) dX9_billBy_124 rfl tt336 (rr9_27 tt336) (by omega) ?_
          refine il_6 dX9_billBy_127 ?_
          refine wp_iaload dX9_billBy_129 tt347 (by omega) (by omega) ?_
          rw [E2 347 (by decide), up_s]
          refine al_0 dX9_billBy_130 ?_
          refine il_6 dX9_billBy_131 ?_
          refine c_X9_73 dX9_billBy_133 rfl tt336 (Nat.le_of_ble_eq_true rfl) (by omega) ?_
          refine wX9_oilOf (by omega) (by omega) (by omega) ?_
          rw [m2]
          refine pv_i ?_
          refine wp_icmp_le 141 dX9_billBy_136 rfl (fun c136 => ?_) (fun c136 => ?_)
          · refine ii_5 dX9_billBy_141 rfl (by decide) ⟨by decide, by decide⟩ (r32 (by omega) (by omega)) ?_
            refine wp_goto 34 dX9_billBy_144 rfl ?_
            refine wp_fg (ls' := [_, _, _, _, _, _, vn]) ⟨Or.inr rfl, Or.inr rfl, Or.inr rfl, Or.inr rfl, Or.inr rfl, Or.inr rfl, Or.inl rfl, trivial⟩ ?_
            first
              | (have nq : ¬ D.testBit d = true := q
                 refine ih (d + 1) _ _ _ h hl (by omega) E (by omega) (fun p p0 p1 => ?_) (fun j hj qj => ?_) (fun p p0 p1 => ?_) ?_ ?_ hQ
                 · rw [pS_f q]; exact A p p0 p1
                 · by_cases e : j = d
                   · subst e; exact absurd qj q
                   · exact V1 j (by omega) qj
                 · rw [pS_f q]; exact V2 p p0 p1
                 · rw [pS_f q]; exact ht
                 · rw [rk_f q]; exact hb)
              | (have E3 : eqX [342, 344, 347] h0 h2 := E.tr ((E1.mono (by decide)).tr ((eqX.rf.up (by decide)).tr (E2.mono (by decide))))
                 have s := pS_t (g := fun j => if aC D c j = aC D c d then FN L R j (aC D c d) else 0) q
                 rw [if_pos rfl] at s
                 have o1 : ON R (aC D c d) = R (13 + 2 * aC D c d) := rfl
                 have o2 : FN L R d (aC D c d) = fillsV L R (R 3) d (aC D c d) := rfl
                 refine ih (d + 1) _ _ _ h2 hl2 (by omega) E3 (by omega) (fun p p0 p1 => ?_) (fun j hj qj => ?_) (fun p p0 p1 => ?_) ?_ ?_ hQ
                 · rw [E2 347 (by decide)]
                   by_cases e : p = aC D c d
                   · rw [e, up_s, s]; rfl
                   · rw [up_k e, E1 347 (by decide), pS_t q, if_neg (fun z => e z.symm), A p p0 p1]; omega
                 · by_cases e : j = d
                   · subst e; omega
                   · exact V1 j (by omega) qj
                 · by_cases e : p = aC D c d
                   · rw [e, s]; omega
                   · rw [pS_t q, if_neg (fun z => e z.symm)]; have := V2 p p0 p1; omega
                 · rw [pS_t q, ← ht]; rfl
                 · rw [rk_t q]; omega)
          · refine ic_m1 dX9_billBy_139 ?_
            refine wp_ireti dX9_billBy_140 rfl ?_
            have E3 : eqX [342, 344, 347] h0 h2 := E.tr ((E1.mono (by decide)).tr ((eqX.rf.up (by decide)).tr (E2.mono (by decide))))
            refine hQ h2 hl2 _ E3 (Or.inr ⟨fun z => ?_, rfl⟩)
            have y := z.2 (aC D c d) ap.1 (by omega)
            have s := pS_t (g := fun j => if aC D c j = aC D c d then FN L R j (aC D c d) else 0) q
            rw [if_pos rfl] at s
            have w := pS_m (n := d + 1) (D := D) (gR (aC D c d)) (8 - (d + 1))
            rw [show d + 1 + (8 - (d + 1)) = 8 by omega] at w
            have o1 : ON R (aC D c d) = R (13 + 2 * aC D c d) := rfl
            have o2 : FN L R d (aC D c d) = fillsV L R (R 3) d (aC D c d) := rfl
            have o3 : pS (fun j => if aC D c j = aC D c d then FN L R j (aC D c d) else 0) D 8 = bS (fun j => if aC D c j = aC D c d then FN L R j (aC D c d) else 0) D := rfl
            omega
        · rw [b2i_0] at c75
          refine ic_m1 dX9_billBy_78 ?_
          refine wp_ireti dX9_billBy_79 rfl ?_
          refine hQ h hl _ E (Or.inr ⟨fun z => ?_, rfl⟩)
          have := z.1 d (by omega) (by omega) q
          omega
      · rw [b2i_0] at c51
        have q : ¬ D.testBit d = true := c51
        refine wp_goto 141 dX9_billBy_54 rfl ?_
        refine ii_5 dX9_billBy_141 rfl (by decide) ⟨by decide, by decide⟩ (r32 (by omega) (by omega)) ?_
        refine wp_goto 34 dX9_billBy_144 rfl ?_
        first
          | (have nq : ¬ D.testBit d = true := q
             refine ih (d + 1) _ _ _ h hl (by omega) E (by omega) (fun p p0 p1 => ?_) (fun j hj qj => ?_) (fun p p0 p1 => ?_) ?_ ?_ hQ
             · rw [pS_f q]; exact A p p0 p1
             · by_cases e : j = d
               · subst e; exact absurd qj q
               · exact V1 j (by omega) qj
             · rw [pS_f q]; exact V2 p p0 p1
             · rw [pS_f q]; exact ht
             · rw [rk_f q]; exact hb)
          | (have E3 : eqX [342, 344, 347] h0 h2 := E.tr ((E1.mono (by decide)).tr ((eqX.rf.up (by decide)).tr (E2.mono (by decide))))
             have s := pS_t (g := fun j => if aC D c j = aC D c d then FN L R j (aC D c d) else 0) q
             rw [if_pos rfl] at s
             have o1 : ON R (aC D c d) = R (13 + 2 * aC D c d) := rfl
             have o2 : FN L R d (aC D c d) = fillsV L R (R 3) d (aC D c d) := rfl
             refine ih (d + 1) _ _ _ h2 hl2 (by omega) E3 (by omega) (fun p p0 p1 => ?_) (fun j hj qj => ?_) (fun p p0 p1 => ?_) ?_ ?_ hQ
             · rw [E2 347 (by decide)]
               by_cases e : p = aC D c d
               · rw [e, up_s, s]; rfl
               · rw [up_k e, E1 347 (by decide), pS_t q, if_neg (fun z => e z.symm), A p p0 p1]; omega
             · by_cases e : j = d
               · subst e; omega
               · exact V1 j (by omega) qj
             · by_cases e : p = aC D c d
               · rw [e, s]; omega
               · rw [pS_t q, if_neg (fun z => e z.symm)]; have := V2 p p0 p1; omega
             · rw [pS_t q, ← ht]; rfl
             · rw [rk_t q]; omega)

theorem wX9_billBy {G : GT} {δ : Nat} {h hl : Nat → Int → Int} {b : Bool × Bool} {Q : V → Hp → Prop} {R : Int → Int} {L : Laws} (hδ : δ ≤ 1600) (M : MT h R L) {D c : Nat} (hD : (D : Int) < nS R) (hc : c < 65536) (hQ : ∀ h' hl' : Nat → Int → Int, ∀ v : Int, eqX [342, 344, 347] h h' → ((VALm (FN L R) (ON R) (R 0) D c ∧ v = totC (FN L R) D c) ∨ (¬ VALm (FN L R) (ON R) (R 0) D c ∧ v = -1)) → Q (vi v) (HS h' hl' b)) : WP G δ 0 0 MX9_billBy 0 [vr (336), vi (D : Int), vi (c : Int), vn, vn, vn, vn] [] (HS h hl b) Q := by
  have m := M.1
  have V := M.2.1
  have vn' := V.n
  have vw := V.w
  have nn := nS_e V
  have rk := rk_pc D (by omega)
  refine il_1 dX9_billBy_0 ?_
  refine c_X9_298 dX9_billBy_1 rfl (Nat.le_of_ble_eq_true rfl) (by omega) ?_
  refine wX9_bits (by omega) (by omega) (by omega) ?_
  refine pv_i ?_
  refine is_3 dX9_billBy_4 rfl (by decide) ?_
  refine ic_0 dX9_billBy_5 ?_
  refine is_4 dX9_billBy_6 rfl (by decide) ?_
  refine ic_0 dX9_billBy_8 ?_
  refine is_5 dX9_billBy_9 rfl (by decide) ?_
  refine wX9_billBy_11 (by omega) _ 0 h (Nat.lt_succ_self _) eqX.rf (by omega) (by omega) (fun p p0 p1 => by omega) (fun h1 E1 A1 => ?_)
  refine ic_0 dX9_billBy_31 ?_
  refine is_5 dX9_billBy_32 rfl (by decide) ?_
  refine wX9_billBy_34 (by omega) M hD hc _ 0 _ 0 _ h1 hl (Nat.lt_succ_self _) E1 (by omega) A1 (fun j hj => by omega) (fun p p0 p1 => ?_) rfl (by rw [rk.1]; show _ = _ - ((0 : Nat) : Int); omega) hQ
  have := (V.oil p p0 p1).1
  exact this

theorem wX9_bill_54 {G : GT} {δ : Nat} {b : Bool × Bool} {Q : V → Hp → Prop} {D : Nat} {w : Int} {h0 : Nat → Int → Int} {R : Int → Int} {L : Laws} (hδ : δ ≤ 1580) (M0 : MT h0 R L) (hD : (D : Int) < nS R) (hw : w = -1 ∨ (0 ≤ w ∧ w < R 1 ∧ tb D w = true)) : ∀ (n : Nat) (i : Nat) (bc : Int) (bt : Int) (c7 : Option (Int ⊕ Int ⊕ Nat ⊕ Nat)) (h : Nat → Int → Int) (hl : Nat → Int → Int), ((4 ^ rkN D 8 - i)) < n → (eqX [342, 344, 347] h0 h) → (i ≤ 4 ^ rkN D 8) → ((bc = -1 ∧ bt = 1000000 ∧ ∀ c : Nat, c < i → ¬ VALm (FN L R) (ON R) (R 0) D c) ∨ ∃ c0 : Nat, bc = c0 ∧ c0 < i ∧ VALm (FN L R) (ON R) (R 0) D c0 ∧ bt = totC (FN L R) D c0 ∧ ∀ c : Nat, c < i → VALm (FN L R) (ON R) (R 0) D c → totC (FN L R) D c0 < totC (FN L R) D c ∨ (totC (FN L R) D c0 = totC (FN L R) D c ∧ c0 ≤ c)) → (∀ h' hl' : Nat → Int → Int, eqX [342, 344, 347] h0 h' → Q (vi (aBill L R D w)) (HS h' hl' b)) → WP G δ 0 0 MX9_bill 54 [vr (336), vi (D : Int), vi w, vi ((rkN D 8 : Nat) : Int), vi bc, vi bt, vi (i : Int), c7] [] (HS h hl b) Q := by
  intro n
  induction n with
  | zero => intro i bc bt c7 h hl hlt; exact absurd hlt (Nat.not_lt_zero _)
  | succ n ih =>
    intro i bc bt c7 h hl hlt E i1 hI hQ
    have M := MT.x M0 E (by decide) (by decide)
    have m := M.1
    have V := M.2.1
    have vn' := V.n
    have vw := V.w
    have nn := nS_e V
    have rk := rk_pc D (by omega)
    have p4 := p4_e (rkN D 8) (by omega)
    have tR : ∀ c : Nat, 0 ≤ totC (FN L R) D c ∧ totC (FN L R) D c ≤ 72 := fun c => bS_R (c := 9) (by omega) (fun d _ _ _ => FN_R _ _)
    have hJ : Unit → _ := fun _ => hI
    clear hI
    refine il_6 dX9_bill_54 ?_
    refine ic_1 dX9_bill_56 ?_
    refine ic_2 dX9_bill_57 ?_
    refine il_3 dX9_bill_58 ?_
    refine wp_imul dX9_bill_59 (r32 (by omega) (by omega)) ?_
    refine wp_ishl dX9_bill_60 ?_
    rw [p4.1]
    refine wp_icmp_ge 103 dX9_bill_61 rfl (fun c61 => ?_) (fun c61 => ?_)
    · have e : i = 4 ^ rkN D 8 := by omega
      subst e
      refine il_4 dX9_bill_103 ?_
      refine ic_m1 dX9_bill_105 ?_
      refine wp_icmp_ne 112 dX9_bill_106 rfl (fun c106 => ?_) (fun c106 => ?_)
      · refine il_2 dX9_bill_112 ?_
        refine ic_m1 dX9_bill_113 ?_
        refine wp_icmp_ne 120 dX9_bill_114 rfl (fun c114 => ?_) (fun c114 => ?_)
        · refine il_1 dX9_bill_120 ?_
          refine il_2 dX9_bill_121 ?_
          refine wp_ishr dX9_bill_122 ?_
          refine c_X9_298 dX9_bill_123 rfl (Nat.le_of_ble_eq_true rfl) (by omega) ?_
          obtain ⟨k, rfl⟩ := Int.eq_ofNat_of_zero_le (show 0 ≤ w by omega)
          have q : D.testBit k = true := by
            rcases hw with z | ⟨_, _, z⟩
            · omega
            · exact z
          have r8 := rk_8 (by omega) q
          have rs := rk_shr D (by omega) k (by omega)
          refine wX9_bits (by omega) rs.2.1 rs.2.2 ?_
          rw [rs.1]
          refine pv_i ?_
          refine ic_1 dX9_bill_126 ?_
          refine wp_isub dX9_bill_127 (r32 (by omega) (by omega)) ?_
          refine is_6 dX9_bill_128 rfl (by decide) ?_
          refine il_4 dX9_bill_130 ?_
          refine ic_2 dX9_bill_132 ?_
          refine il_6 dX9_bill_133 ?_
          refine wp_imul dX9_bill_135 (r32 (by omega) (by omega)) ?_
          refine wp_ishr dX9_bill_136 ?_
          refine ic_3 dX9_bill_137 ?_
          refine wp_iand dX9_bill_138 ?_
          refine wp_ireti dX9_bill_139 rfl ?_
          have hI := hJ ()
          rcases hI with ⟨e, _⟩ | ⟨c0, e1, e2, e3, e4, e5⟩
          · omega
          · refine qv (hQ h hl E) (aBill_e ⟨by omega, hw⟩ (Or.inr ⟨c0, ⟨e2, e3, e5⟩, ?_⟩))
            rw [if_neg (by omega), e1, show 2 * ((rkN D 8 : Int) - rkN D k - 1) = 2 * ((rkN D 8 - 1 - rkN D k : Nat) : Int) by omega, dgt _ (by omega) c0 (by omega)]
            rfl
        · refine il_5 dX9_bill_117 ?_
          refine wp_ireti dX9_bill_119 rfl ?_
          have hI := hJ ()
          rcases hI with ⟨e, _⟩ | ⟨c0, e1, e2, e3, e4, e5⟩
          · omega
          · exact qv (hQ h hl E) (aBill_e ⟨by omega, hw⟩ (Or.inr ⟨c0, ⟨e2, e3, e5⟩, by rw [if_pos (by omega)]; exact e4⟩))
      · refine bi_m2 dX9_bill_109 ?_
        refine wp_ireti dX9_bill_111 rfl ?_
        refine qv (hQ h hl E) (aBill_e ⟨by omega, hw⟩ (Or.inl ⟨?_, rfl⟩))
        have hI := hJ ()
        rcases hI with ⟨_, _, q⟩ | ⟨c0, e, _⟩
        · exact q
        · omega
    · refine al_0 dX9_bill_64 ?_
      refine il_1 dX9_bill_65 ?_
      refine il_6 dX9_bill_66 ?_
      refine c_X9_412 dX9_bill_68 rfl tt336 (Nat.le_of_ble_eq_true rfl) (by omega) ?_
      refine wX9_billBy (by omega) M hD (by omega) (fun h1 hl1 v E1 hv => ?_)
      have ti := tR i
      refine pv_i ?_
      refine is_7 dX9_bill_71 rfl (by decide) ?_
      refine il_7 dX9_bill_73 ?_
      refine ic_m1 dX9_bill_75 ?_
      refine wp_icmp_eq 97 dX9_bill_76 rfl (fun c76 => ?_) (fun c76 => ?_)
      · refine ii_6 dX9_bill_97 rfl (by decide) ⟨by decide, by decide⟩ (r32 (by omega) (by omega)) ?_
        refine wp_goto 54 dX9_bill_100 rfl ?_
        refine wp_fg (ls' := [_, _, _, _, _, _, _, vn]) ⟨Or.inr rfl, Or.inr rfl, Or.inr rfl, Or.inr rfl, Or.inr rfl, Or.inr rfl, Or.inr rfl, Or.inl rfl, trivial⟩ ?_
        have E2 : eqX [342, 344, 347] h0 h1 := E.tr E1
        refine ih (i + 1) _ _ _ h1 hl1 (by omega) E2 (by omega) ?_ hQ
        have hI := hJ ()
        rcases hv with ⟨vv, ve⟩ | ⟨vv, ve⟩
        · rcases hI with ⟨b1, b2, b3⟩ | ⟨c0, b1, b2, b3, b4, b5⟩
          · first
              | (exfalso; omega)
              | (refine Or.inr ⟨i, rfl, by omega, vv, ve, fun c hc z => ?_⟩
                 have : c = i := by
                   rcases Nat.lt_or_ge c i with y | y
                   · exact absurd z (b3 c y)
                   · omega
                 subst this; exact Or.inr ⟨rfl, Nat.le_refl _⟩)
          · first
              | (refine Or.inr ⟨i, rfl, by omega, vv, ve, fun c hc z => ?_⟩
                 rcases Nat.lt_or_ge c i with y | y
                 · have := b5 c y z; omega
                 · have : c = i := by omega
                   subst this; exact Or.inr ⟨rfl, Nat.le_refl _⟩)
              | (refine Or.inr ⟨c0, b1, by omega, b3, b4, fun c hc z => ?_⟩
                 rcases Nat.lt_or_ge c i with y | y
                 · exact b5 c y z
                 · have : c = i := by omega
                   subst this; omega)
        · first
            | (exfalso; omega)
            | (rcases hI with ⟨b1, b2, b3⟩ | ⟨c0, b1, b2, b3, b4, b5⟩
               · refine Or.inl ⟨b1, b2, fun c hc => ?_⟩
                 rcases Nat.lt_or_ge c i with y | y
                 · exact b3 c y
                 · rw [show c = i by omega]; exact vv
               · refine Or.inr ⟨c0, b1, by omega, b3, b4, fun c hc z => ?_⟩
                 rcases Nat.lt_or_ge c i with y | y
                 · exact b5 c y z
                 · rw [show c = i by omega] at z; exact absurd z vv)
      · refine il_7 dX9_bill_79 ?_
        refine il_5 dX9_bill_81 ?_
        refine wp_icmp_lt 89 dX9_bill_83 rfl (fun c83 => ?_) (fun c83 => ?_)
        · refine il_7 dX9_bill_89 ?_
          refine is_5 dX9_bill_91 rfl (by decide) ?_
          refine il_6 dX9_bill_93 ?_
          refine is_4 dX9_bill_95 rfl (by decide) ?_
          refine ii_6 dX9_bill_97 rfl (by decide) ⟨by decide, by decide⟩ (r32 (by omega) (by omega)) ?_
          refine wp_goto 54 dX9_bill_100 rfl ?_
          refine wp_fg (ls' := [_, _, _, _, _, _, _, vn]) ⟨Or.inr rfl, Or.inr rfl, Or.inr rfl, Or.inr rfl, Or.inr rfl, Or.inr rfl, Or.inr rfl, Or.inl rfl, trivial⟩ ?_
          have E2 : eqX [342, 344, 347] h0 h1 := E.tr E1
          refine ih (i + 1) _ _ _ h1 hl1 (by omega) E2 (by omega) ?_ hQ
          have hI := hJ ()
          rcases hv with ⟨vv, ve⟩ | ⟨vv, ve⟩
          · rcases hI with ⟨b1, b2, b3⟩ | ⟨c0, b1, b2, b3, b4, b5⟩
            · first
                | (exfalso; omega)
                | (refine Or.inr ⟨i, rfl, by omega, vv, ve, fun c hc z => ?_⟩
                   have : c = i := by
                     rcases Nat.lt_or_ge c i with y | y
                     · exact absurd z (b3 c y)
                     · omega
                   subst this; exact Or.inr ⟨rfl, Nat.le_refl _⟩)
            · first
                | (refine Or.inr ⟨i, rfl, by omega, vv, ve, fun c hc z => ?_⟩
                   rcases Nat.lt_or_ge c i with y | y
                   · have := b5 c y z; omega
                   · have : c = i := by omega
                     subst this; exact Or.inr ⟨rfl, Nat.le_refl _⟩)
                | (refine Or.inr ⟨c0, b1, by omega, b3, b4, fun c hc z => ?_⟩
                   rcases Nat.lt_or_ge c i with y | y
                   · exact b5 c y z
                   · have : c = i := by omega
                     subst this; omega)
          · first
              | (exfalso; omega)
              | (rcases hI with ⟨b1, b2, b3⟩ | ⟨c0, b1, b2, b3, b4, b5⟩
                 · refine Or.inl ⟨b1, b2, fun c hc => ?_⟩
                   rcases Nat.lt_or_ge c i with y | y
                   · exact b3 c y
                   · rw [show c = i by omega]; exact vv
                 · refine Or.inr ⟨c0, b1, by omega, b3, b4, fun c hc z => ?_⟩
                   rcases Nat.lt_or_ge c i with y | y
                   · exact b5 c y z
                   · rw [show c = i by omega] at z; exact absurd z vv)
        · refine wp_goto 97 dX9_bill_86 rfl ?_
          refine ii_6 dX9_bill_97 rfl (by decide) ⟨by decide, by decide⟩ (r32 (by omega) (by omega)) ?_
          refine wp_goto 54 dX9_bill_100 rfl ?_
          refine wp_fg (ls' := [_, _, _, _, _, _, _, vn]) ⟨Or.inr rfl, Or.inr rfl, Or.inr rfl, Or.inr rfl, Or.inr rfl, Or.inr rfl, Or.inr rfl, Or.inl rfl, trivial⟩ ?_
          have E2 : eqX [342, 344, 347] h0 h1 := E.tr E1
          refine ih (i + 1) _ _ _ h1 hl1 (by omega) E2 (by omega) ?_ hQ
          have hI := hJ ()
          rcases hv with ⟨vv, ve⟩ | ⟨vv, ve⟩
          · rcases hI with ⟨b1, b2, b3⟩ | ⟨c0, b1, b2, b3, b4, b5⟩
            · first
                | (exfalso; omega)
                | (refine Or.inr ⟨i, rfl, by omega, vv, ve, fun c hc z => ?_⟩
                   have : c = i := by
                     rcases Nat.lt_or_ge c i with y | y
                     · exact absurd z (b3 c y)
                     · omega
                   subst this; exact Or.inr ⟨rfl, Nat.le_refl _⟩)
            · first
                | (refine Or.inr ⟨i, rfl, by omega, vv, ve, fun c hc z => ?_⟩
                   rcases Nat.lt_or_ge c i with y | y
                   · have := b5 c y z; omega
                   · have : c = i := by omega
                     subst this; exact Or.inr ⟨rfl, Nat.le_refl _⟩)
                | (refine Or.inr ⟨c0, b1, by omega, b3, b4, fun c hc z => ?_⟩
                   rcases Nat.lt_or_ge c i with y | y
                   · exact b5 c y z
                   · have : c = i := by omega
                     subst this; omega)
          · first
              | (exfalso; omega)
              | (rcases hI with ⟨b1, b2, b3⟩ | ⟨c0, b1, b2, b3, b4, b5⟩
                 · refine Or.inl ⟨b1, b2, fun c hc => ?_⟩
                   rcases Nat.lt_or_ge c i with y | y
                   · exact b3 c y
                   · rw [show c = i by omega]; exact vv
                 · refine Or.inr ⟨c0, b1, by omega, b3, b4, fun c hc z => ?_⟩
                   rcases Nat.lt_or_ge c i with y | y
                   · exact b5 c y z
                   · rw [show c = i by omega] at z; exact absurd z vv)

theorem wX9_bill {G : GT} {δ : Nat} {h hl : Nat → Int → Int} {b : Bool × Bool} {Q : V → Hp → Prop} {D w : Int} {R : Int → Int} {L : Laws} (hδ : δ ≤ 1580) (M : MT h R L)  (hQ : ∀ h' hl' : Nat → Int → Int, eqX [342, 344, 347] h h' → Q (vi (aBill L R D w)) (HS h' hl' b)) : WP G δ 0 0 MX9_bill 0 [vr (336), vi D, vi w, vn, vn, vn, vn, vn] [] (HS h hl b) Q := by
  have m := M.1
  have V := M.2.1
  have vn' := V.n
  have vw := V.w
  have nn := nS_e V
  refine il_1 dX9_bill_0 ?_
  refine ic_0 dX9_bill_1 ?_
  refine al_0 dX9_bill_2 ?_
  refine c_X9_402 dX9_bill_3 rfl tt336 (Nat.le_of_ble_eq_true rfl) (by omega) ?_
  refine wX9_sets (by omega) ?_
  rw [m, show shl 1 (R 1) = nS R from rfl]
  refine pv_i ?_
  refine ic_1 dX9_bill_6 ?_
  refine wp_isub dX9_bill_7 (r32 (by omega) (by omega)) ?_
  refine c_X9_69 dX9_bill_8 rfl (Nat.le_of_ble_eq_true rfl) (by omega) ?_
  refine wX9_isIn (by omega) ?_
  refine pv_i ?_
  refine wp_if_eq 35 dX9_bill_11 rfl (fun c11 => ?_) (fun c11 => ?_)
  · rw [b2i_0] at c11
    refine bi_m2 dX9_bill_35 ?_
    refine wp_ireti dX9_bill_37 rfl ?_
    refine qv (hQ h hl eqX.rf) (aBill_n (fun z => ?_))
    rcases z.2 with e | ⟨e1, e2, e3⟩
    · omega
    · first | omega | exact absurd e3 c32
  · rw [b2i_n0] at c11
    refine il_2 dX9_bill_14 ?_
    refine ic_m1 dX9_bill_15 ?_
    refine wp_icmp_eq 38 dX9_bill_16 rfl (fun c16 => ?_) (fun c16 => ?_)
    · refine il_1 dX9_bill_38 ?_
      refine c_X9_298 dX9_bill_39 rfl (Nat.le_of_ble_eq_true rfl) (by omega) ?_
      obtain ⟨k, rfl⟩ := Int.eq_ofNat_of_zero_le (show 0 ≤ D by omega)
      have rk := rk_pc k (by omega)
      refine wX9_bits (by omega) (by omega) (by omega) ?_
      rw [rk.1]
      refine pv_i ?_
      refine is_3 dX9_bill_42 rfl (by decide) ?_
      refine ic_m1 dX9_bill_43 ?_
      refine is_4 dX9_bill_44 rfl (by decide) ?_
      refine wp_ldcw (1000000) dX9_bill_46 ⟨by decide, by decide⟩ cc_X9_411 ?_
      refine is_5 dX9_bill_49 rfl (by decide) ?_
      refine ic_0 dX9_bill_51 ?_
      refine is_6 dX9_bill_52 rfl (by decide) ?_
      refine wX9_bill_54 (by omega) M (by omega) ?_ _ 0 _ _ _ h hl (Nat.lt_succ_self _) eqX.rf (Nat.zero_le _) (Or.inl ⟨rfl, rfl, fun c hc => by omega⟩) hQ
      first | exact Or.inl (by omega) | exact Or.inr ⟨by omega, by omega, c32⟩
    · refine al_0 dX9_bill_19 ?_
      refine il_2 dX9_bill_20 ?_
      refine c_X9_332 dX9_bill_21 rfl tt336 (Nat.le_of_ble_eq_true rfl) (by omega) ?_
      refine wX9_isDispute (by omega) (by rw [m]; omega) (by rw [m]; omega) ?_
      rw [m]
      refine pv_i ?_
      refine wp_if_eq 35 dX9_bill_24 rfl (fun c24 => ?_) (fun c24 => ?_)
      · rw [b2i_0] at c24
        refine bi_m2 dX9_bill_35 ?_
        refine wp_ireti dX9_bill_37 rfl ?_
        refine qv (hQ h hl eqX.rf) (aBill_n (fun z => ?_))
        rcases z.2 with e | ⟨e1, e2, e3⟩
        · omega
        · first | omega | exact absurd e3 c32
      · rw [b2i_n0] at c24
        refine il_1 dX9_bill_27 ?_
        refine il_2 dX9_bill_28 ?_
        refine c_X9_248 dX9_bill_29 rfl (Nat.le_of_ble_eq_true rfl) (by omega) ?_
        refine wX9_has (by omega) (by omega) (by omega) (by omega) (by omega) ?_
        refine pv_i ?_
        refine wp_if_ne 38 dX9_bill_32 rfl (fun c32 => ?_) (fun c32 => ?_)
        · rw [b2i_n0] at c32
          refine il_1 dX9_bill_38 ?_
          refine c_X9_298 dX9_bill_39 rfl (Nat.le_of_ble_eq_true rfl) (by omega) ?_
          obtain ⟨k, rfl⟩ := Int.eq_ofNat_of_zero_le (show 0 ≤ D by omega)
          have rk := rk_pc k (by omega)
          refine wX9_bits (by omega) (by omega) (by omega) ?_
          rw [rk.1]
          refine pv_i ?_
          refine is_3 dX9_bill_42 rfl (by decide) ?_
          refine ic_m1 dX9_bill_43 ?_
          refine is_4 dX9_bill_44 rfl (by decide) ?_
          refine wp_ldcw (1000000) dX9_bill_46 ⟨by decide, by decide⟩ cc_X9_411 ?_
          refine is_5 dX9_bill_49 rfl (by decide) ?_
          refine ic_0 dX9_bill_51 ?_
          refine is_6 dX9_bill_52 rfl (by decide) ?_
          refine wX9_bill_54 (by omega) M (by omega) ?_ _ 0 _ _ _ h hl (Nat.lt_succ_self _) eqX.rf (Nat.zero_le _) (Or.inl ⟨rfl, rfl, fun c hc => by omega⟩) hQ
          first | exact Or.inl (by omega) | exact Or.inr ⟨by omega, by omega, c32⟩
        · rw [b2i_0] at c32
          refine bi_m2 dX9_bill_35 ?_
          refine wp_ireti dX9_bill_37 rfl ?_
          refine qv (hQ h hl eqX.rf) (aBill_n (fun z => ?_))
          rcases z.2 with e | ⟨e1, e2, e3⟩
          · omega
          · first | omega | exact absurd e3 c32
