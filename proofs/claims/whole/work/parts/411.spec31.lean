theorem wX4_fewestLit_5 {G : GT} {δ : Nat} {h hl : Nat → Int → Int} {b : Bool × Bool} {Q : V → Hp → Prop}  {R : Int → Int} (hδ : δ ≤ 1680) (Sp : SP h R) (V : RV R)  : ∀ (n : Nat) (f : Int) (s : Int), ((nS R - s).toNat) < n → (0 ≤ s) → (s ≤ nS R) → (f = flN R s.toNat) → (Q (vi (flN R (nSn R))) (HS h hl b)) → WP G δ 0 0 MX4_fewestLit 5 [vr (323), vi (R 10), vi f, vi s] [] (HS h hl b) Q := by
  intro n
  induction n with
  | zero => intro f s hlt; exact absurd hlt (Nat.not_lt_zero _)
  | succ n ih =>
    intro f s hlt s0 s1 hf hQ
    obtain ⟨k4, k5, k6⟩ := Sp
    have n := V.n
    have nn := nS_e V
    have br := brT_R V s
    refine il_3 dX4_fewestLit_5 ?_
    refine al_0 dX4_fewestLit_6 ?_
    refine g_X4_24 dX4_fewestLit_7 rfl tt323 ?_
    rw [k5]
    refine wp_icmp_ge 35 dX4_fewestLit_10 rfl (fun c10 => ?_) (fun c10 => ?_)
    · have e : s = nS R := by omega
      refine il_2 dX4_fewestLit_35 ?_
      refine wp_ireti dX4_fewestLit_36 rfl ?_
      exact qv hQ (by rw [hf, e]; rfl)
    · refine il_2 dX4_fewestLit_13 ?_
      refine il_1 dX4_fewestLit_14 ?_
      refine al_0 dX4_fewestLit_15 ?_
      refine g_X4_9 (324) dX4_fewestLit_16 rfl tt323 (rr4_0 tt323) (by omega) ?_
      refine il_3 dX4_fewestLit_19 ?_
      refine wp_iaload dX4_fewestLit_20 tt324 (by omega) (by omega) ?_
      rw [k6 s s0 (by omega)]
      refine wp_ixor dX4_fewestLit_21 ?_
      rw [show bxor (R 10) (tT R s) = brT R s from rfl]
      refine c_X4_53 dX4_fewestLit_22 rfl (Nat.le_of_ble_eq_true rfl) (by omega) ?_
      refine wJ6_bitCount br.1 br.2 ?_
      refine pv_i ?_
      refine c_X4_33 dX4_fewestLit_25 rfl (by simp) (by omega) ?_
      refine is_2 dX4_fewestLit_28 rfl (by decide) ?_
      refine ii_3 dX4_fewestLit_29 rfl (by decide) ⟨by decide, by decide⟩ (r32 (by omega) (by omega)) ?_
      refine wp_goto 5 dX4_fewestLit_32 rfl ?_
      exact ih _ (s + 1) (by omega) (by omega) (by omega) (by rw [flN_s s0, ← hf]) hQ

theorem wX4_fewestLit {G : GT} {δ : Nat} {h hl : Nat → Int → Int} {b : Bool × Bool} {Q : V → Hp → Prop} {R : Int → Int} (hδ : δ ≤ 1680) (Sp : SP h R) (V : RV R)  (hQ : Q (vi (flN R (nSn R))) (HS h hl b)) : WP G δ 0 0 MX4_fewestLit 0 [vr (323), vi (R 10), vn, vn] [] (HS h hl b) Q := by
  obtain ⟨k4, k5, k6⟩ := Sp
  have n := V.n
  have nn := nS_e V
  refine bi_10 dX4_fewestLit_0 ?_
  refine is_2 dX4_fewestLit_2 rfl (by decide) ?_
  refine ic_0 dX4_fewestLit_3 ?_
  refine is_3 dX4_fewestLit_4 rfl (by decide) ?_
  exact wX4_fewestLit_5 (by omega) ⟨k4, k5, k6⟩ V _ 10 0 (Nat.lt_succ_self _) (by omega) (by omega) rfl hQ

theorem wX4_mostLit_4 {G : GT} {δ : Nat} {h hl : Nat → Int → Int} {b : Bool × Bool} {Q : V → Hp → Prop}  {R : Int → Int} (hδ : δ ≤ 1680) (Sp : SP h R) (V : RV R)  : ∀ (n : Nat) (f : Int) (s : Int), ((nS R - s).toNat) < n → (0 ≤ s) → (s ≤ nS R) → (f = mlN R s.toNat) → (Q (vi (mlN R (nSn R))) (HS h hl b)) → WP G δ 0 0 MX4_mostLit 4 [vr (323), vi (R 10), vi f, vi s] [] (HS h hl b) Q := by
  intro n
  induction n with
  | zero => intro f s hlt; exact absurd hlt (Nat.not_lt_zero _)
  | succ n ih =>
    intro f s hlt s0 s1 hf hQ
    obtain ⟨k4, k5, k6⟩ := Sp
    have n := V.n
    have nn := nS_e V
    have br := brT_R V s
    refine il_3 dX4_mostLit_4 ?_
    refine al_0 dX4_mostLit_5 ?_
    refine g_X4_24 dX4_mostLit_6 rfl tt323 ?_
    rw [k5]
    refine wp_icmp_ge 34 dX4_mostLit_9 rfl (fun c9 => ?_) (fun c9 => ?_)
    · have e : s = nS R := by omega
      refine il_2 dX4_mostLit_34 ?_
      refine wp_ireti dX4_mostLit_35 rfl ?_
      exact qv hQ (by rw [hf, e]; rfl)
    · refine il_2 dX4_mostLit_12 ?_
      refine il_1 dX4_mostLit_13 ?_
      refine al_0 dX4_mostLit_14 ?_
      refine g_X4_9 (324) dX4_mostLit_15 rfl tt323 (rr4_0 tt323) (by omega) ?_
      refine il_3 dX4_mostLit_18 ?_
      refine wp_iaload dX4_mostLit_19 tt324 (by omega) (by omega) ?_
      rw [k6 s s0 (by omega)]
      refine wp_ixor dX4_mostLit_20 ?_
      rw [show bxor (R 10) (tT R s) = brT R s from rfl]
      refine c_X4_53 dX4_mostLit_21 rfl (Nat.le_of_ble_eq_true rfl) (by omega) ?_
      refine wJ6_bitCount br.1 br.2 ?_
      refine pv_i ?_
      refine c_X4_58 dX4_mostLit_24 rfl (by simp) (by omega) ?_
      refine is_2 dX4_mostLit_27 rfl (by decide) ?_
      refine ii_3 dX4_mostLit_28 rfl (by decide) ⟨by decide, by decide⟩ (r32 (by omega) (by omega)) ?_
      refine wp_goto 4 dX4_mostLit_31 rfl ?_
      exact ih _ (s + 1) (by omega) (by omega) (by omega) (by rw [mlN_s s0, ← hf]) hQ

theorem wX4_mostLit {G : GT} {δ : Nat} {h hl : Nat → Int → Int} {b : Bool × Bool} {Q : V → Hp → Prop} {R : Int → Int} (hδ : δ ≤ 1680) (Sp : SP h R) (V : RV R)  (hQ : Q (vi (mlN R (nSn R))) (HS h hl b)) : WP G δ 0 0 MX4_mostLit 0 [vr (323), vi (R 10), vn, vn] [] (HS h hl b) Q := by
  obtain ⟨k4, k5, k6⟩ := Sp
  have n := V.n
  have nn := nS_e V
  refine ic_0 dX4_mostLit_0 ?_
  refine is_2 dX4_mostLit_1 rfl (by decide) ?_
  refine ic_0 dX4_mostLit_2 ?_
  refine is_3 dX4_mostLit_3 rfl (by decide) ?_
  exact wX4_mostLit_4 (by omega) ⟨k4, k5, k6⟩ V _ 0 0 (Nat.lt_succ_self _) (by omega) (by omega) rfl hQ

theorem wX4_lowestWith_5 {G : GT} {δ : Nat} {h hl : Nat → Int → Int} {b : Bool × Bool} {Q : V → Hp → Prop} {m : Int} {R : Int → Int} (hδ : δ ≤ 1680) (Sp : SP h R) (V : RV R)  : ∀ (n : Nat) (f : Int) (s : Int) (c5 : Option (Int ⊕ Int ⊕ Nat ⊕ Nat)), ((nS R - s).toNat) < n → (0 ≤ s) → (s ≤ nS R) → (f = lvN R m s.toNat) → (Q (vi (aPattern R m)) (HS h hl b)) → WP G δ 0 0 MX4_lowestWith 5 [vr (323), vi (R 10), vi m, vi f, vi s, c5] [] (HS h hl b) Q := by
  intro n
  induction n with
  | zero => intro f s c5 hlt; exact absurd hlt (Nat.not_lt_zero _)
  | succ n ih =>
    intro f s c5 hlt s0 s1 hf hQ
    obtain ⟨k4, k5, k6⟩ := Sp
    have n := V.n
    have nn := nS_e V
    have br := brT_R V s
    refine il_4 dX4_lowestWith_5 ?_
    refine al_0 dX4_lowestWith_7 ?_
    refine g_X4_24 dX4_lowestWith_8 rfl tt323 ?_
    rw [k5]
    refine wp_icmp_ge 54 dX4_lowestWith_11 rfl (fun c11 => ?_) (fun c11 => ?_)
    · have e : s = nS R := by omega
      refine il_3 dX4_lowestWith_54 ?_
      refine wp_ireti dX4_lowestWith_55 rfl ?_
      exact qv hQ (by rw [hf, e, ← pat_eq V]; rfl)
    · refine il_1 dX4_lowestWith_14 ?_
      refine al_0 dX4_lowestWith_15 ?_
      refine g_X4_9 (324) dX4_lowestWith_16 rfl tt323 (rr4_0 tt323) (by omega) ?_
      refine il_4 dX4_lowestWith_19 ?_
      refine wp_iaload dX4_lowestWith_21 tt324 (by omega) (by omega) ?_
      rw [k6 s s0 (by omega)]
      refine wp_ixor dX4_lowestWith_22 ?_
      rw [show bxor (R 10) (tT R s) = brT R s from rfl]
      refine is_5 dX4_lowestWith_23 rfl (by decide) ?_
      refine il_5 dX4_lowestWith_25 ?_
      refine c_X4_53 dX4_lowestWith_27 rfl (Nat.le_of_ble_eq_true rfl) (by omega) ?_
      refine wJ6_bitCount br.1 br.2 ?_
      refine pv_i ?_
      refine il_2 dX4_lowestWith_30 ?_
      refine wp_icmp_ne 48 dX4_lowestWith_31 rfl (fun c31 => ?_) (fun c31 => ?_)
      · refine ii_4 dX4_lowestWith_48 rfl (by decide) ⟨by decide, by decide⟩ (r32 (by omega) (by omega)) ?_
        refine wp_goto 5 dX4_lowestWith_51 rfl ?_
        refine wp_fg (ls' := [_, _, _, _, _, vn]) ⟨Or.inr rfl, Or.inr rfl, Or.inr rfl, Or.inr rfl, Or.inr rfl, Or.inl rfl, trivial⟩ ?_
        refine ih _ (s + 1) _ (by omega) (by omega) (by omega) ?_ hQ
        rw [lvN_s s0, ← hf]
        first | rw [if_pos (by omega)] | rw [if_neg (by omega)]
      · refine il_3 dX4_lowestWith_34 ?_
        refine ic_m1 dX4_lowestWith_35 ?_
        refine wp_icmp_eq 45 dX4_lowestWith_36 rfl (fun c36 => ?_) (fun c36 => ?_)
        · refine il_5 dX4_lowestWith_45 ?_
          refine is_3 dX4_lowestWith_47 rfl (by decide) ?_
          refine ii_4 dX4_lowestWith_48 rfl (by decide) ⟨by decide, by decide⟩ (r32 (by omega) (by omega)) ?_
          refine wp_goto 5 dX4_lowestWith_51 rfl ?_
          refine wp_fg (ls' := [_, _, _, _, _, vn]) ⟨Or.inr rfl, Or.inr rfl, Or.inr rfl, Or.inr rfl, Or.inr rfl, Or.inl rfl, trivial⟩ ?_
          refine ih _ (s + 1) _ (by omega) (by omega) (by omega) ?_ hQ
          rw [lvN_s s0, ← hf]
          first | rw [if_pos (by omega)] | rw [if_neg (by omega)]
        · refine il_5 dX4_lowestWith_39 ?_
          refine il_3 dX4_lowestWith_41 ?_
          refine wp_icmp_ge 48 dX4_lowestWith_42 rfl (fun c42 => ?_) (fun c42 => ?_)
          · refine ii_4 dX4_lowestWith_48 rfl (by decide) ⟨by decide, by decide⟩ (r32 (by omega) (by omega)) ?_
            refine wp_goto 5 dX4_lowestWith_51 rfl ?_
            refine wp_fg (ls' := [_, _, _, _, _, vn]) ⟨Or.inr rfl, Or.inr rfl, Or.inr rfl, Or.inr rfl, Or.inr rfl, Or.inl rfl, trivial⟩ ?_
            refine ih _ (s + 1) _ (by omega) (by omega) (by omega) ?_ hQ
            rw [lvN_s s0, ← hf]
            first | rw [if_pos (by omega)] | rw [if_neg (by omega)]
          · refine il_5 dX4_lowestWith_45 ?_
            refine is_3 dX4_lowestWith_47 rfl (by decide) ?_
            refine ii_4 dX4_lowestWith_48 rfl (by decide) ⟨by decide, by decide⟩ (r32 (by omega) (by omega)) ?_
            refine wp_goto 5 dX4_lowestWith_51 rfl ?_
            refine wp_fg (ls' := [_, _, _, _, _, vn]) ⟨Or.inr rfl, Or.inr rfl, Or.inr rfl, Or.inr rfl, Or.inr rfl, Or.inl rfl, trivial⟩ ?_
            refine ih _ (s + 1) _ (by omega) (by omega) (by omega) ?_ hQ
            rw [lvN_s s0, ← hf]
            first | rw [if_pos (by omega)] | rw [if_neg (by omega)]

theorem wX4_lowestWith {G : GT} {δ : Nat} {h hl : Nat → Int → Int} {b : Bool × Bool} {Q : V → Hp → Prop} {m : Int} {R : Int → Int} (hδ : δ ≤ 1680) (Sp : SP h R) (V : RV R)  (hQ : Q (vi (aPattern R m)) (HS h hl b)) : WP G δ 0 0 MX4_lowestWith 0 [vr (323), vi (R 10), vi m, vn, vn, vn] [] (HS h hl b) Q := by
  obtain ⟨k4, k5, k6⟩ := Sp
  have n := V.n
  have nn := nS_e V
  refine ic_m1 dX4_lowestWith_0 ?_
  refine is_3 dX4_lowestWith_1 rfl (by decide) ?_
  refine ic_0 dX4_lowestWith_2 ?_
  refine is_4 dX4_lowestWith_3 rfl (by decide) ?_
  exact wX4_lowestWith_5 (by omega) ⟨k4, k5, k6⟩ V _ (-1) 0 _ (Nat.lt_succ_self _) (by omega) (by omega) rfl hQ

theorem wX4_nearestTo_5 {G : GT} {δ : Nat} {h hl : Nat → Int → Int} {b : Bool × Bool} {Q : V → Hp → Prop} {w : Int} {R : Int → Int} (hδ : δ ≤ 1680) (Sp : SP h R) (V : RV R) (w0 : 0 ≤ w) (w1 : w ≤ 1023) : ∀ (n : Nat) (f : Int) (s : Int) (c5 : Option (Int ⊕ Int ⊕ Nat ⊕ Nat)) (c6 : Option (Int ⊕ Int ⊕ Nat ⊕ Nat)), ((nS R - s).toNat) < n → (0 ≤ s) → (s ≤ nS R) → (f = neN R w s.toNat) → (Q (vi (neN R w (nSn R))) (HS h hl b)) → WP G δ 0 0 MX4_nearestTo 5 [vr (323), vi (R 10), vi w, vi f, vi s, c5, c6] [] (HS h hl b) Q := by
  intro n
  induction n with
  | zero => intro f s c5 c6 hlt; exact absurd hlt (Nat.not_lt_zero _)
  | succ n ih =>
    intro f s c5 c6 hlt s0 s1 hf hQ
    obtain ⟨k4, k5, k6⟩ := Sp
    have n := V.n
    have nn := nS_e V
    have br := brT_R V s
    have fr := neN_R V (w := w) s.toNat
    rw [← hf] at fr
    have b1 := bxor_lt fr.1 fr.2 w0 (show w < 1024 by omega)
    have b2 := bxor_lt br.1 br.2 w0 (show w < 1024 by omega)
    have p1 := pc_R (x := bxor f w)
    have p2 := pc_R (x := bxor (brT R s) w)
    refine il_4 dX4_nearestTo_5 ?_
    refine al_0 dX4_nearestTo_7 ?_
    refine g_X4_24 dX4_nearestTo_8 rfl tt323 ?_
    rw [k5]
    refine wp_icmp_ge 66 dX4_nearestTo_11 rfl (fun c11 => ?_) (fun c11 => ?_)
    · have e : s = nS R := by omega
      refine il_3 dX4_nearestTo_66 ?_
      refine wp_ireti dX4_nearestTo_67 rfl ?_
      exact qv hQ (by rw [hf, e]; rfl)
    · refine il_1 dX4_nearestTo_14 ?_
      refine al_0 dX4_nearestTo_15 ?_
      refine g_X4_9 (324) dX4_nearestTo_16 rfl tt323 (rr4_0 tt323) (by omega) ?_
      refine il_4 dX4_nearestTo_19 ?_
      refine wp_iaload dX4_nearestTo_21 tt324 (by omega) (by omega) ?_
      rw [k6 s s0 (by omega)]
      refine wp_ixor dX4_nearestTo_22 ?_
      rw [show bxor (R 10) (tT R s) = brT R s from rfl]
      refine is_5 dX4_nearestTo_23 rfl (by decide) ?_
      refine il_3 dX4_nearestTo_25 ?_
      refine il_2 dX4_nearestTo_26 ?_
      refine wp_ixor dX4_nearestTo_27 ?_
      refine c_X4_53 dX4_nearestTo_28 rfl (Nat.le_of_ble_eq_true rfl) (by omega) ?_
      refine wJ6_bitCount b1.1 b1.2 ?_
      refine pv_i ?_
      refine il_5 dX4_nearestTo_31 ?_
      refine il_2 dX4_nearestTo_33 ?_
      refine wp_ixor dX4_nearestTo_34 ?_
      refine c_X4_53 dX4_nearestTo_35 rfl (Nat.le_of_ble_eq_true rfl) (by omega) ?_
      refine wJ6_bitCount b2.1 b2.2 ?_
      refine pv_i ?_
      refine wp_isub dX4_nearestTo_38 (r32 (by omega) (by omega)) ?_
      refine is_6 dX4_nearestTo_39 rfl (by decide) ?_
      refine il_6 dX4_nearestTo_41 ?_
      refine wp_if_gt 57 dX4_nearestTo_43 rfl (fun c43 => ?_) (fun c43 => ?_)
      · refine il_5 dX4_nearestTo_57 ?_
        refine is_3 dX4_nearestTo_59 rfl (by decide) ?_
        refine ii_4 dX4_nearestTo_60 rfl (by decide) ⟨by decide, by decide⟩ (r32 (by omega) (by omega)) ?_
        refine wp_goto 5 dX4_nearestTo_63 rfl ?_
        refine wp_fg (ls' := [_, _, _, _, _, vn, vn]) ⟨Or.inr rfl, Or.inr rfl, Or.inr rfl, Or.inr rfl, Or.inr rfl, Or.inl rfl, Or.inl rfl, trivial⟩ ?_
        refine ih _ (s + 1) _ _ (by omega) (by omega) (by omega) ?_ hQ
        rw [neN_s s0, ← hf]
        first | rw [if_pos (by omega)] | rw [if_neg (by omega)]
      · refine il_6 dX4_nearestTo_46 ?_
        refine wp_if_ne 60 dX4_nearestTo_48 rfl (fun c48 => ?_) (fun c48 => ?_)
        · refine ii_4 dX4_nearestTo_60 rfl (by decide) ⟨by decide, by decide⟩ (r32 (by omega) (by omega)) ?_
          refine wp_goto 5 dX4_nearestTo_63 rfl ?_
          refine wp_fg (ls' := [_, _, _, _, _, vn, vn]) ⟨Or.inr rfl, Or.inr rfl, Or.inr rfl, Or.inr rfl, Or.inr rfl, Or.inl rfl, Or.inl rfl, trivial⟩ ?_
          refine ih _ (s + 1) _ _ (by omega) (by omega) (by omega) ?_ hQ
          rw [neN_s s0, ← hf]
          first | rw [if_pos (by omega)] | rw [if_neg (by omega)]
        · refine il_5 dX4_nearestTo_51 ?_
          refine il_3 dX4_nearestTo_53 ?_
          refine wp_icmp_ge 60 dX4_nearestTo_54 rfl (fun c54 => ?_) (fun c54 => ?_)
          · refine ii_4 dX4_nearestTo_60 rfl (by decide) ⟨by decide, by decide⟩ (r32 (by omega) (by omega)) ?_
            refine wp_goto 5 dX4_nearestTo_63 rfl ?_
            refine wp_fg (ls' := [_, _, _, _, _, vn, vn]) ⟨Or.inr rfl, Or.inr rfl, Or.inr rfl, Or.inr rfl, Or.inr rfl, Or.inl rfl, Or.inl rfl, trivial⟩ ?_
            refine ih _ (s + 1) _ _ (by omega) (by omega) (by omega) ?_ hQ
            rw [neN_s s0, ← hf]
            first | rw [if_pos (by omega)] | rw [if_neg (by omega)]
          · refine il_5 dX4_nearestTo_57 ?_
            refine is_3 dX4_nearestTo_59 rfl (by decide) ?_
            refine ii_4 dX4_nearestTo_60 rfl (by decide) ⟨by decide, by decide⟩ (r32 (by omega) (by omega)) ?_
            refine wp_goto 5 dX4_nearestTo_63 rfl ?_
            refine wp_fg (ls' := [_, _, _, _, _, vn, vn]) ⟨Or.inr rfl, Or.inr rfl, Or.inr rfl, Or.inr rfl, Or.inr rfl, Or.inl rfl, Or.inl rfl, trivial⟩ ?_
            refine ih _ (s + 1) _ _ (by omega) (by omega) (by omega) ?_ hQ
            rw [neN_s s0, ← hf]
            first | rw [if_pos (by omega)] | rw [if_neg (by omega)]

theorem wX4_nearestTo {G : GT} {δ : Nat} {h hl : Nat → Int → Int} {b : Bool × Bool} {Q : V → Hp → Prop} {w : Int} {R : Int → Int} (hδ : δ ≤ 1680) (Sp : SP h R) (V : RV R) (w0 : 0 ≤ w) (w1 : w ≤ 1023) (hQ : Q (vi (neN R w (nSn R))) (HS h hl b)) : WP G δ 0 0 MX4_nearestTo 0 [vr (323), vi (R 10), vi w, vn, vn, vn, vn] [] (HS h hl b) Q := by
  obtain ⟨k4, k5, k6⟩ := Sp
  have n := V.n
  have nn := nS_e V
  refine il_1 dX4_nearestTo_0 ?_
  refine is_3 dX4_nearestTo_1 rfl (by decide) ?_
  refine ic_0 dX4_nearestTo_2 ?_
  refine is_4 dX4_nearestTo_3 rfl (by decide) ?_
  exact wX4_nearestTo_5 (by omega) ⟨k4, k5, k6⟩ V w0 w1 _ (R 10) 0 _ _ (Nat.lt_succ_self _) (by omega) (by omega) rfl hQ

theorem wX8_pattern {G : GT} {δ : Nat} {h hl : Nat → Int → Int} {b : Bool × Bool} {Q : V → Hp → Prop} {m : Int} {R : Int → Int} {L : Laws} (hδ : δ ≤ 1640) (C : CT h R L) (z0 : h 324 0 = 0) (hQ : ∀ h' : Nat → Int → Int, eqS h h' → h' 324 0 = 0 → Q (vi (aPattern R m)) (HS h' hl b)) : WP G δ 0 0 MX8_pattern 0 [vr (1), vi m] [] (HS h hl b) Q := by
  obtain ⟨⟨s0, s3, s4, s1, s2, s5⟩, ⟨t0, t1, t5, t6, t7⟩, ⟨g7, g8, g11, g10, g10x⟩⟩ := C.1.f
  have vn' := C.2.1.n
  have vw := C.2.1.w
  refine al_0 dX8_pattern_0 ?_
  refine c_X8_195 dX8_pattern_1 rfl tt1 (Nat.le_of_ble_eq_true rfl) (by omega) ?_
  refine wX8_setsNow (by omega) C z0 (fun h1 E1 Sp1 => ?_)
  have C1 := C.sx E1
  have V := C.2.1
  have q1 : h1 3 1 = R 10 := C1.1.f.1.2.2.2.1
  refine pv_r ?_
  refine al_0 dX8_pattern_4 ?_
  refine g_X8_12 (2) dX8_pattern_5 rfl tt1 (rr8_0 tt1) (by omega) ?_
  refine g_X8_112 (3) dX8_pattern_8 rfl tt2 (rr7_0 tt2) (by omega) ?_
  refine g_X8_170 dX8_pattern_11 rfl tt3 ?_
  rw [q1]
  refine il_1 dX8_pattern_14 ?_
  refine c_X8_228 dX8_pattern_15 rfl tt323 (Nat.le_of_ble_eq_true rfl) (by omega) ?_
  refine wX4_lowestWith (by omega) Sp1 V ?_
  refine pv_i ?_
  refine wp_ireti dX8_pattern_18 rfl ?_
  exact hQ h1 E1 (by rw [Sp1.2.2 0 (by omega) (by have := nS_e V; omega)]; exact tT_0)

theorem wX8_nearest {G : GT} {δ : Nat} {h hl : Nat → Int → Int} {b : Bool × Bool} {Q : V → Hp → Prop} {w : Int} {R : Int → Int} {L : Laws} (hδ : δ ≤ 1640) (C : CT h R L) (z0 : h 324 0 = 0) (hQ : ∀ h' : Nat → Int → Int, eqS h h' → h' 324 0 = 0 → Q (vi (aNearest R w)) (HS h' hl b)) : WP G δ 0 0 MX8_nearest 0 [vr (1), vi w] [] (HS h hl b) Q := by
  obtain ⟨⟨s0, s3, s4, s1, s2, s5⟩, ⟨t0, t1, t5, t6, t7⟩, ⟨g7, g8, g11, g10, g10x⟩⟩ := C.1.f
  have vn' := C.2.1.n
  have vw := C.2.1.w
  refine il_1 dX8_nearest_0 ?_
  refine c_X8_207 dX8_nearest_1 rfl (Nat.le_of_ble_eq_true rfl) (by omega) ?_
  refine wX8_areLamps (by omega) ?_
  refine pv_i ?_
  refine wp_if_eq 28 dX8_nearest_4 rfl (fun c4 => ?_) (fun c4 => ?_)
  · rw [b2i_0] at c4
    refine ic_m1 dX8_nearest_28 ?_
    refine wp_ireti dX8_nearest_29 rfl ?_
    first
      | exact qv (hQ h1 E1 (by rw [Sp1.2.2 0 (by omega) (by have := nS_e V; omega)]; exact tT_0)) (by unfold aNearest; rw [if_pos c4])
      | exact qv (hQ h (fun _ _ => rfl) z0) (by unfold aNearest; rw [if_neg c4])
  · rw [b2i_n0] at c4
    refine al_0 dX8_nearest_7 ?_
    refine c_X8_195 dX8_nearest_8 rfl tt1 (Nat.le_of_ble_eq_true rfl) (by omega) ?_
    refine wX8_setsNow (by omega) C z0 (fun h1 E1 Sp1 => ?_)
    have C1 := C.sx E1
    have V := C.2.1
    have q1 : h1 3 1 = R 10 := C1.1.f.1.2.2.2.1
    refine pv_r ?_
    refine al_0 dX8_nearest_11 ?_
    refine g_X8_12 (2) dX8_nearest_12 rfl tt1 (rr8_0 tt1) (by omega) ?_
    refine g_X8_112 (3) dX8_nearest_15 rfl tt2 (rr7_0 tt2) (by omega) ?_
    refine g_X8_170 dX8_nearest_18 rfl tt3 ?_
    rw [q1]
    refine il_1 dX8_nearest_21 ?_
    refine c_X8_237 dX8_nearest_22 rfl tt323 (Nat.le_of_ble_eq_true rfl) (by omega) ?_
    refine wX4_nearestTo (by omega) Sp1 V (by omega) (by omega) ?_
    refine pv_i ?_
    refine wp_goto 29 dX8_nearest_25 rfl ?_
    refine wp_ireti dX8_nearest_29 rfl ?_
    first
      | exact qv (hQ h1 E1 (by rw [Sp1.2.2 0 (by omega) (by have := nS_e V; omega)]; exact tT_0)) (by unfold aNearest; rw [if_pos c4])
      | exact qv (hQ h (fun _ _ => rfl) z0) (by unfold aNearest; rw [if_neg c4])

def aReach (R : Int → Int) (w : Int) : Int := if w = 0 then shl 1 (pc (aBasis R)) else if w = 1 then flN R (nSn R) else if w = 2 then mlN R (nSn R) else -1

theorem wX8_reach {G : GT} {δ : Nat} {h hl : Nat → Int → Int} {b : Bool × Bool} {Q : V → Hp → Prop} {w : Int} {R : Int → Int} {L : Laws} (hδ : δ ≤ 1640) (C : CT h R L) (z0 : h 324 0 = 0) (hQ : ∀ h' : Nat → Int → Int, eqS h h' → h' 324 0 = 0 → Q (vi (aReach R w)) (HS h' hl b)) : WP G δ 0 0 MX8_reach 0 [vr (1), vi w, vn] [] (HS h hl b) Q := by
  obtain ⟨⟨s0, s3, s4, s1, s2, s5⟩, ⟨t0, t1, t5, t6, t7⟩, ⟨g7, g8, g11, g10, g10x⟩⟩ := C.1.f
  have vn' := C.2.1.n
  have vw := C.2.1.w
  refine al_0 dX8_reach_0 ?_
  refine c_X8_195 dX8_reach_1 rfl tt1 (Nat.le_of_ble_eq_true rfl) (by omega) ?_
  refine wX8_setsNow (by omega) C z0 (fun h1 E1 Sp1 => ?_)
  have C1 := C.sx E1
  have V := C.2.1
  have q1 : h1 3 1 = R 10 := C1.1.f.1.2.2.2.1
  refine pv_r ?_
  refine as_2 dX8_reach_4 rfl (by decide) ?_
  refine il_1 dX8_reach_5 ?_
  rcases (show ((w) < 0 ∨ 2 < (w)) ∨ ((w) = 0) ∨ ((w) = 1) ∨ ((w) = 2) by omega) with c6 | c6 | c6 | c6
  · refine wp_tswD 72 dX8_reach_6 (by omega) rfl ?_
    refine ic_m1 dX8_reach_72 ?_
    refine wp_ireti dX8_reach_73 rfl ?_
    refine qv (hQ h1 E1 (by rw [Sp1.2.2 0 (by omega) (by have := nS_e V; omega)]; exact tT_0)) ?_
    unfold aReach
    repeat first | rw [if_pos (by omega)] | rw [if_neg (by omega)]
  · refine wp_tsw 32 dX8_reach_6 (by omega) (by omega) (26) (by rw [c6]; rfl) rfl ?_
    refine ic_1 dX8_reach_32 ?_
    refine al_2 dX8_reach_33 ?_
    refine c_X8_199 dX8_reach_34 rfl tt323 (Nat.le_of_ble_eq_true rfl) (by omega) ?_
    refine wX4_independent (by omega) Sp1 V ?_
    refine pv_i ?_
    refine c_X8_202 dX8_reach_37 rfl (Nat.le_of_ble_eq_true rfl) (by omega) ?_
    have br := basis_R V (R 1).toNat (by omega)
    refine wJ6_bitCount (show 0 ≤ aBasis R from br.1) (show aBasis R < 1024 by unfold aBasis; omega) ?_
    refine pv_i ?_
    refine wp_ishl dX8_reach_40 ?_
    refine wp_ireti dX8_reach_41 rfl ?_
    refine qv (hQ h1 E1 (by rw [Sp1.2.2 0 (by omega) (by have := nS_e V; omega)]; exact tT_0)) ?_
    unfold aReach
    repeat first | rw [if_pos (by omega)] | rw [if_neg (by omega)]
  · refine wp_tsw 42 dX8_reach_6 (by omega) (by omega) (36) (by rw [c6]; rfl) rfl ?_
    refine al_2 dX8_reach_42 ?_
    refine al_0 dX8_reach_43 ?_
    refine g_X8_12 (2) dX8_reach_44 rfl tt1 (rr8_0 tt1) (by omega) ?_
    refine g_X8_112 (3) dX8_reach_47 rfl tt2 (rr7_0 tt2) (by omega) ?_
    refine g_X8_170 dX8_reach_50 rfl tt3 ?_
    rw [q1]
    refine c_X8_222 dX8_reach_53 rfl tt323 (Nat.le_of_ble_eq_true rfl) (by omega) ?_
    refine wX4_fewestLit (by omega) Sp1 V ?_
    refine pv_i ?_
    refine wp_ireti dX8_reach_56 rfl ?_
    refine qv (hQ h1 E1 (by rw [Sp1.2.2 0 (by omega) (by have := nS_e V; omega)]; exact tT_0)) ?_
    unfold aReach
    repeat first | rw [if_pos (by omega)] | rw [if_neg (by omega)]
  · refine wp_tsw 57 dX8_reach_6 (by omega) (by omega) (51) (by rw [c6]; rfl) rfl ?_
    refine al_2 dX8_reach_57 ?_
    refine al_0 dX8_reach_58 ?_
    refine g_X8_12 (2) dX8_reach_59 rfl tt1 (rr8_0 tt1) (by omega) ?_
    refine g_X8_112 (3) dX8_reach_62 rfl tt2 (rr7_0 tt2) (by omega) ?_
    refine g_X8_170 dX8_reach_65 rfl tt3 ?_
    rw [q1]
    refine c_X8_225 dX8_reach_68 rfl tt323 (Nat.le_of_ble_eq_true rfl) (by omega) ?_
    refine wX4_mostLit (by omega) Sp1 V ?_
    refine pv_i ?_
    refine wp_ireti dX8_reach_71 rfl ?_
    refine qv (hQ h1 E1 (by rw [Sp1.2.2 0 (by omega) (by have := nS_e V; omega)]; exact tT_0)) ?_
    unfold aReach
    repeat first | rw [if_pos (by omega)] | rw [if_neg (by omega)]

theorem wX9_layReached_2 {G : GT} {δ : Nat} {hl : Nat → Int → Int} {b : Bool × Bool} {Q : V → Hp → Prop} {h0 : Nat → Int → Int} (hδ : δ ≤ 1660)  : ∀ (n : Nat) (p : Int) (h : Nat → Int → Int), ((1024 - p).toNat) < n → (0 ≤ p) → (p ≤ 1024) → (eqX [346] h0 h) → (∀ j : Int, 0 ≤ j → j < p → h 346 j = 0) → (∀ h' : Nat → Int → Int, eqX [346] h0 h' → (∀ j : Int, 0 ≤ j → j < 1024 → h' 346 j = 0) → WP G δ 0 0 MX9_layReached 22 [vr 336, vn] [] (HS h' hl b) Q) → WP G δ 0 0 MX9_layReached 2 [vr (336), vi p] [] (HS h hl b) Q := by
  intro n
  induction n with
  | zero => intro p h hlt; exact absurd hlt (Nat.not_lt_zero _)
  | succ n ih =>
    intro p h hlt p0 p1 E A hQ
    refine il_1 dX9_layReached_2 ?_
    refine si_1024 dX9_layReached_3 ?_
    refine wp_icmp_ge 22 dX9_layReached_6 rfl (fun c6 => ?_) (fun c6 => ?_)
    · have e : p = 1024 := by omega
      subst e
      refine wp_fg (ls' := [_, vn]) ⟨Or.inr rfl, Or.inl rfl, trivial⟩ ?_
      exact hQ h E A
    · refine al_0 dX9_layReached_9 ?_
      refine g_X9_50 (346) dX9_layReached_10 rfl tt336 (rr9_26 tt336) (by omega) ?_
      refine il_1 dX9_layReached_13 ?_
      refine ic_0 dX9_layReached_14 ?_
      refine wp_zastore dX9_layReached_15 tt346 (by omega) (by omega) (Or.inl rfl) ?_
      refine ii_1 dX9_layReached_16 rfl (by decide) ⟨by decide, by decide⟩ (r32 (by omega) (by omega)) ?_
      refine wp_goto 2 dX9_layReached_19 rfl ?_
      refine ih (p + 1) _ (by omega) (by omega) (by omega) (E.up (by decide)) (fun j j0 j1 => ?_) hQ
      by_cases e : j = p
      · rw [e, up_s]
      · rw [up_k e]; exact A j j0 (by omega)

theorem wX9_layReached_24 {G : GT} {δ : Nat} {hl : Nat → Int → Int} {b : Bool × Bool} {Q : V → Hp → Prop} {h0 : Nat → Int → Int} {R : Int → Int} {L : Laws} (hδ : δ ≤ 1660) (M0 : MT h0 R L) : ∀ (n : Nat) (s : Int) (h : Nat → Int → Int), ((nS R - s).toNat) < n → (0 ≤ s) → (s ≤ nS R) → (eqX [346] h0 h) → (∀ p : Int, 0 ≤ p → p < 1024 → h 346 p = if anyN (fun t => brT R t == p) s.toNat = true then 1 else 0) → (∀ h' : Nat → Int → Int, eqX [346] h0 h' → (∀ p : Int, 0 ≤ p → p < 1024 → h' 346 p = if reP R p = true then 1 else 0) → Q vn (HS h' hl b)) → WP G δ 0 0 MX9_layReached 24 [vr (336), vi s] [] (HS h hl b) Q := by
  intro n
  induction n with
  | zero => intro s h hlt; exact absurd hlt (Nat.not_lt_zero _)
  | succ n ih =>
    intro s h hlt s0 s1 E A hQ
    have M := M0.x E (by decide) (by decide)
    have m := M.1
    have V := M.2.1
    have vn' := V.n
    have vw := V.w
    have nn := nS_e V
    have br := brT_R V s
    refine il_1 dX9_layReached_24 ?_
    refine al_0 dX9_layReached_25 ?_
    refine c_X9_402 dX9_layReached_26 rfl tt336 (Nat.le_of_ble_eq_true rfl) (by omega) ?_
    refine wX9_sets (by omega) ?_
    rw [m, show shl 1 (R 1) = nS R from rfl]
    refine pv_i ?_
    refine wp_icmp_ge 57 dX9_layReached_29 rfl (fun c29 => ?_) (fun c29 => ?_)
    · have e : s = nS R := by omega
      refine wp_vret dX9_layReached_57 rfl ?_
      refine hQ h E (fun p p0 p1 => ?_)
      rw [A p p0 p1, e]; rfl
    · refine al_0 dX9_layReached_32 ?_
      refine g_X9_50 (346) dX9_layReached_33 rfl tt336 (rr9_26 tt336) (by omega) ?_
      refine al_0 dX9_layReached_36 ?_
      refine il_1 dX9_layReached_37 ?_
      refine c_X9_393 dX9_layReached_38 rfl tt336 (Nat.le_of_ble_eq_true rfl) (by omega) ?_
      refine wX9_turned (by omega) (by rw [m]; omega) (by rw [m]; omega) (by rw [m]; exact V.di) (by omega) (by omega) ?_
      rw [m, show tuM (fun i => R (29 + i)) _ (R 1).toNat = tT R _ from rfl]
      refine pv_i ?_
      refine al_0 dX9_layReached_41 ?_
      refine g_X9_7 (337) dX9_layReached_42 rfl tt336 (rr9_0 tt336) (by omega) ?_
      refine bi_10 dX9_layReached_45 ?_
      refine wp_iaload dX9_layReached_47 tt337 (by omega) (by omega) ?_
      first | rw [m2] | rw [m1] | rw [m] | rw [sw_s] | skip
      refine wp_ixor dX9_layReached_48 ?_
      rw [bxor_comm, show bxor (R 10) (tT R s) = brT R s from rfl]
      refine ic_1 dX9_layReached_49 ?_
      refine wp_zastore dX9_layReached_50 tt346 (by omega) (by omega) (Or.inr rfl) ?_
      refine ii_1 dX9_layReached_51 rfl (by decide) ⟨by decide, by decide⟩ (r32 (by omega) (by omega)) ?_
      refine wp_goto 24 dX9_layReached_54 rfl ?_
      refine ih (s + 1) _ (by omega) (by omega) (by omega) (E.up (by decide)) (fun p p0 p1 => ?_) hQ
      rw [anyN_s s0]
      by_cases e : p = brT R s
      · rw [e, up_s, show (brT R s == brT R s) = true from beq_self_eq_true _, Bool.or_true, if_pos rfl]
      · rw [up_k e, A p p0 p1, show (brT R s == p) = false from by simpa using fun z => e z.symm, Bool.or_false]

theorem wX9_layReached {G : GT} {δ : Nat} {h hl : Nat → Int → Int} {b : Bool × Bool} {Q : V → Hp → Prop} {R : Int → Int} {L : Laws} (hδ : δ ≤ 1660) (M : MT h R L)  (hQ : ∀ h' : Nat → Int → Int, eqX [346] h h' → (∀ p : Int, 0 ≤ p → p < 1024 → h' 346 p = if reP R p = true then 1 else 0) → Q vn (HS h' hl b)) : WP G δ 0 0 MX9_layReached 0 [vr (336), vn] [] (HS h hl b) Q := by
  have m := M.1
  have V := M.2.1
  have vn' := V.n
  have vw := V.w
  have nn := nS_e V
  refine ic_0 dX9_layReached_0 ?_
  refine is_1 dX9_layReached_1 rfl (by decide) ?_
  refine wX9_layReached_2 (by omega) _ 0 h (Nat.lt_succ_self _) (by omega) (by omega) eqX.rf (fun j j0 j1 => by omega) (fun h1 E1 A1 => ?_)
  refine ic_0 dX9_layReached_22 ?_
  refine is_1 dX9_layReached_23 rfl (by decide) ?_
  refine wX9_layReached_24 (by omega) (M.x E1 (by decide) (by decide)) _ 0 h1 (Nat.lt_succ_self _) (by omega) (by omega) eqX.rf (fun p p0 p1 => by rw [A1 p p0 p1]; rfl) (fun h2 E2 A2 => ?_)
  exact hQ h2 (E1.tr E2) A2

theorem wX9_pattern_6 {G : GT} {δ : Nat} {h hl : Nat → Int → Int} {b : Bool × Bool} {Q : V → Hp → Prop} {m0 : Int} {R : Int → Int} {L : Laws} (hδ : δ ≤ 1640) (M : MT h R L) (A : ∀ p : Int, 0 ≤ p → p < 1024 → h 346 p = if reP R p = true then 1 else 0) : ∀ (n : Nat) (p : Int), ((1024 - p).toNat) < n → (0 ≤ p) → (p ≤ 1024) → (∀ i : Int, 0 ≤ i → i < p → paP R m0 i = false) → (Q (vi (aPattern R m0)) (HS h hl b)) → WP G δ 0 0 MX9_pattern 6 [vr (336), vi m0, vi p] [] (HS h hl b) Q := by
  intro n
  induction n with
  | zero => intro p hlt; exact absurd hlt (Nat.not_lt_zero _)
  | succ n ih =>
    intro p hlt p0 p1 hm hQ
    have m := M.1
    have V := M.2.1
    have vn' := V.n
    have vw := V.w
    have nn := nS_e V
    refine il_2 dX9_pattern_6 ?_
    refine si_1024 dX9_pattern_7 ?_
    refine wp_icmp_ge 38 dX9_pattern_10 rfl (fun c10 => ?_) (fun c10 => ?_)
    · have e : p = 1024 := by omega
      refine ic_m1 dX9_pattern_38 ?_
      refine wp_ireti dX9_pattern_39 rfl ?_
      exact qv hQ (loN_miss _ (fun i a c => hm i a (by omega)))
    · refine al_0 dX9_pattern_13 ?_
      refine g_X9_50 (346) dX9_pattern_14 rfl tt336 (rr9_26 tt336) (by omega) ?_
      refine il_2 dX9_pattern_17 ?_
      refine wp_zaload dX9_pattern_18 tt346 (by omega) (by omega) ?_
      rw [A p p0 (by omega)]
      refine wp_if_eq 32 dX9_pattern_19 rfl (fun c19 => ?_) (fun c19 => ?_)
      · refine ii_2 dX9_pattern_32 rfl (by decide) ⟨by decide, by decide⟩ (r32 (by omega) (by omega)) ?_
        refine wp_goto 6 dX9_pattern_35 rfl ?_
        refine ih (p + 1) (by omega) (by omega) (by omega) (fun i i0 i1 => ?_) hQ
        by_cases e : i = p
        · subst e
          unfold paP
          first
            | (cases z : reP R i with
               | false => rfl
               | true => rw [z] at c19; exact absurd c19 (by decide))
            | (rw [show (pc i == m0) = false from by simpa using c27, Bool.and_false])
        · exact hm i i0 (by omega)
      · refine il_2 dX9_pattern_22 ?_
        refine c_X9_298 dX9_pattern_23 rfl (Nat.le_of_ble_eq_true rfl) (by omega) ?_
        refine wX9_bits (by omega) (by omega) (by omega) ?_
        refine pv_i ?_
        refine il_1 dX9_pattern_26 ?_
        refine wp_icmp_ne 32 dX9_pattern_27 rfl (fun c27 => ?_) (fun c27 => ?_)
        · refine ii_2 dX9_pattern_32 rfl (by decide) ⟨by decide, by decide⟩ (r32 (by omega) (by omega)) ?_
          refine wp_goto 6 dX9_pattern_35 rfl ?_
          refine ih (p + 1) (by omega) (by omega) (by omega) (fun i i0 i1 => ?_) hQ
          by_cases e : i = p
          · subst e
            unfold paP
            first
              | (cases z : reP R i with
                 | false => rfl
                 | true => rw [z] at c19; exact absurd c19 (by decide))
              | (rw [show (pc i == m0) = false from by simpa using c27, Bool.and_false])
          · exact hm i i0 (by omega)
        · refine il_2 dX9_pattern_30 ?_
          refine wp_ireti dX9_pattern_31 rfl ?_
          obtain ⟨k, ek⟩ := Int.eq_ofNat_of_zero_le p0
          have kk : paP R m0 p = true := by
            unfold paP
            cases z : reP R p with
            | false => rw [z] at c19; exact absurd rfl c19
            | true => rw [c27]; simp
          exact qv hQ (by unfold aPattern; rw [loN_hit (s := k) (by rw [← ek]; exact kk) (fun i a c => hm i a (by omega)) 1024 (by omega), ek])

theorem wX9_pattern {G : GT} {δ : Nat} {h hl : Nat → Int → Int} {b : Bool × Bool} {Q : V → Hp → Prop} {m0 : Int} {R : Int → Int} {L : Laws} (hδ : δ ≤ 1640) (M : MT h R L)  (hQ : ∀ h' : Nat → Int → Int, eqX [346] h h' → Q (vi (aPattern R m0)) (HS h' hl b)) : WP G δ 0 0 MX9_pattern 0 [vr (336), vi m0, vn] [] (HS h hl b) Q := by
  have m := M.1
  have V := M.2.1
  have vn' := V.n
  have vw := V.w
  refine al_0 dX9_pattern_0 ?_
  refine c_X9_405 dX9_pattern_1 rfl tt336 (Nat.le_of_ble_eq_true rfl) (by omega) ?_
  refine wX9_layReached (by omega) M (fun h1 E1 A1 => ?_)
  have M1 := M.x E1 (by decide) (by decide)
  refine pv_n ?_
  refine ic_0 dX9_pattern_4 ?_
  refine is_2 dX9_pattern_5 rfl (by decide) ?_
  exact wX9_pattern_6 (by omega) M1 A1 _ 0 (Nat.lt_succ_self _) (by omega) (by omega) (fun i a c => by omega) (hQ h1 E1)

theorem wX9_nearest_17 {G : GT} {δ : Nat} {h hl : Nat → Int → Int} {b : Bool × Bool} {Q : V → Hp → Prop} {w : Int} {R : Int → Int} {L : Laws} (hδ : δ ≤ 1640) (M : MT h R L) (A : ∀ p : Int, 0 ≤ p → p < 1024 → h 346 p = if reP R p = true then 1 else 0) (w0 : 0 ≤ w) (w1 : w ≤ 1023) : ∀ (n : Nat) (f : Int) (p : Int), ((1024 - p).toNat) < n → (0 ≤ p) → (p ≤ 1024) → (f = nmN R w p.toNat) → (Q (vi (nmN R w 1024)) (HS h hl b)) → WP G δ 0 0 MX9_nearest 17 [vr (336), vi w, vi f, vi p] [] (HS h hl b) Q := by
  intro n
  induction n with
  | zero => intro f p hlt; exact absurd hlt (Nat.not_lt_zero _)
  | succ n ih =>
    intro f p hlt p0 p1 hf hQ
    have m := M.1
    have V := M.2.1
    have vn' := V.n
    have vw := V.w
    have nn := nS_e V
    have fr := nmN_R (R := R) (w := w) p.toNat
    rw [← hf] at fr
    refine il_3 dX9_nearest_17 ?_
    refine si_1024 dX9_nearest_18 ?_
    refine wp_icmp_ge 61 dX9_nearest_21 rfl (fun c21 => ?_) (fun c21 => ?_)
    · have e : p = 1024 := by omega
      refine il_2 dX9_nearest_61 ?_
      refine wp_ireti dX9_nearest_62 rfl ?_
      exact qv hQ (by rw [hf, e]; rfl)
    · refine al_0 dX9_nearest_24 ?_
      refine g_X9_50 (346) dX9_nearest_25 rfl tt336 (rr9_26 tt336) (by omega) ?_
      refine il_3 dX9_nearest_28 ?_
      refine wp_zaload dX9_nearest_29 tt346 (by omega) (by omega) ?_
      rw [A p p0 (by omega)]
      refine wp_if_eq 55 dX9_nearest_30 rfl (fun c30 => ?_) (fun c30 => ?_)
      · have rp : ¬ reP R p = true := fun z => by rw [if_pos z] at c30; exact absurd c30 (by decide)
        refine ii_3 dX9_nearest_55 rfl (by decide) ⟨by decide, by decide⟩ (r32 (by omega) (by omega)) ?_
        refine wp_goto 17 dX9_nearest_58 rfl ?_
        refine ih _ (p + 1) (by omega) (by omega) (by omega) ?_ hQ
        rw [nmN_s p0, ← hf]
        first
          | rw [if_neg (fun z => rp z.1)]
          | rw [if_pos (And.intro rp (show f = -1 ∨ pc (bxor p w) < pc (bxor f w) by omega))]
          | rw [if_neg (fun z => by have := z.2; omega)]
      · have rp : reP R p = true := by
          cases z : reP R p with
          | true => rfl
          | false => rw [z] at c30; exact absurd rfl c30
        refine il_2 dX9_nearest_33 ?_
        refine ic_m1 dX9_nearest_34 ?_
        refine wp_icmp_eq 53 dX9_nearest_35 rfl (fun c35 => ?_) (fun c35 => ?_)
        · refine il_3 dX9_nearest_53 ?_
          refine is_2 dX9_nearest_54 rfl (by decide) ?_
          refine ii_3 dX9_nearest_55 rfl (by decide) ⟨by decide, by decide⟩ (r32 (by omega) (by omega)) ?_
          refine wp_goto 17 dX9_nearest_58 rfl ?_
          refine ih _ (p + 1) (by omega) (by omega) (by omega) ?_ hQ
          rw [nmN_s p0, ← hf]
          first
            | rw [if_neg (fun z => rp z.1)]
            | rw [if_pos (And.intro rp (show f = -1 ∨ pc (bxor p w) < pc (bxor f w) by omega))]
            | rw [if_neg (fun z => by have := z.2; omega)]
        · refine il_3 dX9_nearest_38 ?_
          refine il_1 dX9_nearest_39 ?_
          refine wp_ixor dX9_nearest_40 ?_
          refine c_X9_298 dX9_nearest_41 rfl (Nat.le_of_ble_eq_true rfl) (by omega) ?_
          have b1 := bxor_lt p0 (show p < 1024 by omega) w0 (show w < 1024 by omega)
          refine wX9_bits (by omega) b1.1 b1.2 ?_
          refine pv_i ?_
          refine il_2 dX9_nearest_44 ?_
          refine il_1 dX9_nearest_45 ?_
          refine wp_ixor dX9_nearest_46 ?_
          refine c_X9_298 dX9_nearest_47 rfl (Nat.le_of_ble_eq_true rfl) (by omega) ?_
          have b2 := bxor_lt (show 0 ≤ f by omega) (show f < 1024 by omega) w0 (show w < 1024 by omega)
          refine wX9_bits (by omega) b2.1 b2.2 ?_
          refine pv_i ?_
          refine wp_icmp_ge 55 dX9_nearest_50 rfl (fun c50 => ?_) (fun c50 => ?_)
          · refine ii_3 dX9_nearest_55 rfl (by decide) ⟨by decide, by decide⟩ (r32 (by omega) (by omega)) ?_
            refine wp_goto 17 dX9_nearest_58 rfl ?_
            refine ih _ (p + 1) (by omega) (by omega) (by omega) ?_ hQ
            rw [nmN_s p0, ← hf]
            first
              | rw [if_neg (fun z => rp z.1)]
              | rw [if_pos (And.intro rp (show f = -1 ∨ pc (bxor p w) < pc (bxor f w) by omega))]
              | rw [if_neg (fun z => by have := z.2; omega)]
          · refine il_3 dX9_nearest_53 ?_
            refine is_2 dX9_nearest_54 rfl (by decide) ?_
            refine ii_3 dX9_nearest_55 rfl (by decide) ⟨by decide, by decide⟩ (r32 (by omega) (by omega)) ?_
            refine wp_goto 17 dX9_nearest_58 rfl ?_
            refine ih _ (p + 1) (by omega) (by omega) (by omega) ?_ hQ
            rw [nmN_s p0, ← hf]
            first
              | rw [if_neg (fun z => rp z.1)]
              | rw [if_pos (And.intro rp (show f = -1 ∨ pc (bxor p w) < pc (bxor f w) by omega))]
              | rw [if_neg (fun z => by have := z.2; omega)]

theorem wX9_nearest {G : GT} {δ : Nat} {h hl : Nat → Int → Int} {b : Bool × Bool} {Q : V → Hp → Prop} {w : Int} {R : Int → Int} {L : Laws} (hδ : δ ≤ 1640) (M : MT h R L)  (hQ : ∀ h' : Nat → Int → Int, eqX [346] h h' → Q (vi (aNearest R w)) (HS h' hl b)) : WP G δ 0 0 MX9_nearest 0 [vr (336), vi w, vn, vn] [] (HS h hl b) Q := by
  have m := M.1
  have V := M.2.1
  have vn' := V.n
  have vw := V.w
  refine il_1 dX9_nearest_0 ?_
  refine c_X9_81 dX9_nearest_1 rfl (Nat.le_of_ble_eq_true rfl) (by omega) ?_
  refine wX9_isPattern (by omega) ?_
  refine pv_i ?_
  refine wp_if_ne 9 dX9_nearest_4 rfl (fun c4 => ?_) (fun c4 => ?_)
  · rw [b2i_n0] at c4
    refine al_0 dX9_nearest_9 ?_
    refine c_X9_405 dX9_nearest_10 rfl tt336 (Nat.le_of_ble_eq_true rfl) (by omega) ?_
    refine wX9_layReached (by omega) M (fun h1 E1 A1 => ?_)
    have M1 := M.x E1 (by decide) (by decide)
    refine pv_n ?_
    refine ic_m1 dX9_nearest_13 ?_
    refine is_2 dX9_nearest_14 rfl (by decide) ?_
    refine ic_0 dX9_nearest_15 ?_
    refine is_3 dX9_nearest_16 rfl (by decide) ?_
    exact wX9_nearest_17 (by omega) M1 A1 (by omega) (by omega) _ (-1) 0 (Nat.lt_succ_self _) (by omega) (by omega) rfl (qv (hQ h1 E1) (by unfold aNearest; rw [if_pos c4, ne_eq V]))
  · rw [b2i_0] at c4
    refine ic_m1 dX9_nearest_7 ?_
    refine wp_ireti dX9_nearest_8 rfl ?_
    exact qv (hQ h eqX.rf) (by unfold aNearest; rw [if_neg c4])
