theorem nSn_e {R : Int → Int} : (nS R).toNat = nSn R := rfl

theorem wX4_howMany_4 {G : GT} {δ : Nat} {h hl : Nat → Int → Int} {b : Bool × Bool} {Q : V → Hp → Prop} {x : Int} {R : Int → Int} (hδ : δ ≤ 1700) (Sp : SP h R) (V : RV R)  : ∀ (n : Nat) (w : Int) (s : Int), ((nS R - s).toNat) < n → (0 ≤ s) → (s ≤ nS R) → (w = cntN (eqP R x) s.toNat) → (Q (vi (cntN (eqP R x) (nSn R))) (HS h hl b)) → WP G δ 0 0 MX4_howMany 4 [vr (323), vi x, vi w, vi s] [] (HS h hl b) Q := by
  intro n
  induction n with
  | zero => intro w s hlt; exact absurd hlt (Nat.not_lt_zero _)
  | succ n ih =>
    intro w s hlt s0 s1 hw hQ
    obtain ⟨k4, k5, k6⟩ := Sp
    have n := V.n
    have nn := nS_e V
    have cr := cntN_R (P := eqP R x) s.toNat
    refine il_3 dX4_howMany_4 ?_
    refine al_0 dX4_howMany_5 ?_
    refine g_X4_24 dX4_howMany_6 rfl tt323 ?_
    rw [k5]
    refine wp_icmp_ge 31 dX4_howMany_9 rfl (fun c9 => ?_) (fun c9 => ?_)
    · have e : s = nS R := by omega
      refine il_2 dX4_howMany_31 ?_
      refine wp_ireti dX4_howMany_32 rfl ?_
      exact qv hQ (by rw [hw, e]; rfl)
    · refine al_0 dX4_howMany_12 ?_
      refine g_X4_9 (324) dX4_howMany_13 rfl tt323 (rr4_0 tt323) (by omega) ?_
      refine il_3 dX4_howMany_16 ?_
      refine wp_iaload dX4_howMany_17 tt324 (by omega) (by omega) ?_
      rw [k6 s s0 (by omega)]
      refine il_1 dX4_howMany_18 ?_
      refine wp_icmp_ne 25 dX4_howMany_19 rfl (fun c19 => ?_) (fun c19 => ?_)
      · refine ii_3 dX4_howMany_25 rfl (by decide) ⟨by decide, by decide⟩ (r32 (by omega) (by omega)) ?_
        refine wp_goto 4 dX4_howMany_28 rfl ?_
        refine ih _ (s + 1) (by omega) (by omega) (by omega) ?_ hQ
        rw [cntN_s s0, ← hw]
        unfold eqP
        first | (simp [c19]; done)
      · refine ii_2 dX4_howMany_22 rfl (by decide) ⟨by decide, by decide⟩ (r32 (by omega) (by omega)) ?_
        refine ii_3 dX4_howMany_25 rfl (by decide) ⟨by decide, by decide⟩ (r32 (by omega) (by omega)) ?_
        refine wp_goto 4 dX4_howMany_28 rfl ?_
        refine ih _ (s + 1) (by omega) (by omega) (by omega) ?_ hQ
        rw [cntN_s s0, ← hw]
        unfold eqP
        first | (simp [c19]; done)

theorem wX4_howMany {G : GT} {δ : Nat} {h hl : Nat → Int → Int} {b : Bool × Bool} {Q : V → Hp → Prop} {x : Int} {R : Int → Int} (hδ : δ ≤ 1700) (Sp : SP h R) (V : RV R)  (hQ : Q (vi (cntN (eqP R x) (nSn R))) (HS h hl b)) : WP G δ 0 0 MX4_howMany 0 [vr (323), vi x, vn, vn] [] (HS h hl b) Q := by
  obtain ⟨k4, k5, k6⟩ := Sp
  have n := V.n
  have nn := nS_e V
  refine ic_0 dX4_howMany_0 ?_
  refine is_2 dX4_howMany_1 rfl (by decide) ?_
  refine ic_0 dX4_howMany_2 ?_
  refine is_3 dX4_howMany_3 rfl (by decide) ?_
  exact wX4_howMany_4 (by omega) ⟨k4, k5, k6⟩ V _ 0 0 (Nat.lt_succ_self _) (by omega) (by omega) rfl hQ

theorem wX4_isFewer {G : GT} {δ : Nat} {h hl : Nat → Int → Int} {b : Bool × Bool} {Q : V → Hp → Prop} {s f : Int} (hδ : δ ≤ 1680) (s0 : 0 ≤ s) (s1 : s < 1024) (f0 : -1 ≤ f) (f1 : f < 1024) (hQ : Q (vi (b2i (f = -1 ∨ pc s < pc f))) (HS h hl b)) : WP G δ 0 0 MX4_isFewer 0 [vi s, vi f] [] (HS h hl b) Q := by
  refine il_1 dX4_isFewer_0 ?_
  refine ic_m1 dX4_isFewer_1 ?_
  refine wp_icmp_eq 16 dX4_isFewer_2 rfl (fun c2 => ?_) (fun c2 => ?_)
  · refine ic_1 dX4_isFewer_16 ?_
    refine wp_goto 21 dX4_isFewer_17 rfl ?_
    refine wp_iretz dX4_isFewer_21 rfl (by omega) ?_
    exact qv hQ (by first | exact b2i_t (by omega) | exact b2i_f (by omega))
  · refine il_0 dX4_isFewer_5 ?_
    refine c_X4_53 dX4_isFewer_6 rfl (Nat.le_of_ble_eq_true rfl) (by omega) ?_
    refine wJ6_bitCount (by omega) (by omega) ?_
    refine pv_i ?_
    refine il_1 dX4_isFewer_9 ?_
    refine c_X4_53 dX4_isFewer_10 rfl (Nat.le_of_ble_eq_true rfl) (by omega) ?_
    refine wJ6_bitCount (by omega) (by omega) ?_
    refine pv_i ?_
    refine wp_icmp_ge 20 dX4_isFewer_13 rfl (fun c13 => ?_) (fun c13 => ?_)
    · refine ic_0 dX4_isFewer_20 ?_
      refine wp_iretz dX4_isFewer_21 rfl (by omega) ?_
      exact qv hQ (by first | exact b2i_t (by omega) | exact b2i_f (by omega))
    · refine ic_1 dX4_isFewer_16 ?_
      refine wp_goto 21 dX4_isFewer_17 rfl ?_
      refine wp_iretz dX4_isFewer_21 rfl (by omega) ?_
      exact qv hQ (by first | exact b2i_t (by omega) | exact b2i_f (by omega))

theorem wX4_fewestFor_4 {G : GT} {δ : Nat} {h hl : Nat → Int → Int} {b : Bool × Bool} {Q : V → Hp → Prop} {x : Int} {R : Int → Int} (hδ : δ ≤ 1660) (Sp : SP h R) (V : RV R)  : ∀ (n : Nat) (f : Int) (s : Int), ((nS R - s).toNat) < n → (0 ≤ s) → (s ≤ nS R) → (f = fewA (eqP R x) s.toNat) → (Q (vi (fewA (eqP R x) (nSn R))) (HS h hl b)) → WP G δ 0 0 MX4_fewestFor 4 [vr (323), vi x, vi f, vi s] [] (HS h hl b) Q := by
  intro n
  induction n with
  | zero => intro f s hlt; exact absurd hlt (Nat.not_lt_zero _)
  | succ n ih =>
    intro f s hlt s0 s1 hf hQ
    obtain ⟨k4, k5, k6⟩ := Sp
    have n := V.n
    have nn := nS_e V
    have fr := fewA_R (P := (eqP R x)) s.toNat
    rw [← hf] at fr
    refine il_3 dX4_fewestFor_4 ?_
    refine al_0 dX4_fewestFor_5 ?_
    refine g_X4_24 dX4_fewestFor_6 rfl tt323 ?_
    rw [k5]
    refine wp_icmp_ge 38 dX4_fewestFor_9 rfl (fun c9 => ?_) (fun c9 => ?_)
    · have e : s = nS R := by omega
      refine il_2 dX4_fewestFor_38 ?_
      refine wp_ireti dX4_fewestFor_39 rfl ?_
      exact qv hQ (by rw [hf, e]; rfl)
    · refine al_0 dX4_fewestFor_12 ?_
      refine g_X4_9 (324) dX4_fewestFor_13 rfl tt323 (rr4_0 tt323) (by omega) ?_
      refine il_3 dX4_fewestFor_16 ?_
      refine wp_iaload dX4_fewestFor_17 tt324 (by omega) (by omega) ?_
      rw [k6 s s0 (by omega)]
      refine il_1 dX4_fewestFor_18 ?_
      refine wp_icmp_ne 32 dX4_fewestFor_19 rfl (fun c19 => ?_) (fun c19 => ?_)
      · refine ii_3 dX4_fewestFor_32 rfl (by decide) ⟨by decide, by decide⟩ (r32 (by omega) (by omega)) ?_
        refine wp_goto 4 dX4_fewestFor_35 rfl ?_
        refine ih _ (s + 1) (by omega) (by omega) (by omega) ?_ hQ
        rw [fewA_s s0, ← hf]
        unfold eqP
        first
          | rw [if_neg (fun z => c19 (eq_of_beq z.1))]
          | rw [if_pos (And.intro (show (tT R s == x) = true by rw [c19]; exact beq_self_eq_true _) c27)]
          | rw [if_neg (fun z => c27 z.2)]
      · refine il_3 dX4_fewestFor_22 ?_
        refine il_2 dX4_fewestFor_23 ?_
        refine c_X4_50 dX4_fewestFor_24 rfl (Nat.le_of_ble_eq_true rfl) (by omega) ?_
        refine wX4_isFewer (by omega) s0 (by omega) (by omega) (by omega) ?_
        refine pv_i ?_
        refine wp_if_eq 32 dX4_fewestFor_27 rfl (fun c27 => ?_) (fun c27 => ?_)
        · rw [b2i_0] at c27
          refine ii_3 dX4_fewestFor_32 rfl (by decide) ⟨by decide, by decide⟩ (r32 (by omega) (by omega)) ?_
          refine wp_goto 4 dX4_fewestFor_35 rfl ?_
          refine ih _ (s + 1) (by omega) (by omega) (by omega) ?_ hQ
          rw [fewA_s s0, ← hf]
          unfold eqP
          first
            | rw [if_neg (fun z => c19 (eq_of_beq z.1))]
            | rw [if_pos (And.intro (show (tT R s == x) = true by rw [c19]; exact beq_self_eq_true _) c27)]
            | rw [if_neg (fun z => c27 z.2)]
        · rw [b2i_n0] at c27
          refine il_3 dX4_fewestFor_30 ?_
          refine is_2 dX4_fewestFor_31 rfl (by decide) ?_
          refine ii_3 dX4_fewestFor_32 rfl (by decide) ⟨by decide, by decide⟩ (r32 (by omega) (by omega)) ?_
          refine wp_goto 4 dX4_fewestFor_35 rfl ?_
          refine ih _ (s + 1) (by omega) (by omega) (by omega) ?_ hQ
          rw [fewA_s s0, ← hf]
          unfold eqP
          first
            | rw [if_neg (fun z => c19 (eq_of_beq z.1))]
            | rw [if_pos (And.intro (show (tT R s == x) = true by rw [c19]; exact beq_self_eq_true _) c27)]
            | rw [if_neg (fun z => c27 z.2)]

theorem wX4_fewestFor {G : GT} {δ : Nat} {h hl : Nat → Int → Int} {b : Bool × Bool} {Q : V → Hp → Prop} {x : Int} {R : Int → Int} (hδ : δ ≤ 1660) (Sp : SP h R) (V : RV R)  (hQ : Q (vi (fewA (eqP R x) (nSn R))) (HS h hl b)) : WP G δ 0 0 MX4_fewestFor 0 [vr (323), vi x, vn, vn] [] (HS h hl b) Q := by
  obtain ⟨k4, k5, k6⟩ := Sp
  have n := V.n
  have nn := nS_e V
  refine ic_m1 dX4_fewestFor_0 ?_
  refine is_2 dX4_fewestFor_1 rfl (by decide) ?_
  refine ic_0 dX4_fewestFor_2 ?_
  refine is_3 dX4_fewestFor_3 rfl (by decide) ?_
  exact wX4_fewestFor_4 (by omega) ⟨k4, k5, k6⟩ V _ (-1) 0 (Nat.lt_succ_self _) (by omega) (by omega) rfl hQ

theorem wX4_leastTurned_4 {G : GT} {δ : Nat} {h hl : Nat → Int → Int} {b : Bool × Bool} {Q : V → Hp → Prop}  {R : Int → Int} (hδ : δ ≤ 1680) (Sp : SP h R) (V : RV R)  : ∀ (n : Nat) (f : Int) (s : Int) (c3 : Option (Int ⊕ Int ⊕ Nat ⊕ Nat)), ((nS R - s).toNat) < n → (0 ≤ s) → (s ≤ nS R) → (f = lwN R s.toNat) → (Q (vi (aWeight R)) (HS h hl b)) → WP G δ 0 0 MX4_leastTurned 4 [vr (323), vi f, vi s, c3] [] (HS h hl b) Q := by
  intro n
  induction n with
  | zero => intro f s c3 hlt; exact absurd hlt (Nat.not_lt_zero _)
  | succ n ih =>
    intro f s c3 hlt s0 s1 hf hQ
    obtain ⟨k4, k5, k6⟩ := Sp
    have n := V.n
    have nn := nS_e V
    have tr := tT_R V s
    refine il_2 dX4_leastTurned_4 ?_
    refine al_0 dX4_leastTurned_5 ?_
    refine g_X4_24 dX4_leastTurned_6 rfl tt323 ?_
    rw [k5]
    refine wp_icmp_ge 44 dX4_leastTurned_9 rfl (fun c9 => ?_) (fun c9 => ?_)
    · have e : s = nS R := by omega
      refine il_1 dX4_leastTurned_44 ?_
      refine wp_ireti dX4_leastTurned_45 rfl ?_
      exact qv hQ (by rw [hf, e]; rfl)
    · refine al_0 dX4_leastTurned_12 ?_
      refine g_X4_9 (324) dX4_leastTurned_13 rfl tt323 (rr4_0 tt323) (by omega) ?_
      refine il_2 dX4_leastTurned_16 ?_
      refine wp_iaload dX4_leastTurned_17 tt324 (by omega) (by omega) ?_
      rw [k6 s s0 (by omega)]
      refine c_X4_53 dX4_leastTurned_18 rfl (Nat.le_of_ble_eq_true rfl) (by omega) ?_
      refine wJ6_bitCount tr.1 tr.2 ?_
      refine pv_i ?_
      refine is_3 dX4_leastTurned_21 rfl (by decide) ?_
      refine il_3 dX4_leastTurned_22 ?_
      refine wp_if_le 38 dX4_leastTurned_23 rfl (fun c23 => ?_) (fun c23 => ?_)
      · refine ii_2 dX4_leastTurned_38 rfl (by decide) ⟨by decide, by decide⟩ (r32 (by omega) (by omega)) ?_
        refine wp_goto 4 dX4_leastTurned_41 rfl ?_
        refine wp_fg (ls' := [_, _, _, vn]) ⟨Or.inr rfl, Or.inr rfl, Or.inr rfl, Or.inl rfl, trivial⟩ ?_
        refine ih _ (s + 1) _ (by omega) (by omega) (by omega) ?_ hQ
        rw [lwN_s s0, ← hf]
        first | rw [if_pos (by omega)] | rw [if_neg (by omega)]
      · refine il_1 dX4_leastTurned_26 ?_
        refine ic_m1 dX4_leastTurned_27 ?_
        refine wp_icmp_eq 36 dX4_leastTurned_28 rfl (fun c28 => ?_) (fun c28 => ?_)
        · refine il_3 dX4_leastTurned_36 ?_
          refine is_1 dX4_leastTurned_37 rfl (by decide) ?_
          refine ii_2 dX4_leastTurned_38 rfl (by decide) ⟨by decide, by decide⟩ (r32 (by omega) (by omega)) ?_
          refine wp_goto 4 dX4_leastTurned_41 rfl ?_
          refine wp_fg (ls' := [_, _, _, vn]) ⟨Or.inr rfl, Or.inr rfl, Or.inr rfl, Or.inl rfl, trivial⟩ ?_
          refine ih _ (s + 1) _ (by omega) (by omega) (by omega) ?_ hQ
          rw [lwN_s s0, ← hf]
          first | rw [if_pos (by omega)] | rw [if_neg (by omega)]
        · refine il_3 dX4_leastTurned_31 ?_
          refine il_1 dX4_leastTurned_32 ?_
          refine wp_icmp_ge 38 dX4_leastTurned_33 rfl (fun c33 => ?_) (fun c33 => ?_)
          · refine ii_2 dX4_leastTurned_38 rfl (by decide) ⟨by decide, by decide⟩ (r32 (by omega) (by omega)) ?_
            refine wp_goto 4 dX4_leastTurned_41 rfl ?_
            refine wp_fg (ls' := [_, _, _, vn]) ⟨Or.inr rfl, Or.inr rfl, Or.inr rfl, Or.inl rfl, trivial⟩ ?_
            refine ih _ (s + 1) _ (by omega) (by omega) (by omega) ?_ hQ
            rw [lwN_s s0, ← hf]
            first | rw [if_pos (by omega)] | rw [if_neg (by omega)]
          · refine il_3 dX4_leastTurned_36 ?_
            refine is_1 dX4_leastTurned_37 rfl (by decide) ?_
            refine ii_2 dX4_leastTurned_38 rfl (by decide) ⟨by decide, by decide⟩ (r32 (by omega) (by omega)) ?_
            refine wp_goto 4 dX4_leastTurned_41 rfl ?_
            refine wp_fg (ls' := [_, _, _, vn]) ⟨Or.inr rfl, Or.inr rfl, Or.inr rfl, Or.inl rfl, trivial⟩ ?_
            refine ih _ (s + 1) _ (by omega) (by omega) (by omega) ?_ hQ
            rw [lwN_s s0, ← hf]
            first | rw [if_pos (by omega)] | rw [if_neg (by omega)]

theorem wX4_leastTurned {G : GT} {δ : Nat} {h hl : Nat → Int → Int} {b : Bool × Bool} {Q : V → Hp → Prop} {R : Int → Int} (hδ : δ ≤ 1680) (Sp : SP h R) (V : RV R)  (hQ : Q (vi (aWeight R)) (HS h hl b)) : WP G δ 0 0 MX4_leastTurned 0 [vr (323), vn, vn, vn] [] (HS h hl b) Q := by
  obtain ⟨k4, k5, k6⟩ := Sp
  have n := V.n
  have nn := nS_e V
  refine ic_m1 dX4_leastTurned_0 ?_
  refine is_1 dX4_leastTurned_1 rfl (by decide) ?_
  refine ic_0 dX4_leastTurned_2 ?_
  refine is_2 dX4_leastTurned_3 rfl (by decide) ?_
  exact wX4_leastTurned_4 (by omega) ⟨k4, k5, k6⟩ V _ (-1) 0 _ (Nat.lt_succ_self _) (by omega) (by omega) rfl hQ

theorem wX4_turningNothing_4 {G : GT} {δ : Nat} {h hl : Nat → Int → Int} {b : Bool × Bool} {Q : V → Hp → Prop} {i : Int} {R : Int → Int} (hδ : δ ≤ 1700) (Sp : SP h R) (V : RV R)  : ∀ (n : Nat) (l : Int) (s : Int), ((nS R - s).toNat) < n → (1 ≤ s) → (s ≤ nS R) → (l = i - cntN (kerP R) s.toNat) → (keN R i s.toNat = -2) → (0 ≤ l ∨ i < 0) → (Q (vi (keN R i (nSn R))) (HS h hl b)) → WP G δ 0 0 MX4_turningNothing 4 [vr (323), vi i, vi l, vi s] [] (HS h hl b) Q := by
  intro n
  induction n with
  | zero => intro l s hlt; exact absurd hlt (Nat.not_lt_zero _)
  | succ n ih =>
    intro l s hlt s0 s1 hl0 hm hp hQ
    obtain ⟨k4, k5, k6⟩ := Sp
    have n := V.n
    have nn := nS_e V
    have cr := cntN_R (P := kerP R) s.toNat
    refine wp_ls (fun _ hlo => ?_)
    have ri : R32 i := hlo (vi i) (by simp)
    unfold R32 at ri
    refine il_3 dX4_turningNothing_4 ?_
    refine al_0 dX4_turningNothing_5 ?_
    refine g_X4_24 dX4_turningNothing_6 rfl tt323 ?_
    rw [k5]
    refine wp_icmp_ge 40 dX4_turningNothing_9 rfl (fun c9 => ?_) (fun c9 => ?_)
    · have e : s = nS R := by omega
      refine bi_m2 dX4_turningNothing_40 ?_
      refine wp_ireti dX4_turningNothing_42 rfl ?_
      first
        | exact qv hQ (by rw [← hm, e]; rfl)
        | exact qv hQ (keN_neg (by omega) _)
    · refine il_2 dX4_turningNothing_12 ?_
      refine wp_if_lt 40 dX4_turningNothing_13 rfl (fun c13 => ?_) (fun c13 => ?_)
      · refine bi_m2 dX4_turningNothing_40 ?_
        refine wp_ireti dX4_turningNothing_42 rfl ?_
        first
          | exact qv hQ (by rw [← hm, e]; rfl)
          | exact qv hQ (keN_neg (by omega) _)
      · refine al_0 dX4_turningNothing_16 ?_
        refine g_X4_9 (324) dX4_turningNothing_17 rfl tt323 (rr4_0 tt323) (by omega) ?_
        refine il_3 dX4_turningNothing_20 ?_
        refine wp_iaload dX4_turningNothing_21 tt324 (by omega) (by omega) ?_
        rw [k6 s (by omega) (by omega)]
        refine wp_if_ne 34 dX4_turningNothing_22 rfl (fun c22 => ?_) (fun c22 => ?_)
        · refine ii_3 dX4_turningNothing_34 rfl (by decide) ⟨by decide, by decide⟩ (r32 (by omega) (by omega)) ?_
          refine wp_goto 4 dX4_turningNothing_37 rfl ?_
          have kv : kerP R s = (tT R s == 0) := by unfold kerP; rw [decide_eq_true s0]; rfl
          first
            | (have kf : kerP R s = false := by rw [kv]; simpa using c22
               refine ih _ (s + 1) (by omega) (by omega) (by omega) ?_ ?_ (by omega) hQ
               · rw [cntN_s (by omega), kf]; simp; omega
               · rw [keN_s (by omega), kf, if_neg (by simp)]; exact hm)
            | (have kt : kerP R s = true := by rw [kv, c22]; rfl
               refine ih _ (s + 1) (by omega) (by omega) (by omega) ?_ ?_ (by omega) hQ
               · rw [cntN_s (by omega), kt]; simp; omega
               · rw [keN_s (by omega), kt, if_neg (fun z => by omega)]; exact hm)
        · refine il_2 dX4_turningNothing_25 ?_
          refine wp_if_ne 31 dX4_turningNothing_26 rfl (fun c26 => ?_) (fun c26 => ?_)
          · refine ii_2 dX4_turningNothing_31 rfl (by decide) ⟨by decide, by decide⟩ (r32 (by omega) (by omega)) ?_
            refine ii_3 dX4_turningNothing_34 rfl (by decide) ⟨by decide, by decide⟩ (r32 (by omega) (by omega)) ?_
            refine wp_goto 4 dX4_turningNothing_37 rfl ?_
            have kv : kerP R s = (tT R s == 0) := by unfold kerP; rw [decide_eq_true s0]; rfl
            first
              | (have kf : kerP R s = false := by rw [kv]; simpa using c22
                 refine ih _ (s + 1) (by omega) (by omega) (by omega) ?_ ?_ (by omega) hQ
                 · rw [cntN_s (by omega), kf]; simp; omega
                 · rw [keN_s (by omega), kf, if_neg (by simp)]; exact hm)
              | (have kt : kerP R s = true := by rw [kv, c22]; rfl
                 refine ih _ (s + 1) (by omega) (by omega) (by omega) ?_ ?_ (by omega) hQ
                 · rw [cntN_s (by omega), kt]; simp; omega
                 · rw [keN_s (by omega), kt, if_neg (fun z => by omega)]; exact hm)
          · refine il_3 dX4_turningNothing_29 ?_
            refine wp_ireti dX4_turningNothing_30 rfl ?_
            obtain ⟨k, ek⟩ := Int.eq_ofNat_of_zero_le (show 0 ≤ s by omega)
            have kk : kerP R s = true := by unfold kerP; rw [c22, decide_eq_true s0]; rfl
            rw [ek] at kk
            have hh := keN_hit (i := i) kk (by rw [ek, Int.toNat_natCast] at hl0; omega) (nSn R) (by have : ((nSn R : Nat) : Int) = nS R := Int.toNat_of_nonneg (by omega); omega)
            exact qv hQ (by rw [hh.1, ek])

theorem wX4_turningNothing {G : GT} {δ : Nat} {h hl : Nat → Int → Int} {b : Bool × Bool} {Q : V → Hp → Prop} {i : Int} {R : Int → Int} (hδ : δ ≤ 1700) (Sp : SP h R) (V : RV R)  (hQ : Q (vi (keN R i (nSn R))) (HS h hl b)) : WP G δ 0 0 MX4_turningNothing 0 [vr (323), vi i, vn, vn] [] (HS h hl b) Q := by
  obtain ⟨k4, k5, k6⟩ := Sp
  have n := V.n
  have nn := nS_e V
  refine il_1 dX4_turningNothing_0 ?_
  refine is_2 dX4_turningNothing_1 rfl (by decide) ?_
  refine ic_1 dX4_turningNothing_2 ?_
  refine is_3 dX4_turningNothing_3 rfl (by decide) ?_
  have c1 : cntN (kerP R) (1 : Int).toNat = 0 := by unfold cntN kerP; simp [cntN]
  refine wX4_turningNothing_4 (by omega) ⟨k4, k5, k6⟩ V _ i 1 (Nat.lt_succ_self _) (by omega) (by omega) (by rw [c1]; omega) ?_ (by omega) hQ
  show keN R i 1 = -2
  unfold keN kerP
  simp [keN]

theorem wX4_howManyOf_5 {G : GT} {δ : Nat} {h hl : Nat → Int → Int} {b : Bool × Bool} {Q : V → Hp → Prop} {m x : Int} {R : Int → Int} (hδ : δ ≤ 1680) (Sp : SP h R) (V : RV R)  : ∀ (n : Nat) (w : Int) (s : Int), ((nS R - s).toNat) < n → (0 ≤ s) → (s ≤ nS R) → (w = cntN (ofP R m x) s.toNat) → (Q (vi (cntN (ofP R m x) (nSn R))) (HS h hl b)) → WP G δ 0 0 MX4_howManyOf 5 [vr (323), vi m, vi x, vi w, vi s] [] (HS h hl b) Q := by
  intro n
  induction n with
  | zero => intro w s hlt; exact absurd hlt (Nat.not_lt_zero _)
  | succ n ih =>
    intro w s hlt s0 s1 hw hQ
    obtain ⟨k4, k5, k6⟩ := Sp
    have n := V.n
    have nn := nS_e V
    have cr := cntN_R (P := ofP R m x) s.toNat
    refine il_4 dX4_howManyOf_5 ?_
    refine al_0 dX4_howManyOf_7 ?_
    refine g_X4_24 dX4_howManyOf_8 rfl tt323 ?_
    rw [k5]
    refine wp_icmp_ge 43 dX4_howManyOf_11 rfl (fun c11 => ?_) (fun c11 => ?_)
    · have e : s = nS R := by omega
      refine il_3 dX4_howManyOf_43 ?_
      refine wp_ireti dX4_howManyOf_44 rfl ?_
      exact qv hQ (by rw [hw, e]; rfl)
    · refine il_4 dX4_howManyOf_14 ?_
      refine c_X4_53 dX4_howManyOf_16 rfl (Nat.le_of_ble_eq_true rfl) (by omega) ?_
      refine wJ6_bitCount s0 (by omega) ?_
      refine pv_i ?_
      refine il_1 dX4_howManyOf_19 ?_
      refine wp_icmp_ne 37 dX4_howManyOf_20 rfl (fun c20 => ?_) (fun c20 => ?_)
      · refine ii_4 dX4_howManyOf_37 rfl (by decide) ⟨by decide, by decide⟩ (r32 (by omega) (by omega)) ?_
        refine wp_goto 5 dX4_howManyOf_40 rfl ?_
        refine ih _ (s + 1) (by omega) (by omega) (by omega) ?_ hQ
        rw [cntN_s s0, ← hw]
        unfold ofP
        first | (simp [c20, c31]; done) | (simp [c20]; done)
      · refine al_0 dX4_howManyOf_23 ?_
        refine g_X4_9 (324) dX4_howManyOf_24 rfl tt323 (rr4_0 tt323) (by omega) ?_
        refine il_4 dX4_howManyOf_27 ?_
        refine wp_iaload dX4_howManyOf_29 tt324 (by omega) (by omega) ?_
        rw [k6 s s0 (by omega)]
        refine il_2 dX4_howManyOf_30 ?_
        refine wp_icmp_ne 37 dX4_howManyOf_31 rfl (fun c31 => ?_) (fun c31 => ?_)
        · refine ii_4 dX4_howManyOf_37 rfl (by decide) ⟨by decide, by decide⟩ (r32 (by omega) (by omega)) ?_
          refine wp_goto 5 dX4_howManyOf_40 rfl ?_
          refine ih _ (s + 1) (by omega) (by omega) (by omega) ?_ hQ
          rw [cntN_s s0, ← hw]
          unfold ofP
          first | (simp [c20, c31]; done) | (simp [c20]; done)
        · refine ii_3 dX4_howManyOf_34 rfl (by decide) ⟨by decide, by decide⟩ (r32 (by omega) (by omega)) ?_
          refine ii_4 dX4_howManyOf_37 rfl (by decide) ⟨by decide, by decide⟩ (r32 (by omega) (by omega)) ?_
          refine wp_goto 5 dX4_howManyOf_40 rfl ?_
          refine ih _ (s + 1) (by omega) (by omega) (by omega) ?_ hQ
          rw [cntN_s s0, ← hw]
          unfold ofP
          first | (simp [c20, c31]; done) | (simp [c20]; done)

theorem wX4_howManyOf {G : GT} {δ : Nat} {h hl : Nat → Int → Int} {b : Bool × Bool} {Q : V → Hp → Prop} {m x : Int} {R : Int → Int} (hδ : δ ≤ 1680) (Sp : SP h R) (V : RV R)  (hQ : Q (vi (cntN (ofP R m x) (nSn R))) (HS h hl b)) : WP G δ 0 0 MX4_howManyOf 0 [vr (323), vi m, vi x, vn, vn] [] (HS h hl b) Q := by
  obtain ⟨k4, k5, k6⟩ := Sp
  have n := V.n
  have nn := nS_e V
  refine ic_0 dX4_howManyOf_0 ?_
  refine is_3 dX4_howManyOf_1 rfl (by decide) ?_
  refine ic_0 dX4_howManyOf_2 ?_
  refine is_4 dX4_howManyOf_3 rfl (by decide) ?_
  exact wX4_howManyOf_5 (by omega) ⟨k4, k5, k6⟩ V _ 0 0 (Nat.lt_succ_self _) (by omega) (by omega) rfl hQ

theorem wX4_lowestOf_2 {G : GT} {δ : Nat} {h hl : Nat → Int → Int} {b : Bool × Bool} {Q : V → Hp → Prop} {m x : Int} {R : Int → Int} (hδ : δ ≤ 1680) (Sp : SP h R) (V : RV R)  : ∀ (n : Nat) (s : Int), ((nS R - s).toNat) < n → (0 ≤ s) → (s ≤ nS R) → (∀ i : Int, 0 ≤ i → i < s → ofP R m x i = false) → (Q (vi (loN (ofP R m x) (nSn R))) (HS h hl b)) → WP G δ 0 0 MX4_lowestOf 2 [vr (323), vi m, vi x, vi s] [] (HS h hl b) Q := by
  intro n
  induction n with
  | zero => intro s hlt; exact absurd hlt (Nat.not_lt_zero _)
  | succ n ih =>
    intro s hlt s0 s1 hm hQ
    obtain ⟨k4, k5, k6⟩ := Sp
    have n := V.n
    have nn := nS_e V
    refine il_3 dX4_lowestOf_2 ?_
    refine al_0 dX4_lowestOf_3 ?_
    refine g_X4_24 dX4_lowestOf_4 rfl tt323 ?_
    rw [k5]
    refine wp_icmp_ge 36 dX4_lowestOf_7 rfl (fun c7 => ?_) (fun c7 => ?_)
    · have e : s = nS R := by omega
      refine ic_m1 dX4_lowestOf_36 ?_
      refine wp_ireti dX4_lowestOf_37 rfl ?_
      have nk : ((nSn R : Nat) : Int) = nS R := Int.toNat_of_nonneg (by omega)
      exact qv hQ (loN_miss _ (fun i a c => hm i a (by omega)))
    · refine il_3 dX4_lowestOf_10 ?_
      refine c_X4_53 dX4_lowestOf_11 rfl (Nat.le_of_ble_eq_true rfl) (by omega) ?_
      refine wJ6_bitCount s0 (by omega) ?_
      refine pv_i ?_
      refine il_1 dX4_lowestOf_14 ?_
      refine wp_icmp_ne 30 dX4_lowestOf_15 rfl (fun c15 => ?_) (fun c15 => ?_)
      · refine ii_3 dX4_lowestOf_30 rfl (by decide) ⟨by decide, by decide⟩ (r32 (by omega) (by omega)) ?_
        refine wp_goto 2 dX4_lowestOf_33 rfl ?_
        refine ih (s + 1) (by omega) (by omega) (by omega) (fun i i0 i1 => ?_) hQ
        by_cases e : i = s
        · subst e; unfold ofP; first | (simp [c15, c25]; done) | (simp [c15]; done)
        · exact hm i i0 (by omega)
      · refine al_0 dX4_lowestOf_18 ?_
        refine g_X4_9 (324) dX4_lowestOf_19 rfl tt323 (rr4_0 tt323) (by omega) ?_
        refine il_3 dX4_lowestOf_22 ?_
        refine wp_iaload dX4_lowestOf_23 tt324 (by omega) (by omega) ?_
        rw [k6 s s0 (by omega)]
        refine il_2 dX4_lowestOf_24 ?_
        refine wp_icmp_ne 30 dX4_lowestOf_25 rfl (fun c25 => ?_) (fun c25 => ?_)
        · refine ii_3 dX4_lowestOf_30 rfl (by decide) ⟨by decide, by decide⟩ (r32 (by omega) (by omega)) ?_
          refine wp_goto 2 dX4_lowestOf_33 rfl ?_
          refine ih (s + 1) (by omega) (by omega) (by omega) (fun i i0 i1 => ?_) hQ
          by_cases e : i = s
          · subst e; unfold ofP; first | (simp [c15, c25]; done) | (simp [c15]; done)
          · exact hm i i0 (by omega)
        · refine il_3 dX4_lowestOf_28 ?_
          refine wp_ireti dX4_lowestOf_29 rfl ?_
          obtain ⟨k, ek⟩ := Int.eq_ofNat_of_zero_le s0
          have kk : ofP R m x s = true := by unfold ofP; simp [c15, c25]
          have nk : ((nSn R : Nat) : Int) = nS R := Int.toNat_of_nonneg (by omega)
          exact qv hQ (by rw [loN_hit (s := k) (by rw [← ek]; exact kk) (fun i a c => hm i a (by omega)) (nSn R) (by omega), ek])

theorem wX4_lowestOf {G : GT} {δ : Nat} {h hl : Nat → Int → Int} {b : Bool × Bool} {Q : V → Hp → Prop} {m x : Int} {R : Int → Int} (hδ : δ ≤ 1680) (Sp : SP h R) (V : RV R)  (hQ : Q (vi (loN (ofP R m x) (nSn R))) (HS h hl b)) : WP G δ 0 0 MX4_lowestOf 0 [vr (323), vi m, vi x, vn] [] (HS h hl b) Q := by
  obtain ⟨k4, k5, k6⟩ := Sp
  have n := V.n
  have nn := nS_e V
  refine ic_0 dX4_lowestOf_0 ?_
  refine is_3 dX4_lowestOf_1 rfl (by decide) ?_
  exact wX4_lowestOf_2 (by omega) ⟨k4, k5, k6⟩ V _ 0 (Nat.lt_succ_self _) (by omega) (by omega) (fun i i0 i1 => by omega) hQ

theorem wX4_lightsAll_2 {G : GT} {δ : Nat} {h hl : Nat → Int → Int} {b : Bool × Bool} {Q : V → Hp → Prop} {x : Int} {R : Int → Int} {L : Laws} (hδ : δ ≤ 1680) (C : CT h R L) : ∀ (n : Nat) (k : Int), ((R 5 - k).toNat) < n → (0 ≤ k) → (k ≤ R 5) → (allN (fun k => decide (band x (R (37 + k)) ≠ 0)) k.toNat = true) → (Q (vi (b2i (liP R x = true))) (HS h hl b)) → WP G δ 0 0 MX4_lightsAll 2 [vi x, vr (11), vi k] [] (HS h hl b) Q := by
  intro n
  induction n with
  | zero => intro k hlt; exact absurd hlt (Nat.not_lt_zero _)
  | succ n ih =>
    intro k hlt k0 k1 ha hQ
    obtain ⟨⟨s0, s3, s4, s1, s2, s5⟩, ⟨t0, t1, t5, t6, t7⟩, ⟨g7, g8, g11, g10, g10x⟩⟩ := C.1.f
    have vn' := C.2.1.n
    have vw := C.2.1.w
    refine il_2 dX4_lightsAll_2 ?_
    refine al_1 dX4_lightsAll_3 ?_
    refine g_X4_28 dX4_lightsAll_4 rfl tt11 ?_
    rw [t5]
    refine wp_icmp_ge 28 dX4_lightsAll_7 rfl (fun c7 => ?_) (fun c7 => ?_)
    · have e : k = R 5 := by omega
      subst e
      refine ic_1 dX4_lightsAll_28 ?_
      refine wp_iretz dX4_lightsAll_29 rfl (by omega) ?_
      exact qv hQ (b2i_t ha)
    · refine il_0 dX4_lightsAll_10 ?_
      refine al_1 dX4_lightsAll_11 ?_
      refine il_2 dX4_lightsAll_12 ?_
      refine c_X4_42 dX4_lightsAll_13 rfl tt11 (Nat.le_of_ble_eq_true rfl) (by omega) ?_
      refine wX6_at (by omega) tt11 tt12 (by decide) (by omega) (by omega) ?_
      rw [C.1.stA k0 (by omega)]
      refine pv_i ?_
      refine wp_iand dX4_lightsAll_16 ?_
      refine wp_if_ne 22 dX4_lightsAll_17 rfl (fun c17 => ?_) (fun c17 => ?_)
      · refine ii_2 dX4_lightsAll_22 rfl (by decide) ⟨by decide, by decide⟩ (r32 (by omega) (by omega)) ?_
        refine wp_goto 2 dX4_lightsAll_25 rfl ?_
        exact ih (k + 1) (by omega) (by omega) (by omega) (by rw [allN_s k0, ha, decide_eq_true c17]; rfl) hQ
      · refine ic_0 dX4_lightsAll_20 ?_
        refine wp_iretz dX4_lightsAll_21 rfl (by omega) ?_
        exact qv hQ (b2i_f (by unfold liP; rw [allN_f (R 5).toNat k k0 (by omega) (decide_eq_false (fun z => z c17))]; decide))

theorem wX4_lightsAll {G : GT} {δ : Nat} {h hl : Nat → Int → Int} {b : Bool × Bool} {Q : V → Hp → Prop} {x : Int} {R : Int → Int} {L : Laws} (hδ : δ ≤ 1680) (C : CT h R L) (hQ : Q (vi (b2i (liP R x = true))) (HS h hl b)) : WP G δ 0 0 MX4_lightsAll 0 [vi x, vr (11), vn] [] (HS h hl b) Q := by
  refine ic_0 dX4_lightsAll_0 ?_
  refine is_2 dX4_lightsAll_1 rfl (by decide) ?_
  have n := C.2.1.n
  exact wX4_lightsAll_2 (by omega) C _ 0 (Nat.lt_succ_self _) (by omega) (by omega) rfl hQ

theorem wX4_fewestLighting_5 {G : GT} {δ : Nat} {h hl : Nat → Int → Int} {b : Bool × Bool} {Q : V → Hp → Prop} {L : Laws} {R : Int → Int} (hδ : δ ≤ 1660) (Sp : SP h R) (V : RV R) (C : CT h R L) : ∀ (n : Nat) (f : Int) (s : Int), ((nS R - s).toNat) < n → (0 ≤ s) → (s ≤ nS R) → (f = fewA (lgP R) s.toNat) → (Q (vi (fewA (lgP R) (nSn R))) (HS h hl b)) → WP G δ 0 0 MX4_fewestLighting 5 [vr (323), vi (R 10), vr (11), vi f, vi s] [] (HS h hl b) Q := by
  intro n
  induction n with
  | zero => intro f s hlt; exact absurd hlt (Nat.not_lt_zero _)
  | succ n ih =>
    intro f s hlt s0 s1 hf hQ
    obtain ⟨k4, k5, k6⟩ := Sp
    have n := V.n
    have nn := nS_e V
    have fr := fewA_R (P := (lgP R)) s.toNat
    rw [← hf] at fr
    refine il_4 dX4_fewestLighting_5 ?_
    refine al_0 dX4_fewestLighting_7 ?_
    refine g_X4_24 dX4_fewestLighting_8 rfl tt323 ?_
    rw [k5]
    refine wp_icmp_ge 48 dX4_fewestLighting_11 rfl (fun c11 => ?_) (fun c11 => ?_)
    · have e : s = nS R := by omega
      refine il_3 dX4_fewestLighting_48 ?_
      refine wp_ireti dX4_fewestLighting_49 rfl ?_
      exact qv hQ (by rw [hf, e]; rfl)
    · refine il_4 dX4_fewestLighting_14 ?_
      refine il_3 dX4_fewestLighting_16 ?_
      refine c_X4_50 dX4_fewestLighting_17 rfl (Nat.le_of_ble_eq_true rfl) (by omega) ?_
      refine wX4_isFewer (by omega) s0 (by omega) (by omega) (by omega) ?_
      refine pv_i ?_
      refine wp_if_eq 42 dX4_fewestLighting_20 rfl (fun c20 => ?_) (fun c20 => ?_)
      · rw [b2i_0] at c20
        refine ii_4 dX4_fewestLighting_42 rfl (by decide) ⟨by decide, by decide⟩ (r32 (by omega) (by omega)) ?_
        refine wp_goto 5 dX4_fewestLighting_45 rfl ?_
        refine ih _ (s + 1) (by omega) (by omega) (by omega) ?_ hQ
        rw [fewA_s s0, ← hf]
        first
          | rw [if_neg (fun z => c20 z.2)]
          | rw [if_pos (And.intro (show lgP R s = true from c36) c20)]
          | rw [if_neg (fun z => c36 z.1)]
      · rw [b2i_n0] at c20
        refine il_1 dX4_fewestLighting_23 ?_
        refine al_0 dX4_fewestLighting_24 ?_
        refine g_X4_9 (324) dX4_fewestLighting_25 rfl tt323 (rr4_0 tt323) (by omega) ?_
        refine il_4 dX4_fewestLighting_28 ?_
        refine wp_iaload dX4_fewestLighting_30 tt324 (by omega) (by omega) ?_
        rw [k6 s s0 (by omega)]
        refine wp_ixor dX4_fewestLighting_31 ?_
        refine al_2 dX4_fewestLighting_32 ?_
        refine c_X4_61 dX4_fewestLighting_33 rfl (Nat.le_of_ble_eq_true rfl) (by omega) ?_
        refine wX4_lightsAll (by omega) C ?_
        refine pv_i ?_
        refine wp_if_eq 42 dX4_fewestLighting_36 rfl (fun c36 => ?_) (fun c36 => ?_)
        · rw [b2i_0] at c36
          refine ii_4 dX4_fewestLighting_42 rfl (by decide) ⟨by decide, by decide⟩ (r32 (by omega) (by omega)) ?_
          refine wp_goto 5 dX4_fewestLighting_45 rfl ?_
          refine ih _ (s + 1) (by omega) (by omega) (by omega) ?_ hQ
          rw [fewA_s s0, ← hf]
          first
            | rw [if_neg (fun z => c20 z.2)]
            | rw [if_pos (And.intro (show lgP R s = true from c36) c20)]
            | rw [if_neg (fun z => c36 z.1)]
        · rw [b2i_n0] at c36
          refine il_4 dX4_fewestLighting_39 ?_
          refine is_3 dX4_fewestLighting_41 rfl (by decide) ?_
          refine ii_4 dX4_fewestLighting_42 rfl (by decide) ⟨by decide, by decide⟩ (r32 (by omega) (by omega)) ?_
          refine wp_goto 5 dX4_fewestLighting_45 rfl ?_
          refine ih _ (s + 1) (by omega) (by omega) (by omega) ?_ hQ
          rw [fewA_s s0, ← hf]
          first
            | rw [if_neg (fun z => c20 z.2)]
            | rw [if_pos (And.intro (show lgP R s = true from c36) c20)]
            | rw [if_neg (fun z => c36 z.1)]

theorem wX4_fewestLighting {G : GT} {δ : Nat} {h hl : Nat → Int → Int} {b : Bool × Bool} {Q : V → Hp → Prop} {R : Int → Int} {L : Laws} (hδ : δ ≤ 1660) (Sp : SP h R) (C : CT h R L) (hQ : Q (vi (fewA (lgP R) (nSn R))) (HS h hl b)) : WP G δ 0 0 MX4_fewestLighting 0 [vr (323), vi (R 10), vr (11), vn, vn] [] (HS h hl b) Q := by
  have V := C.2.1
  obtain ⟨k4, k5, k6⟩ := Sp
  have n := V.n
  have nn := nS_e V
  refine ic_m1 dX4_fewestLighting_0 ?_
  refine is_3 dX4_fewestLighting_1 rfl (by decide) ?_
  refine ic_0 dX4_fewestLighting_2 ?_
  refine is_4 dX4_fewestLighting_3 rfl (by decide) ?_
  exact wX4_fewestLighting_5 (by omega) ⟨k4, k5, k6⟩ V C _ (-1) 0 (Nat.lt_succ_self _) (by omega) (by omega) rfl hQ

theorem wX8_sizeOf {G : GT} {δ : Nat} {h hl : Nat → Int → Int} {b : Bool × Bool} {Q : V → Hp → Prop} {s : Int} (hδ : δ ≤ 1680) (s0 : -1 ≤ s) (s1 : s < 1024) (hQ : Q (vi (if s = -1 then -1 else pc s)) (HS h hl b)) : WP G δ 0 0 MX8_sizeOf 0 [vi s] [] (HS h hl b) Q := by
  refine il_0 dX8_sizeOf_0 ?_
  refine ic_m1 dX8_sizeOf_1 ?_
  refine wp_icmp_ne 9 dX8_sizeOf_2 rfl (fun c2 => ?_) (fun c2 => ?_)
  · refine il_0 dX8_sizeOf_9 ?_
    refine c_X8_202 dX8_sizeOf_10 rfl (Nat.le_of_ble_eq_true rfl) (by omega) ?_
    refine wJ6_bitCount (by omega) (by omega) ?_
    refine pv_i ?_
    refine wp_ireti dX8_sizeOf_13 rfl ?_
    refine qv hQ ?_
    first | rw [if_pos (by assumption)] | rw [if_neg (by assumption)]
  · refine ic_m1 dX8_sizeOf_5 ?_
    refine wp_goto 13 dX8_sizeOf_6 rfl ?_
    refine wp_ireti dX8_sizeOf_13 rfl ?_
    refine qv hQ ?_
    first | rw [if_pos (by assumption)] | rw [if_neg (by assumption)]

theorem wX8_bring {G : GT} {δ : Nat} {h hl : Nat → Int → Int} {b : Bool × Bool} {Q : V → Hp → Prop} {x mo : Int} {R : Int → Int} {L : Laws} (hδ : δ ≤ 1640) (C : CT h R L) (z0 : h 324 0 = 0) (hQ : ∀ h' : Nat → Int → Int, eqS h h' → h' 324 0 = 0 → Q (vi (aBring R x mo)) (HS h' hl b)) : WP G δ 0 0 MX8_bring 0 [vr (1), vi x, vi mo, vn] [] (HS h hl b) Q := by
  obtain ⟨⟨s0, s3, s4, s1, s2, s5⟩, ⟨t0, t1, t5, t6, t7⟩, ⟨g7, g8, g11, g10, g10x⟩⟩ := C.1.f
  have vn' := C.2.1.n
  have vw := C.2.1.w
  refine il_1 dX8_bring_0 ?_
  refine c_X8_207 dX8_bring_1 rfl (Nat.le_of_ble_eq_true rfl) (by omega) ?_
  refine wX8_areLamps (by omega) ?_
  refine pv_i ?_
  refine wp_if_ne 9 dX8_bring_4 rfl (fun c4 => ?_) (fun c4 => ?_)
  · rw [b2i_n0] at c4
    refine al_0 dX8_bring_9 ?_
    refine c_X8_195 dX8_bring_10 rfl tt1 (Nat.le_of_ble_eq_true rfl) (by omega) ?_
    refine wX8_setsNow (by omega) C z0 (fun h1 E1 Sp1 => ?_)
    have C1 := C.sx E1
    have V := C.2.1
    have q1 : h1 3 1 = R 10 := C1.1.f.1.2.2.2.1
    refine pv_r ?_
    refine il_1 dX8_bring_13 ?_
    refine al_0 dX8_bring_14 ?_
    refine g_X8_12 (2) dX8_bring_15 rfl tt1 (rr8_0 tt1) (by omega) ?_
    refine g_X8_112 (3) dX8_bring_18 rfl tt2 (rr7_0 tt2) (by omega) ?_
    refine g_X8_170 dX8_bring_21 rfl tt3 ?_
    rw [q1]
    refine wp_ixor dX8_bring_24 ?_
    refine c_X8_210 dX8_bring_25 rfl tt323 (Nat.le_of_ble_eq_true rfl) (by omega) ?_
    refine wX4_fewestFor (by omega) Sp1 V ?_
    refine pv_i ?_
    refine is_3 dX8_bring_28 rfl (by decide) ?_
    refine il_2 dX8_bring_29 ?_
    refine wp_if_eq 40 dX8_bring_30 rfl (fun c30 => ?_) (fun c30 => ?_)
    · refine il_3 dX8_bring_40 ?_
      refine wp_ireti dX8_bring_41 rfl ?_
      refine qv (hQ h1 E1 (by rw [Sp1.2.2 0 (by omega) (by have := nS_e V; omega)]; exact tT_0)) ?_
      unfold aBring
      rw [if_pos c4]
      first
        | rw [if_pos (Or.inl c30)]
        | (by_cases z : fewA (eqP R (bxor x (R 10))) (nSn R) = -1
           · rw [if_pos (Or.inr z), if_pos z]; exact z
           · rw [if_neg (fun y => by rcases y with y | y; exact c30 y; exact z y), if_neg z])
    · refine il_3 dX8_bring_33 ?_
      refine c_X8_213 dX8_bring_34 rfl (Nat.le_of_ble_eq_true rfl) (by omega) ?_
      have fr := fewA_R (P := eqP R (bxor x (R 10))) (nSn R)
      have nk : ((nSn R : Nat) : Int) = nS R := Int.toNat_of_nonneg (by have := nS_e V; omega)
      have ne := nS_e V
      refine wX8_sizeOf (by omega) (by omega) (by omega) ?_
      refine pv_i ?_
      refine wp_goto 41 dX8_bring_37 rfl ?_
      refine wp_ireti dX8_bring_41 rfl ?_
      refine qv (hQ h1 E1 (by rw [Sp1.2.2 0 (by omega) (by have := nS_e V; omega)]; exact tT_0)) ?_
      unfold aBring
      rw [if_pos c4]
      first
        | rw [if_pos (Or.inl c30)]
        | (by_cases z : fewA (eqP R (bxor x (R 10))) (nSn R) = -1
           · rw [if_pos (Or.inr z), if_pos z]; exact z
           · rw [if_neg (fun y => by rcases y with y | y; exact c30 y; exact z y), if_neg z])
  · rw [b2i_0] at c4
    refine ic_m1 dX8_bring_7 ?_
    refine wp_ireti dX8_bring_8 rfl ?_
    exact qv (hQ h (fun _ _ => rfl) z0) (by unfold aBring; rw [if_neg c4])

theorem wX8_ways {G : GT} {δ : Nat} {h hl : Nat → Int → Int} {b : Bool × Bool} {Q : V → Hp → Prop} {x : Int} {R : Int → Int} {L : Laws} (hδ : δ ≤ 1640) (C : CT h R L) (z0 : h 324 0 = 0) (hQ : ∀ h' : Nat → Int → Int, eqS h h' → h' 324 0 = 0 → Q (vi (aWays R x)) (HS h' hl b)) : WP G δ 0 0 MX8_ways 0 [vr (1), vi x] [] (HS h hl b) Q := by
  obtain ⟨⟨s0, s3, s4, s1, s2, s5⟩, ⟨t0, t1, t5, t6, t7⟩, ⟨g7, g8, g11, g10, g10x⟩⟩ := C.1.f
  have vn' := C.2.1.n
  have vw := C.2.1.w
  refine il_1 dX8_ways_0 ?_
  refine c_X8_207 dX8_ways_1 rfl (Nat.le_of_ble_eq_true rfl) (by omega) ?_
  refine wX8_areLamps (by omega) ?_
  refine pv_i ?_
  refine wp_if_eq 29 dX8_ways_4 rfl (fun c4 => ?_) (fun c4 => ?_)
  · rw [b2i_0] at c4
    refine ic_m1 dX8_ways_29 ?_
    refine wp_ireti dX8_ways_30 rfl ?_
    first
      | exact qv (hQ h1 E1 (by rw [Sp1.2.2 0 (by omega) (by have := nS_e V; omega)]; exact tT_0)) (by unfold aWays; rw [if_pos c4])
      | exact qv (hQ h (fun _ _ => rfl) z0) (by unfold aWays; rw [if_neg c4])
  · rw [b2i_n0] at c4
    refine al_0 dX8_ways_7 ?_
    refine c_X8_195 dX8_ways_8 rfl tt1 (Nat.le_of_ble_eq_true rfl) (by omega) ?_
    refine wX8_setsNow (by omega) C z0 (fun h1 E1 Sp1 => ?_)
    have C1 := C.sx E1
    have V := C.2.1
    have q1 : h1 3 1 = R 10 := C1.1.f.1.2.2.2.1
    refine pv_r ?_
    refine il_1 dX8_ways_11 ?_
    refine al_0 dX8_ways_12 ?_
    refine g_X8_12 (2) dX8_ways_13 rfl tt1 (rr8_0 tt1) (by omega) ?_
    refine g_X8_112 (3) dX8_ways_16 rfl tt2 (rr7_0 tt2) (by omega) ?_
    refine g_X8_170 dX8_ways_19 rfl tt3 ?_
    rw [q1]
    refine wp_ixor dX8_ways_22 ?_
    refine c_X8_216 dX8_ways_23 rfl tt323 (Nat.le_of_ble_eq_true rfl) (by omega) ?_
    refine wX4_howMany (by omega) Sp1 V ?_
    refine pv_i ?_
    refine wp_goto 30 dX8_ways_26 rfl ?_
    refine wp_ireti dX8_ways_30 rfl ?_
    first
      | exact qv (hQ h1 E1 (by rw [Sp1.2.2 0 (by omega) (by have := nS_e V; omega)]; exact tT_0)) (by unfold aWays; rw [if_pos c4])
      | exact qv (hQ h (fun _ _ => rfl) z0) (by unfold aWays; rw [if_neg c4])

theorem wX8_weight {G : GT} {δ : Nat} {h hl : Nat → Int → Int} {b : Bool × Bool} {Q : V → Hp → Prop} {R : Int → Int} {L : Laws} (hδ : δ ≤ 1640) (C : CT h R L) (z0 : h 324 0 = 0) (hQ : ∀ h' : Nat → Int → Int, eqS h h' → h' 324 0 = 0 → Q (vi (aWeight R)) (HS h' hl b)) : WP G δ 0 0 MX8_weight 0 [vr (1)] [] (HS h hl b) Q := by
  obtain ⟨⟨s0, s3, s4, s1, s2, s5⟩, ⟨t0, t1, t5, t6, t7⟩, ⟨g7, g8, g11, g10, g10x⟩⟩ := C.1.f
  have vn' := C.2.1.n
  have vw := C.2.1.w
  refine al_0 dX8_weight_0 ?_
  refine c_X8_195 dX8_weight_1 rfl tt1 (Nat.le_of_ble_eq_true rfl) (by omega) ?_
  refine wX8_setsNow (by omega) C z0 (fun h1 E1 Sp1 => ?_)
  have C1 := C.sx E1
  have V := C.2.1
  have q1 : h1 3 1 = R 10 := C1.1.f.1.2.2.2.1
  refine pv_r ?_
  refine c_X8_219 dX8_weight_4 rfl tt323 (Nat.le_of_ble_eq_true rfl) (by omega) ?_
  refine wX4_leastTurned (by omega) Sp1 V ?_
  refine pv_i ?_
  refine wp_ireti dX8_weight_7 rfl ?_
  exact hQ h1 E1 (by rw [Sp1.2.2 0 (by omega) (by have := nS_e V; omega)]; exact tT_0)

theorem wX8_kernel {G : GT} {δ : Nat} {h hl : Nat → Int → Int} {b : Bool × Bool} {Q : V → Hp → Prop} {i : Int} {R : Int → Int} {L : Laws} (hδ : δ ≤ 1640) (C : CT h R L) (z0 : h 324 0 = 0) (hQ : ∀ h' : Nat → Int → Int, eqS h h' → h' 324 0 = 0 → Q (vi (aKernel R i)) (HS h' hl b)) : WP G δ 0 0 MX8_kernel 0 [vr (1), vi i, vn] [] (HS h hl b) Q := by
  obtain ⟨⟨s0, s3, s4, s1, s2, s5⟩, ⟨t0, t1, t5, t6, t7⟩, ⟨g7, g8, g11, g10, g10x⟩⟩ := C.1.f
  have vn' := C.2.1.n
  have vw := C.2.1.w
  refine al_0 dX8_kernel_0 ?_
  refine c_X8_195 dX8_kernel_1 rfl tt1 (Nat.le_of_ble_eq_true rfl) (by omega) ?_
  refine wX8_setsNow (by omega) C z0 (fun h1 E1 Sp1 => ?_)
  have C1 := C.sx E1
  have V := C.2.1
  have q1 : h1 3 1 = R 10 := C1.1.f.1.2.2.2.1
  refine pv_r ?_
  refine as_2 dX8_kernel_4 rfl (by decide) ?_
  refine il_1 dX8_kernel_5 ?_
  refine ic_m1 dX8_kernel_6 ?_
  refine wp_icmp_ne 20 dX8_kernel_7 rfl (fun c7 => ?_) (fun c7 => ?_)
  · refine al_2 dX8_kernel_20 ?_
    refine il_1 dX8_kernel_21 ?_
    refine c_X8_231 dX8_kernel_22 rfl tt323 (Nat.le_of_ble_eq_true rfl) (by omega) ?_
    refine wX4_turningNothing (by omega) Sp1 V ?_
    refine pv_i ?_
    refine wp_ireti dX8_kernel_25 rfl ?_
    refine qv (hQ h1 E1 (by rw [Sp1.2.2 0 (by omega) (by have := nS_e V; omega)]; exact tT_0)) ?_
    unfold aKernel
    first | (rw [if_pos c7]; omega) | rw [if_neg c7]
  · refine al_2 dX8_kernel_10 ?_
    refine ic_0 dX8_kernel_11 ?_
    refine c_X8_216 dX8_kernel_12 rfl tt323 (Nat.le_of_ble_eq_true rfl) (by omega) ?_
    refine wX4_howMany (by omega) Sp1 V ?_
    have nk : ((nSn R : Nat) : Int) = nS R := Int.toNat_of_nonneg (by have := nS_e V; omega)
    have ne := nS_e V
    rw [ker_cnt (nSn R) (by omega)]
    have cr := cntN_R (P := kerP R) (nSn R)
    refine pv_i ?_
    refine ic_1 dX8_kernel_15 ?_
    refine wp_isub dX8_kernel_16 (r32 (by omega) (by omega)) ?_
    refine wp_goto 25 dX8_kernel_17 rfl ?_
    refine wp_ireti dX8_kernel_25 rfl ?_
    refine qv (hQ h1 E1 (by rw [Sp1.2.2 0 (by omega) (by have := nS_e V; omega)]; exact tT_0)) ?_
    unfold aKernel
    first | (rw [if_pos c7]; omega) | rw [if_neg c7]

theorem wX8_whodid {G : GT} {δ : Nat} {h hl : Nat → Int → Int} {b : Bool × Bool} {Q : V → Hp → Prop} {m mo : Int} {R : Int → Int} {L : Laws} (hδ : δ ≤ 1640) (C : CT h R L) {I : Int → Int} (z0 : h 324 0 = 0) (hI : h 159 1 = I 10) (hQ : ∀ h' : Nat → Int → Int, eqS h h' → h' 324 0 = 0 → Q (vi (aWhodid R I m mo)) (HS h' hl b)) : WP G δ 0 0 MX8_whodid 0 [vr (1), vi m, vi mo, vn] [] (HS h hl b) Q := by
  obtain ⟨⟨s0, s3, s4, s1, s2, s5⟩, ⟨t0, t1, t5, t6, t7⟩, ⟨g7, g8, g11, g10, g10x⟩⟩ := C.1.f
  have vn' := C.2.1.n
  have vw := C.2.1.w
  refine il_1 dX8_whodid_0 ?_
  refine wp_if_lt 10 dX8_whodid_1 rfl (fun c1 => ?_) (fun c1 => ?_)
  · refine ic_m1 dX8_whodid_10 ?_
    refine wp_ireti dX8_whodid_11 rfl ?_
    exact qv (hQ h (fun _ _ => rfl) z0) (by unfold aWhodid; rw [if_neg (by omega)])
  · refine il_1 dX8_whodid_4 ?_
    refine bi_8 dX8_whodid_5 ?_
    refine wp_icmp_le 12 dX8_whodid_7 rfl (fun c7 => ?_) (fun c7 => ?_)
    · refine al_0 dX8_whodid_12 ?_
      refine g_X8_12 (2) dX8_whodid_13 rfl tt1 (rr8_0 tt1) (by omega) ?_
      refine g_X8_112 (3) dX8_whodid_16 rfl tt2 (rr7_0 tt2) (by omega) ?_
      refine g_X8_170 dX8_whodid_19 rfl tt3 ?_
      rw [s1]
      refine al_0 dX8_whodid_22 ?_
      refine g_X8_16 (158) dX8_whodid_23 rfl tt1 (rr8_1 tt1) (by omega) ?_
      refine g_X8_112 (159) dX8_whodid_26 rfl tt158 (rr7_0 tt158) (by omega) ?_
      refine g_X8_170 dX8_whodid_29 rfl tt159 ?_
      rw [hI]
      refine wp_ixor dX8_whodid_32 ?_
      refine is_3 dX8_whodid_33 rfl (by decide) ?_
      refine il_2 dX8_whodid_34 ?_
      refine wp_if_eq 50 dX8_whodid_35 rfl (fun c35 => ?_) (fun c35 => ?_)
      · refine al_0 dX8_whodid_50 ?_
        refine c_X8_195 dX8_whodid_51 rfl tt1 (Nat.le_of_ble_eq_true rfl) (by omega) ?_
        refine wX8_setsNow (by omega) C z0 (fun h1 E1 Sp1 => ?_)
        have C1 := C.sx E1
        have V := C.2.1
        have q1 : h1 3 1 = R 10 := C1.1.f.1.2.2.2.1
        refine pv_r ?_
        refine il_1 dX8_whodid_54 ?_
        refine il_3 dX8_whodid_55 ?_
        refine c_X8_313 dX8_whodid_56 rfl tt323 (Nat.le_of_ble_eq_true rfl) (by omega) ?_
        refine wX4_howManyOf (by omega) Sp1 V ?_
        refine pv_i ?_
        refine wp_ireti dX8_whodid_59 rfl ?_
        refine qv (hQ h1 E1 (by rw [Sp1.2.2 0 (by omega) (by have := nS_e V; omega)]; exact tT_0)) ?_
        unfold aWhodid
        rw [if_pos (by omega)]
        first | rw [if_pos c35] | rw [if_neg c35]
      · refine al_0 dX8_whodid_38 ?_
        refine c_X8_195 dX8_whodid_39 rfl tt1 (Nat.le_of_ble_eq_true rfl) (by omega) ?_
        refine wX8_setsNow (by omega) C z0 (fun h1 E1 Sp1 => ?_)
        have C1 := C.sx E1
        have V := C.2.1
        have q1 : h1 3 1 = R 10 := C1.1.f.1.2.2.2.1
        refine pv_r ?_
        refine il_1 dX8_whodid_42 ?_
        refine il_3 dX8_whodid_43 ?_
        refine c_X8_310 dX8_whodid_44 rfl tt323 (Nat.le_of_ble_eq_true rfl) (by omega) ?_
        refine wX4_lowestOf (by omega) Sp1 V ?_
        refine pv_i ?_
        refine wp_goto 59 dX8_whodid_47 rfl ?_
        refine wp_ireti dX8_whodid_59 rfl ?_
        refine qv (hQ h1 E1 (by rw [Sp1.2.2 0 (by omega) (by have := nS_e V; omega)]; exact tT_0)) ?_
        unfold aWhodid
        rw [if_pos (by omega)]
        first | rw [if_pos c35] | rw [if_neg c35]
    · refine ic_m1 dX8_whodid_10 ?_
      refine wp_ireti dX8_whodid_11 rfl ?_
      exact qv (hQ h (fun _ _ => rfl) z0) (by unfold aWhodid; rw [if_neg (by omega)])

theorem wX8_lights {G : GT} {δ : Nat} {h hl : Nat → Int → Int} {b : Bool × Bool} {Q : V → Hp → Prop} {mo : Int} {R : Int → Int} {L : Laws} (hδ : δ ≤ 1640) (C : CT h R L) (z0 : h 324 0 = 0) (hQ : ∀ h' : Nat → Int → Int, eqS h h' → h' 324 0 = 0 → Q (vi (aLights R mo)) (HS h' hl b)) : WP G δ 0 0 MX8_lights 0 [vr (1), vi mo, vn] [] (HS h hl b) Q := by
  obtain ⟨⟨s0, s3, s4, s1, s2, s5⟩, ⟨t0, t1, t5, t6, t7⟩, ⟨g7, g8, g11, g10, g10x⟩⟩ := C.1.f
  have vn' := C.2.1.n
  have vw := C.2.1.w
  refine al_0 dX8_lights_0 ?_
  refine c_X8_195 dX8_lights_1 rfl tt1 (Nat.le_of_ble_eq_true rfl) (by omega) ?_
  refine wX8_setsNow (by omega) C z0 (fun h1 E1 Sp1 => ?_)
  have C1 := C.sx E1
  have V := C.2.1
  have q1 : h1 3 1 = R 10 := C1.1.f.1.2.2.2.1
  refine pv_r ?_
  refine al_0 dX8_lights_4 ?_
  refine g_X8_12 (2) dX8_lights_5 rfl tt1 (rr8_0 tt1) (by omega) ?_
  refine g_X8_112 (3) dX8_lights_8 rfl tt2 (rr7_0 tt2) (by omega) ?_
  refine g_X8_170 dX8_lights_11 rfl tt3 ?_
  rw [q1]
  refine al_0 dX8_lights_14 ?_
  refine g_X8_12 (2) dX8_lights_15 rfl tt1 (rr8_0 tt1) (by omega) ?_
  refine g_X8_240 (11) dX8_lights_18 rfl tt2 (rr7_3 tt2) (by omega) ?_
  refine c_X8_250 dX8_lights_21 rfl tt323 (Nat.le_of_ble_eq_true rfl) (by omega) ?_
  refine wX4_fewestLighting (by omega) Sp1 C1 ?_
  refine pv_i ?_
  refine is_2 dX8_lights_24 rfl (by decide) ?_
  refine il_1 dX8_lights_25 ?_
  refine wp_if_eq 36 dX8_lights_26 rfl (fun c26 => ?_) (fun c26 => ?_)
  · refine il_2 dX8_lights_36 ?_
    refine wp_ireti dX8_lights_37 rfl ?_
    refine qv (hQ h1 E1 (by rw [Sp1.2.2 0 (by omega) (by have := nS_e V; omega)]; exact tT_0)) ?_
    unfold aLights
    first
      | rw [if_pos (Or.inl c26)]
      | (by_cases z : fewA (lgP R) (nSn R) = -1
         · rw [if_pos (Or.inr z), if_pos z]; exact z
         · rw [if_neg (fun y => by rcases y with y | y; exact c26 y; exact z y), if_neg z])
  · refine il_2 dX8_lights_29 ?_
    refine c_X8_213 dX8_lights_30 rfl (Nat.le_of_ble_eq_true rfl) (by omega) ?_
    have fr := fewA_R (P := lgP R) (nSn R)
    have nk : ((nSn R : Nat) : Int) = nS R := Int.toNat_of_nonneg (by have := nS_e V; omega)
    have ne := nS_e V
    refine wX8_sizeOf (by omega) (by omega) (by omega) ?_
    refine pv_i ?_
    refine wp_goto 37 dX8_lights_33 rfl ?_
    refine wp_ireti dX8_lights_37 rfl ?_
    refine qv (hQ h1 E1 (by rw [Sp1.2.2 0 (by omega) (by have := nS_e V; omega)]; exact tT_0)) ?_
    unfold aLights
    first
      | rw [if_pos (Or.inl c26)]
      | (by_cases z : fewA (lgP R) (nSn R) = -1
         · rw [if_pos (Or.inr z), if_pos z]; exact z
         · rw [if_neg (fun y => by rcases y with y | y; exact c26 y; exact z y), if_neg z])

theorem wX9_ways_13 {G : GT} {δ : Nat} {h hl : Nat → Int → Int} {b : Bool × Bool} {Q : V → Hp → Prop} {x : Int} {R : Int → Int} {L : Laws} (hδ : δ ≤ 1660) (M : MT h R L) (x0 : 0 ≤ x) (x1 : x < 1024) : ∀ (n : Nat) (w : Int) (s : Int), ((nS R - s).toNat) < n → (0 ≤ s) → (s ≤ nS R) → (w = cntN (eqP R (bxor x (R 10))) s.toNat) → (Q (vi (cntN (eqP R (bxor x (R 10))) (nSn R))) (HS h hl b)) → WP G δ 0 0 MX9_ways 13 [vr (336), vi x, vi w, vi s] [] (HS h hl b) Q := by
  intro n
  induction n with
  | zero => intro w s hlt; exact absurd hlt (Nat.not_lt_zero _)
  | succ n ih =>
    intro w s hlt s0 s1 hw hQ
    have m := M.1
    have V := M.2.1
    have vn' := V.n
    have vw := V.w
    have nn := nS_e V
    have cr := cntN_R (P := eqP R (bxor x (R 10))) s.toNat
    have tr := tT_R V s
    have bi := bx_iff tr.1 tr.2 vw.2.2.1.1 vw.2.2.1.2 x0 x1
    refine il_3 dX9_ways_13 ?_
    refine al_0 dX9_ways_14 ?_
    refine c_X9_402 dX9_ways_15 rfl tt336 (Nat.le_of_ble_eq_true rfl) (by omega) ?_
    refine wX9_sets (by omega) ?_
    rw [m, show shl 1 (R 1) = nS R from rfl]
    refine pv_i ?_
    refine wp_icmp_ge 52 dX9_ways_18 rfl (fun c18 => ?_) (fun c18 => ?_)
    · have e : s = nS R := by omega
      refine il_2 dX9_ways_52 ?_
      refine wp_ireti dX9_ways_53 rfl ?_
      exact qv hQ (by rw [hw, e]; rfl)
    · refine il_2 dX9_ways_21 ?_
      refine al_0 dX9_ways_22 ?_
      refine il_3 dX9_ways_23 ?_
      refine c_X9_393 dX9_ways_24 rfl tt336 (Nat.le_of_ble_eq_true rfl) (by omega) ?_
      refine wX9_turned (by omega) (by rw [m]; omega) (by rw [m]; omega) (by rw [m]; exact V.di) (by omega) (by omega) ?_
      rw [m, show tuM (fun i => R (29 + i)) _ (R 1).toNat = tT R _ from rfl]
      refine pv_i ?_
      refine al_0 dX9_ways_27 ?_
      refine g_X9_7 (337) dX9_ways_28 rfl tt336 (rr9_0 tt336) (by omega) ?_
      refine bi_10 dX9_ways_31 ?_
      refine wp_iaload dX9_ways_33 tt337 (by omega) (by omega) ?_
      first | rw [m2] | rw [m1] | rw [m] | rw [sw_s] | skip
      refine wp_ixor dX9_ways_34 ?_
      refine il_1 dX9_ways_35 ?_
      refine wp_icmp_ne 43 dX9_ways_36 rfl (fun c36 => ?_) (fun c36 => ?_)
      · refine ic_0 dX9_ways_43 ?_
        refine wp_iadd dX9_ways_44 (r32 (by omega) (by omega)) ?_
        refine is_2 dX9_ways_45 rfl (by decide) ?_
        refine ii_3 dX9_ways_46 rfl (by decide) ⟨by decide, by decide⟩ (r32 (by omega) (by omega)) ?_
        refine wp_goto 13 dX9_ways_49 rfl ?_
        refine ih _ (s + 1) (by omega) (by omega) (by omega) ?_ hQ
        rw [cntN_s s0, ← hw]
        rw [bi] at c36
        unfold eqP
        simp [c36]
      · refine ic_1 dX9_ways_39 ?_
        refine wp_goto 44 dX9_ways_40 rfl ?_
        refine wp_iadd dX9_ways_44 (r32 (by omega) (by omega)) ?_
        refine is_2 dX9_ways_45 rfl (by decide) ?_
        refine ii_3 dX9_ways_46 rfl (by decide) ⟨by decide, by decide⟩ (r32 (by omega) (by omega)) ?_
        refine wp_goto 13 dX9_ways_49 rfl ?_
        refine ih _ (s + 1) (by omega) (by omega) (by omega) ?_ hQ
        rw [cntN_s s0, ← hw]
        rw [bi] at c36
        unfold eqP
        simp [c36]

theorem wX9_ways {G : GT} {δ : Nat} {h hl : Nat → Int → Int} {b : Bool × Bool} {Q : V → Hp → Prop} {x : Int} {R : Int → Int} {L : Laws} (hδ : δ ≤ 1660) (M : MT h R L)  (hQ : Q (vi (aWays R x)) (HS h hl b)) : WP G δ 0 0 MX9_ways 0 [vr (336), vi x, vn, vn] [] (HS h hl b) Q := by
  have m := M.1
  have V := M.2.1
  have vn' := V.n
  have vw := V.w
  refine il_1 dX9_ways_0 ?_
  refine c_X9_81 dX9_ways_1 rfl (Nat.le_of_ble_eq_true rfl) (by omega) ?_
  refine wX9_isPattern (by omega) ?_
  refine pv_i ?_
  refine wp_if_ne 9 dX9_ways_4 rfl (fun c4 => ?_) (fun c4 => ?_)
  · rw [b2i_n0] at c4
    refine ic_0 dX9_ways_9 ?_
    refine is_2 dX9_ways_10 rfl (by decide) ?_
    refine ic_0 dX9_ways_11 ?_
    refine is_3 dX9_ways_12 rfl (by decide) ?_
    have nn := nS_e V
    exact wX9_ways_13 (by omega) M (by omega) (by omega) _ 0 0 (Nat.lt_succ_self _) (by omega) (by omega) rfl (qv hQ (by unfold aWays; rw [if_pos c4]))
  · rw [b2i_0] at c4
    refine ic_m1 dX9_ways_7 ?_
    refine wp_ireti dX9_ways_8 rfl ?_
    exact qv hQ (by unfold aWays; rw [if_neg c4])

theorem wX9_weight_4 {G : GT} {δ : Nat} {h hl : Nat → Int → Int} {b : Bool × Bool} {Q : V → Hp → Prop}  {R : Int → Int} {L : Laws} (hδ : δ ≤ 1660) (M : MT h R L)  : ∀ (n : Nat) (f : Int) (s : Int) (c3 : V), ((nS R - s).toNat) < n → (1 ≤ s) → (s ≤ nS R) → (f = lwN R s.toNat) → (Q (vi (aWeight R)) (HS h hl b)) → WP G δ 0 0 MX9_weight 4 [vr (336), vi f, vi s, c3] [] (HS h hl b) Q := by
  intro n
  induction n with
  | zero => intro f s c3 hlt; exact absurd hlt (Nat.not_lt_zero _)
  | succ n ih =>
    intro f s c3 hlt s0 s1 hf hQ
    have m := M.1
    have V := M.2.1
    have vn' := V.n
    have vw := V.w
    have nn := nS_e V
    have tr := tT_R V s
    refine il_2 dX9_weight_4 ?_
    refine al_0 dX9_weight_5 ?_
    refine c_X9_402 dX9_weight_6 rfl tt336 (Nat.le_of_ble_eq_true rfl) (by omega) ?_
    refine wX9_sets (by omega) ?_
    rw [m, show shl 1 (R 1) = nS R from rfl]
    refine pv_i ?_
    refine wp_icmp_ge 43 dX9_weight_9 rfl (fun c9 => ?_) (fun c9 => ?_)
    · have e : s = nS R := by omega
      refine il_1 dX9_weight_43 ?_
      refine wp_ireti dX9_weight_44 rfl ?_
      exact qv hQ (by rw [hf, e]; rfl)
    · refine al_0 dX9_weight_12 ?_
      refine il_2 dX9_weight_13 ?_
      refine c_X9_393 dX9_weight_14 rfl tt336 (Nat.le_of_ble_eq_true rfl) (by omega) ?_
      refine wX9_turned (by omega) (by rw [m]; omega) (by rw [m]; omega) (by rw [m]; exact V.di) (by omega) (by omega) ?_
      rw [m, show tuM (fun i => R (29 + i)) _ (R 1).toNat = tT R _ from rfl]
      refine pv_i ?_
      refine c_X9_298 dX9_weight_17 rfl (Nat.le_of_ble_eq_true rfl) (by omega) ?_
      refine wX9_bits (by omega) (by omega) (by omega) ?_
      refine pv_i ?_
      refine is_3 dX9_weight_20 rfl (by decide) ?_
      refine il_3 dX9_weight_21 ?_
      refine wp_if_le 37 dX9_weight_22 rfl (fun c22 => ?_) (fun c22 => ?_)
      · refine ii_2 dX9_weight_37 rfl (by decide) ⟨by decide, by decide⟩ (r32 (by omega) (by omega)) ?_
        refine wp_goto 4 dX9_weight_40 rfl ?_
        refine wp_fg (ls' := [_, _, _, vn]) ⟨Or.inr rfl, Or.inr rfl, Or.inr rfl, Or.inl rfl, trivial⟩ ?_
        refine ih _ (s + 1) _ (by omega) (by omega) (by omega) ?_ hQ
        rw [lwN_s (by omega), ← hf]
        first | rw [if_pos (by omega)] | rw [if_neg (by omega)]
      · refine il_1 dX9_weight_25 ?_
        refine ic_m1 dX9_weight_26 ?_
        refine wp_icmp_eq 35 dX9_weight_27 rfl (fun c27 => ?_) (fun c27 => ?_)
        · refine il_3 dX9_weight_35 ?_
          refine is_1 dX9_weight_36 rfl (by decide) ?_
          refine ii_2 dX9_weight_37 rfl (by decide) ⟨by decide, by decide⟩ (r32 (by omega) (by omega)) ?_
          refine wp_goto 4 dX9_weight_40 rfl ?_
          refine wp_fg (ls' := [_, _, _, vn]) ⟨Or.inr rfl, Or.inr rfl, Or.inr rfl, Or.inl rfl, trivial⟩ ?_
          refine ih _ (s + 1) _ (by omega) (by omega) (by omega) ?_ hQ
          rw [lwN_s (by omega), ← hf]
          first | rw [if_pos (by omega)] | rw [if_neg (by omega)]
        · refine il_3 dX9_weight_30 ?_
          refine il_1 dX9_weight_31 ?_
          refine wp_icmp_ge 37 dX9_weight_32 rfl (fun c32 => ?_) (fun c32 => ?_)
          · refine ii_2 dX9_weight_37 rfl (by decide) ⟨by decide, by decide⟩ (r32 (by omega) (by omega)) ?_
            refine wp_goto 4 dX9_weight_40 rfl ?_
            refine wp_fg (ls' := [_, _, _, vn]) ⟨Or.inr rfl, Or.inr rfl, Or.inr rfl, Or.inl rfl, trivial⟩ ?_
            refine ih _ (s + 1) _ (by omega) (by omega) (by omega) ?_ hQ
            rw [lwN_s (by omega), ← hf]
            first | rw [if_pos (by omega)] | rw [if_neg (by omega)]
          · refine il_3 dX9_weight_35 ?_
            refine is_1 dX9_weight_36 rfl (by decide) ?_
            refine ii_2 dX9_weight_37 rfl (by decide) ⟨by decide, by decide⟩ (r32 (by omega) (by omega)) ?_
            refine wp_goto 4 dX9_weight_40 rfl ?_
            refine wp_fg (ls' := [_, _, _, vn]) ⟨Or.inr rfl, Or.inr rfl, Or.inr rfl, Or.inl rfl, trivial⟩ ?_
            refine ih _ (s + 1) _ (by omega) (by omega) (by omega) ?_ hQ
            rw [lwN_s (by omega), ← hf]
            first | rw [if_pos (by omega)] | rw [if_neg (by omega)]

theorem wX9_weight {G : GT} {δ : Nat} {h hl : Nat → Int → Int} {b : Bool × Bool} {Q : V → Hp → Prop} {R : Int → Int} {L : Laws} (hδ : δ ≤ 1660) (M : MT h R L)  (hQ : Q (vi (aWeight R)) (HS h hl b)) : WP G δ 0 0 MX9_weight 0 [vr (336), vn, vn, vn] [] (HS h hl b) Q := by
  have m := M.1
  have V := M.2.1
  have vn' := V.n
  have vw := V.w
  refine ic_m1 dX9_weight_0 ?_
  refine is_1 dX9_weight_1 rfl (by decide) ?_
  refine ic_1 dX9_weight_2 ?_
  refine is_2 dX9_weight_3 rfl (by decide) ?_
  have nn := nS_e V
  have p0 : pc (0 : Int) = 0 := by decide
  exact wX9_weight_4 (by omega) M _ (-1) 1 _ (Nat.lt_succ_self _) (by omega) (by omega) (by show -1 = lwN R 1; unfold lwN; rw [show ((0 : Nat) : Int) = 0 from rfl, tT_0, if_neg (by rw [p0]; omega)]; rfl) hQ

theorem wX9_kernel_8 {G : GT} {δ : Nat} {h hl : Nat → Int → Int} {b : Bool × Bool} {Q : V → Hp → Prop} {i : Int} {R : Int → Int} {L : Laws} (hδ : δ ≤ 1660) (M : MT h R L)  : ∀ (n : Nat) (w : Int) (f : Int) (s : Int), ((nS R - s).toNat) < n → (1 ≤ s) → (s ≤ nS R) → (w = cntN (kerP R) s.toNat) → (f = keN R i s.toNat) → (Q (vi (aKernel R i)) (HS h hl b)) → WP G δ 0 0 MX9_kernel 8 [vr (336), vi i, vi w, vi f, vi s] [] (HS h hl b) Q := by
  intro n
  induction n with
  | zero => intro w f s hlt; exact absurd hlt (Nat.not_lt_zero _)
  | succ n ih =>
    intro w f s hlt s0 s1 hw hf hQ
    have m := M.1
    have V := M.2.1
    have vn' := V.n
    have vw := V.w
    have nn := nS_e V
    have cr := cntN_R (P := kerP R) s.toNat
    have kv : kerP R s = (tT R s == 0) := by unfold kerP; rw [decide_eq_true s0]; rfl
    refine il_4 dX9_kernel_8 ?_
    refine al_0 dX9_kernel_10 ?_
    refine c_X9_402 dX9_kernel_11 rfl tt336 (Nat.le_of_ble_eq_true rfl) (by omega) ?_
    refine wX9_sets (by omega) ?_
    rw [m, show shl 1 (R 1) = nS R from rfl]
    refine pv_i ?_
    refine wp_icmp_ge 46 dX9_kernel_14 rfl (fun c14 => ?_) (fun c14 => ?_)
    · have e : s = nS R := by omega
      refine il_1 dX9_kernel_46 ?_
      refine ic_m1 dX9_kernel_47 ?_
      refine wp_icmp_ne 55 dX9_kernel_48 rfl (fun c48 => ?_) (fun c48 => ?_)
      · refine il_3 dX9_kernel_55 ?_
        refine wp_ireti dX9_kernel_56 rfl ?_
        refine qv hQ ?_
        unfold aKernel
        first | (rw [if_pos c48, hw, e]; rfl) | (rw [if_neg c48, hf, e]; rfl)
      · refine il_2 dX9_kernel_51 ?_
        refine wp_goto 56 dX9_kernel_52 rfl ?_
        refine wp_ireti dX9_kernel_56 rfl ?_
        refine qv hQ ?_
        unfold aKernel
        first | (rw [if_pos c48, hw, e]; rfl) | (rw [if_neg c48, hf, e]; rfl)
    · refine al_0 dX9_kernel_17 ?_
      refine il_4 dX9_kernel_18 ?_
      refine c_X9_393 dX9_kernel_20 rfl tt336 (Nat.le_of_ble_eq_true rfl) (by omega) ?_
      refine wX9_turned (by omega) (by rw [m]; omega) (by rw [m]; omega) (by rw [m]; exact V.di) (by omega) (by omega) ?_
      rw [m, show tuM (fun i => R (29 + i)) _ (R 1).toNat = tT R _ from rfl]
      refine pv_i ?_
      refine wp_if_eq 29 dX9_kernel_23 rfl (fun c23 => ?_) (fun c23 => ?_)
      · refine il_2 dX9_kernel_29 ?_
        refine il_1 dX9_kernel_30 ?_
        refine wp_icmp_ne 37 dX9_kernel_31 rfl (fun c31 => ?_) (fun c31 => ?_)
        · refine ii_2 dX9_kernel_37 rfl (by decide) ⟨by decide, by decide⟩ (r32 (by omega) (by omega)) ?_
          refine ii_4 dX9_kernel_40 rfl (by decide) ⟨by decide, by decide⟩ (r32 (by omega) (by omega)) ?_
          refine wp_goto 8 dX9_kernel_43 rfl ?_
          first
            | (have kf : kerP R s = false := by rw [kv]; simpa using c23
               refine ih _ _ (s + 1) (by omega) (by omega) (by omega) (by rw [cntN_s (by omega), kf, ← hw]; simp) (by rw [keN_s (by omega), kf, if_neg (by simp), ← hf]) hQ)
            | (have kt : kerP R s = true := by rw [kv, c23]; rfl
               refine ih _ _ (s + 1) (by omega) (by omega) (by omega) (by rw [cntN_s (by omega), kt, ← hw]; simp) ?_ hQ
               rw [keN_s (by omega), kt, ← hw, ← hf]
               first | rw [if_pos (And.intro rfl c31)] | rw [if_neg (fun z => by omega)])
        · refine il_4 dX9_kernel_34 ?_
          refine is_3 dX9_kernel_36 rfl (by decide) ?_
          refine ii_2 dX9_kernel_37 rfl (by decide) ⟨by decide, by decide⟩ (r32 (by omega) (by omega)) ?_
          refine ii_4 dX9_kernel_40 rfl (by decide) ⟨by decide, by decide⟩ (r32 (by omega) (by omega)) ?_
          refine wp_goto 8 dX9_kernel_43 rfl ?_
          first
            | (have kf : kerP R s = false := by rw [kv]; simpa using c23
               refine ih _ _ (s + 1) (by omega) (by omega) (by omega) (by rw [cntN_s (by omega), kf, ← hw]; simp) (by rw [keN_s (by omega), kf, if_neg (by simp), ← hf]) hQ)
            | (have kt : kerP R s = true := by rw [kv, c23]; rfl
               refine ih _ _ (s + 1) (by omega) (by omega) (by omega) (by rw [cntN_s (by omega), kt, ← hw]; simp) ?_ hQ
               rw [keN_s (by omega), kt, ← hw, ← hf]
               first | rw [if_pos (And.intro rfl c31)] | rw [if_neg (fun z => by omega)])
      · refine wp_goto 40 dX9_kernel_26 rfl ?_
        refine ii_4 dX9_kernel_40 rfl (by decide) ⟨by decide, by decide⟩ (r32 (by omega) (by omega)) ?_
        refine wp_goto 8 dX9_kernel_43 rfl ?_
        first
          | (have kf : kerP R s = false := by rw [kv]; simpa using c23
             refine ih _ _ (s + 1) (by omega) (by omega) (by omega) (by rw [cntN_s (by omega), kf, ← hw]; simp) (by rw [keN_s (by omega), kf, if_neg (by simp), ← hf]) hQ)
          | (have kt : kerP R s = true := by rw [kv, c23]; rfl
             refine ih _ _ (s + 1) (by omega) (by omega) (by omega) (by rw [cntN_s (by omega), kt, ← hw]; simp) ?_ hQ
             rw [keN_s (by omega), kt, ← hw, ← hf]
             first | rw [if_pos (And.intro rfl c31)] | rw [if_neg (fun z => by omega)])

theorem wX9_kernel {G : GT} {δ : Nat} {h hl : Nat → Int → Int} {b : Bool × Bool} {Q : V → Hp → Prop} {i : Int} {R : Int → Int} {L : Laws} (hδ : δ ≤ 1660) (M : MT h R L)  (hQ : Q (vi (aKernel R i)) (HS h hl b)) : WP G δ 0 0 MX9_kernel 0 [vr (336), vi i, vn, vn, vn] [] (HS h hl b) Q := by
  have m := M.1
  have V := M.2.1
  have vn' := V.n
  have vw := V.w
  refine ic_0 dX9_kernel_0 ?_
  refine is_2 dX9_kernel_1 rfl (by decide) ?_
  refine bi_m2 dX9_kernel_2 ?_
  refine is_3 dX9_kernel_4 rfl (by decide) ?_
  refine ic_1 dX9_kernel_5 ?_
  refine is_4 dX9_kernel_6 rfl (by decide) ?_
  have nn := nS_e V
  exact wX9_kernel_8 (by omega) M _ 0 (-2) 1 (Nat.lt_succ_self _) (by omega) (by omega) (by show 0 = cntN (kerP R) 1; unfold cntN kerP; simp [cntN]) (by show -2 = keN R i 1; unfold keN kerP; simp [keN]) hQ

theorem wX9_whodid_20 {G : GT} {δ : Nat} {h hl : Nat → Int → Int} {b : Bool × Bool} {Q : V → Hp → Prop} {m0 mo x : Int} {I : Int → Int} {R : Int → Int} {L : Laws} (hδ : δ ≤ 1660) (M : MT h R L) (hI : h 338 10 = I 10) (hx : x = bxor (R 10) (I 10)) : ∀ (n : Nat) (w : Int) (f : Int) (s : Int), ((nS R - s).toNat) < n → (0 ≤ s) → (s ≤ nS R) → (w = cntN (ofP R m0 x) s.toNat) → (f = loN (ofP R m0 x) s.toNat) → (Q (vi (if mo = 0 then cntN (ofP R m0 x) (nSn R) else loN (ofP R m0 x) (nSn R))) (HS h hl b)) → WP G δ 0 0 MX9_whodid 20 [vr (336), vi m0, vi mo, vi w, vi f, vi s] [] (HS h hl b) Q := by
  intro n
  induction n with
  | zero => intro w f s hlt; exact absurd hlt (Nat.not_lt_zero _)
  | succ n ih =>
    intro w f s hlt s0 s1 hw hf hQ
    have m := M.1
    have V := M.2.1
    have vn' := V.n
    have vw := V.w
    have nn := nS_e V
    have cr := cntN_R (P := ofP R m0 x) s.toNat
    refine il_5 dX9_whodid_20 ?_
    refine al_0 dX9_whodid_22 ?_
    refine c_X9_402 dX9_whodid_23 rfl tt336 (Nat.le_of_ble_eq_true rfl) (by omega) ?_
    refine wX9_sets (by omega) ?_
    rw [m, show shl 1 (R 1) = nS R from rfl]
    refine pv_i ?_
    refine wp_icmp_ge 89 dX9_whodid_26 rfl (fun c26 => ?_) (fun c26 => ?_)
    · have e : s = nS R := by omega
      refine il_2 dX9_whodid_89 ?_
      refine wp_if_eq 98 dX9_whodid_90 rfl (fun c90 => ?_) (fun c90 => ?_)
      · refine il_3 dX9_whodid_98 ?_
        refine wp_ireti dX9_whodid_99 rfl ?_
        refine qv hQ ?_
        first | (rw [if_pos c90, hw, e]; rfl) | (rw [if_neg c90, hf, e]; rfl)
      · refine il_4 dX9_whodid_93 ?_
        refine wp_goto 99 dX9_whodid_95 rfl ?_
        refine wp_ireti dX9_whodid_99 rfl ?_
        refine qv hQ ?_
        first | (rw [if_pos c90, hw, e]; rfl) | (rw [if_neg c90, hf, e]; rfl)
    · refine il_5 dX9_whodid_29 ?_
      refine c_X9_298 dX9_whodid_31 rfl (Nat.le_of_ble_eq_true rfl) (by omega) ?_
      refine wX9_bits (by omega) (by omega) (by omega) ?_
      refine pv_i ?_
      refine il_1 dX9_whodid_34 ?_
      refine wp_icmp_ne 83 dX9_whodid_35 rfl (fun c35 => ?_) (fun c35 => ?_)
      · refine ii_5 dX9_whodid_83 rfl (by decide) ⟨by decide, by decide⟩ (r32 (by omega) (by omega)) ?_
        refine wp_goto 20 dX9_whodid_86 rfl ?_
        first
          | (have kf : ofP R m0 x s = false := by unfold ofP; simp [c35]
             exact ih _ _ (s + 1) (by omega) (by omega) (by omega) (by rw [cntN_s s0, kf, ← hw]; simp) (by rw [loN_s s0, kf, if_neg (by simp), ← hf]) hQ)
          | (have kf : ofP R m0 x s = false := by unfold ofP; rw [hx]; simp [c59]
             exact ih _ _ (s + 1) (by omega) (by omega) (by omega) (by rw [cntN_s s0, kf, ← hw]; simp) (by rw [loN_s s0, kf, if_neg (by simp), ← hf]) hQ)
          | (have kt : ofP R m0 x s = true := by unfold ofP; rw [hx]; simp [c35, c59]
             exact ih _ _ (s + 1) (by omega) (by omega) (by omega) (by rw [cntN_s s0, kt, ← hw]; simp) (by rw [loN_s s0, kt, ← hf]; first | rw [if_pos (And.intro c68 rfl)] | rw [if_neg (fun z => by omega)]) hQ)
      · refine al_0 dX9_whodid_38 ?_
        refine il_5 dX9_whodid_39 ?_
        refine c_X9_393 dX9_whodid_41 rfl tt336 (Nat.le_of_ble_eq_true rfl) (by omega) ?_
        refine wX9_turned (by omega) (by rw [m]; omega) (by rw [m]; omega) (by rw [m]; exact V.di) (by omega) (by omega) ?_
        rw [m, show tuM (fun i => R (29 + i)) _ (R 1).toNat = tT R _ from rfl]
        refine pv_i ?_
        refine al_0 dX9_whodid_44 ?_
        refine g_X9_7 (337) dX9_whodid_45 rfl tt336 (rr9_0 tt336) (by omega) ?_
        refine bi_10 dX9_whodid_48 ?_
        refine wp_iaload dX9_whodid_50 tt337 (by omega) (by omega) ?_
        first | rw [m2] | rw [m1] | rw [m] | rw [sw_s] | skip
        refine al_0 dX9_whodid_51 ?_
        refine g_X9_13 (338) dX9_whodid_52 rfl tt336 (rr9_1 tt336) (by omega) ?_
        refine bi_10 dX9_whodid_55 ?_
        refine wp_iaload dX9_whodid_57 tt338 (by omega) (by omega) ?_
        rw [hI]
        refine wp_ixor dX9_whodid_58 ?_
        refine wp_icmp_eq 65 dX9_whodid_59 rfl (fun c59 => ?_) (fun c59 => ?_)
        · refine il_4 dX9_whodid_65 ?_
          refine ic_m1 dX9_whodid_67 ?_
          refine wp_icmp_ne 76 dX9_whodid_68 rfl (fun c68 => ?_) (fun c68 => ?_)
          · refine il_4 dX9_whodid_76 ?_
            refine is_4 dX9_whodid_78 rfl (by decide) ?_
            refine ii_3 dX9_whodid_80 rfl (by decide) ⟨by decide, by decide⟩ (r32 (by omega) (by omega)) ?_
            refine ii_5 dX9_whodid_83 rfl (by decide) ⟨by decide, by decide⟩ (r32 (by omega) (by omega)) ?_
            refine wp_goto 20 dX9_whodid_86 rfl ?_
            first
              | (have kf : ofP R m0 x s = false := by unfold ofP; simp [c35]
                 exact ih _ _ (s + 1) (by omega) (by omega) (by omega) (by rw [cntN_s s0, kf, ← hw]; simp) (by rw [loN_s s0, kf, if_neg (by simp), ← hf]) hQ)
              | (have kf : ofP R m0 x s = false := by unfold ofP; rw [hx]; simp [c59]
                 exact ih _ _ (s + 1) (by omega) (by omega) (by omega) (by rw [cntN_s s0, kf, ← hw]; simp) (by rw [loN_s s0, kf, if_neg (by simp), ← hf]) hQ)
              | (have kt : ofP R m0 x s = true := by unfold ofP; rw [hx]; simp [c35, c59]
                 exact ih _ _ (s + 1) (by omega) (by omega) (by omega) (by rw [cntN_s s0, kt, ← hw]; simp) (by rw [loN_s s0, kt, ← hf]; first | rw [if_pos (And.intro c68 rfl)] | rw [if_neg (fun z => by omega)]) hQ)
          · refine il_5 dX9_whodid_71 ?_
            refine wp_goto 78 dX9_whodid_73 rfl ?_
            refine is_4 dX9_whodid_78 rfl (by decide) ?_
            refine ii_3 dX9_whodid_80 rfl (by decide) ⟨by decide, by decide⟩ (r32 (by omega) (by omega)) ?_
            refine ii_5 dX9_whodid_83 rfl (by decide) ⟨by decide, by decide⟩ (r32 (by omega) (by omega)) ?_
            refine wp_goto 20 dX9_whodid_86 rfl ?_
            first
              | (have kf : ofP R m0 x s = false := by unfold ofP; simp [c35]
                 exact ih _ _ (s + 1) (by omega) (by omega) (by omega) (by rw [cntN_s s0, kf, ← hw]; simp) (by rw [loN_s s0, kf, if_neg (by simp), ← hf]) hQ)
              | (have kf : ofP R m0 x s = false := by unfold ofP; rw [hx]; simp [c59]
                 exact ih _ _ (s + 1) (by omega) (by omega) (by omega) (by rw [cntN_s s0, kf, ← hw]; simp) (by rw [loN_s s0, kf, if_neg (by simp), ← hf]) hQ)
              | (have kt : ofP R m0 x s = true := by unfold ofP; rw [hx]; simp [c35, c59]
                 exact ih _ _ (s + 1) (by omega) (by omega) (by omega) (by rw [cntN_s s0, kt, ← hw]; simp) (by rw [loN_s s0, kt, ← hf]; first | rw [if_pos (And.intro c68 rfl)] | rw [if_neg (fun z => by omega)]) hQ)
        · refine wp_goto 83 dX9_whodid_62 rfl ?_
          refine ii_5 dX9_whodid_83 rfl (by decide) ⟨by decide, by decide⟩ (r32 (by omega) (by omega)) ?_
          refine wp_goto 20 dX9_whodid_86 rfl ?_
          first
            | (have kf : ofP R m0 x s = false := by unfold ofP; simp [c35]
               exact ih _ _ (s + 1) (by omega) (by omega) (by omega) (by rw [cntN_s s0, kf, ← hw]; simp) (by rw [loN_s s0, kf, if_neg (by simp), ← hf]) hQ)
            | (have kf : ofP R m0 x s = false := by unfold ofP; rw [hx]; simp [c59]
               exact ih _ _ (s + 1) (by omega) (by omega) (by omega) (by rw [cntN_s s0, kf, ← hw]; simp) (by rw [loN_s s0, kf, if_neg (by simp), ← hf]) hQ)
            | (have kt : ofP R m0 x s = true := by unfold ofP; rw [hx]; simp [c35, c59]
               exact ih _ _ (s + 1) (by omega) (by omega) (by omega) (by rw [cntN_s s0, kt, ← hw]; simp) (by rw [loN_s s0, kt, ← hf]; first | rw [if_pos (And.intro c68 rfl)] | rw [if_neg (fun z => by omega)]) hQ)

theorem wX9_whodid {G : GT} {δ : Nat} {h hl : Nat → Int → Int} {b : Bool × Bool} {Q : V → Hp → Prop} {m0 mo : Int} {R : Int → Int} {L : Laws} (hδ : δ ≤ 1660) (M : MT h R L) {I : Int → Int} (hI : h 338 10 = I 10) (hQ : Q (vi (aWhodid R I m0 mo)) (HS h hl b)) : WP G δ 0 0 MX9_whodid 0 [vr (336), vi m0, vi mo, vn, vn, vn] [] (HS h hl b) Q := by
  have m := M.1
  have V := M.2.1
  have vn' := V.n
  have vw := V.w
  refine il_1 dX9_whodid_0 ?_
  refine ic_0 dX9_whodid_1 ?_
  refine bi_8 dX9_whodid_2 ?_
  refine c_X9_69 dX9_whodid_4 rfl (Nat.le_of_ble_eq_true rfl) (by omega) ?_
  refine wX9_isIn (by omega) ?_
  refine pv_i ?_
  refine wp_if_ne 12 dX9_whodid_7 rfl (fun c7 => ?_) (fun c7 => ?_)
  · rw [b2i_n0] at c7
    refine ic_0 dX9_whodid_12 ?_
    refine is_3 dX9_whodid_13 rfl (by decide) ?_
    refine ic_m1 dX9_whodid_14 ?_
    refine is_4 dX9_whodid_15 rfl (by decide) ?_
    refine ic_0 dX9_whodid_17 ?_
    refine is_5 dX9_whodid_18 rfl (by decide) ?_
    have nn := nS_e V
    exact wX9_whodid_20 (x := bxor (R 10) (I 10)) (by omega) M hI rfl _ 0 (-1) 0 (Nat.lt_succ_self _) (by omega) (by omega) rfl rfl (qv hQ (by unfold aWhodid; rw [if_pos (by omega)]))
  · rw [b2i_0] at c7
    refine ic_m1 dX9_whodid_10 ?_
    refine wp_ireti dX9_whodid_11 rfl ?_
    exact qv hQ (by unfold aWhodid; rw [if_neg (by omega)])

theorem wX9_bring_19 {G : GT} {δ : Nat} {h hl : Nat → Int → Int} {b : Bool × Bool} {Q : V → Hp → Prop} {x mo : Int} {R : Int → Int} {L : Laws} (hδ : δ ≤ 1660) (M : MT h R L) (x0 : 0 ≤ x) (x1 : x ≤ 1023) : ∀ (n : Nat) (f : Int) (s : Int), ((s + 1).toNat) < n → (-1 ≤ s) → (s < nS R) → (isBest (eqP R (bxor x (R 10))) (s + 1) (nS R) f) → (Q (vi (aBring R x mo)) (HS h hl b)) → WP G δ 0 0 MX9_bring 19 [vr (336), vi x, vi mo, vi f, vi s] [] (HS h hl b) Q := by
  intro n
  induction n with
  | zero => intro f s hlt; exact absurd hlt (Nat.not_lt_zero _)
  | succ n ih =>
    intro f s hlt s0 s1 hf hQ
    have m := M.1
    have V := M.2.1
    have vn' := V.n
    have vw := V.w
    have nn := nS_e V
    have tr := tT_R V s
    have bi := bx_iff tr.1 tr.2 vw.2.2.1.1 vw.2.2.1.2 x0 (show x < 1024 by omega)
    have fr : -1 ≤ f ∧ f < nS R := by rcases hf with ⟨a, _⟩ | ⟨⟨a, c, _⟩, _⟩ <;> omega
    refine il_4 dX9_bring_19 ?_
    refine wp_if_lt 68 dX9_bring_21 rfl (fun c21 => ?_) (fun c21 => ?_)
    · have e : s = -1 := by omega
      subst e
      have nk : ((nSn R : Nat) : Int) = nS R := Int.toNat_of_nonneg (by omega)
      have bb : isBest (eqP R (bxor x (R 10))) 0 (nS R) (fewA (eqP R (bxor x (R 10))) (nSn R)) := by rw [← nk]; exact fewA_best _
      have ef : f = fewA (eqP R (bxor x (R 10))) (nSn R) := best_uniq (by omega) hf bb
      refine il_3 dX9_bring_68 ?_
      refine ic_m1 dX9_bring_69 ?_
      refine wp_icmp_ne 77 dX9_bring_70 rfl (fun c70 => ?_) (fun c70 => ?_)
      · refine il_2 dX9_bring_77 ?_
        refine wp_if_eq 88 dX9_bring_78 rfl (fun c78 => ?_) (fun c78 => ?_)
        · refine il_3 dX9_bring_88 ?_
          refine wp_ireti dX9_bring_89 rfl ?_
          refine qv hQ ?_
          unfold aBring
          rw [if_pos ⟨x0, x1⟩]
          rw [← ef]
          first
            | (rw [if_pos (Or.inr (by assumption))]; assumption)
            | rw [if_pos (Or.inl (by assumption))]
            | rw [if_neg (fun y => by rcases y with y | y; contradiction; contradiction)]
        · refine il_3 dX9_bring_81 ?_
          refine c_X9_298 dX9_bring_82 rfl (Nat.le_of_ble_eq_true rfl) (by omega) ?_
          refine wX9_bits (by omega) (by omega) (by omega) ?_
          refine pv_i ?_
          refine wp_goto 89 dX9_bring_85 rfl ?_
          refine wp_ireti dX9_bring_89 rfl ?_
          refine qv hQ ?_
          unfold aBring
          rw [if_pos ⟨x0, x1⟩]
          rw [← ef]
          first
            | (rw [if_pos (Or.inr (by assumption))]; assumption)
            | rw [if_pos (Or.inl (by assumption))]
            | rw [if_neg (fun y => by rcases y with y | y; contradiction; contradiction)]
      · refine ic_m1 dX9_bring_73 ?_
        refine wp_goto 89 dX9_bring_74 rfl ?_
        refine wp_ireti dX9_bring_89 rfl ?_
        refine qv hQ ?_
        unfold aBring
        rw [if_pos ⟨x0, x1⟩]
        rw [← ef]
        first
          | (rw [if_pos (Or.inr (by assumption))]; assumption)
          | rw [if_pos (Or.inl (by assumption))]
          | rw [if_neg (fun y => by rcases y with y | y; contradiction; contradiction)]
    · refine al_0 dX9_bring_24 ?_
      refine il_4 dX9_bring_25 ?_
      refine c_X9_393 dX9_bring_27 rfl tt336 (Nat.le_of_ble_eq_true rfl) (by omega) ?_
      refine wX9_turned (by omega) (by rw [m]; omega) (by rw [m]; omega) (by rw [m]; exact V.di) (by omega) (by omega) ?_
      rw [m, show tuM (fun i => R (29 + i)) _ (R 1).toNat = tT R _ from rfl]
      refine pv_i ?_
      refine al_0 dX9_bring_30 ?_
      refine g_X9_7 (337) dX9_bring_31 rfl tt336 (rr9_0 tt336) (by omega) ?_
      refine bi_10 dX9_bring_34 ?_
      refine wp_iaload dX9_bring_36 tt337 (by omega) (by omega) ?_
      first | rw [m2] | rw [m1] | rw [m] | rw [sw_s] | skip
      refine wp_ixor dX9_bring_37 ?_
      refine il_1 dX9_bring_38 ?_
      refine wp_icmp_ne 62 dX9_bring_39 rfl (fun c39 => ?_) (fun c39 => ?_)
      · refine ii_4 dX9_bring_62 rfl (by decide) ⟨by decide, by decide⟩ (r32 (by omega) (by omega)) ?_
        refine wp_goto 19 dX9_bring_65 rfl ?_
        have d := best_dn hf (show 0 ≤ s by omega) s1
        refine ih _ (s - 1) (by omega) (by omega) (by omega) ?_ hQ
        rw [show s - 1 + 1 = s by omega]
        rw [bi] at c39
        unfold eqP at d ⊢
        first
          | (rw [if_neg (fun z => c39 (eq_of_beq z.1))] at d; exact d)
          | (rw [if_pos (And.intro (show (tT R s == bxor x (R 10)) = true by rw [c39]; exact beq_self_eq_true _) (show f = -1 ∨ pc s ≤ pc f by omega))] at d; exact d)
          | (rw [if_neg (fun z => by have := z.2; omega)] at d; exact d)
      · refine il_3 dX9_bring_42 ?_
        refine ic_m1 dX9_bring_43 ?_
        refine wp_icmp_eq 59 dX9_bring_44 rfl (fun c44 => ?_) (fun c44 => ?_)
        · refine il_4 dX9_bring_59 ?_
          refine is_3 dX9_bring_61 rfl (by decide) ?_
          refine ii_4 dX9_bring_62 rfl (by decide) ⟨by decide, by decide⟩ (r32 (by omega) (by omega)) ?_
          refine wp_goto 19 dX9_bring_65 rfl ?_
          have d := best_dn hf (show 0 ≤ s by omega) s1
          refine ih _ (s - 1) (by omega) (by omega) (by omega) ?_ hQ
          rw [show s - 1 + 1 = s by omega]
          rw [bi] at c39
          unfold eqP at d ⊢
          first
            | (rw [if_neg (fun z => c39 (eq_of_beq z.1))] at d; exact d)
            | (rw [if_pos (And.intro (show (tT R s == bxor x (R 10)) = true by rw [c39]; exact beq_self_eq_true _) (show f = -1 ∨ pc s ≤ pc f by omega))] at d; exact d)
            | (rw [if_neg (fun z => by have := z.2; omega)] at d; exact d)
        · refine il_4 dX9_bring_47 ?_
          refine c_X9_298 dX9_bring_49 rfl (Nat.le_of_ble_eq_true rfl) (by omega) ?_
          refine wX9_bits (by omega) (by omega) (by omega) ?_
          refine pv_i ?_
          refine il_3 dX9_bring_52 ?_
          refine c_X9_298 dX9_bring_53 rfl (Nat.le_of_ble_eq_true rfl) (by omega) ?_
          refine wX9_bits (by omega) (by omega) (by omega) ?_
          refine pv_i ?_
          refine wp_icmp_gt 62 dX9_bring_56 rfl (fun c56 => ?_) (fun c56 => ?_)
          · refine ii_4 dX9_bring_62 rfl (by decide) ⟨by decide, by decide⟩ (r32 (by omega) (by omega)) ?_
            refine wp_goto 19 dX9_bring_65 rfl ?_
            have d := best_dn hf (show 0 ≤ s by omega) s1
            refine ih _ (s - 1) (by omega) (by omega) (by omega) ?_ hQ
            rw [show s - 1 + 1 = s by omega]
            rw [bi] at c39
            unfold eqP at d ⊢
            first
              | (rw [if_neg (fun z => c39 (eq_of_beq z.1))] at d; exact d)
              | (rw [if_pos (And.intro (show (tT R s == bxor x (R 10)) = true by rw [c39]; exact beq_self_eq_true _) (show f = -1 ∨ pc s ≤ pc f by omega))] at d; exact d)
              | (rw [if_neg (fun z => by have := z.2; omega)] at d; exact d)
          · refine il_4 dX9_bring_59 ?_
            refine is_3 dX9_bring_61 rfl (by decide) ?_
            refine ii_4 dX9_bring_62 rfl (by decide) ⟨by decide, by decide⟩ (r32 (by omega) (by omega)) ?_
            refine wp_goto 19 dX9_bring_65 rfl ?_
            have d := best_dn hf (show 0 ≤ s by omega) s1
            refine ih _ (s - 1) (by omega) (by omega) (by omega) ?_ hQ
            rw [show s - 1 + 1 = s by omega]
            rw [bi] at c39
            unfold eqP at d ⊢
            first
              | (rw [if_neg (fun z => c39 (eq_of_beq z.1))] at d; exact d)
              | (rw [if_pos (And.intro (show (tT R s == bxor x (R 10)) = true by rw [c39]; exact beq_self_eq_true _) (show f = -1 ∨ pc s ≤ pc f by omega))] at d; exact d)
              | (rw [if_neg (fun z => by have := z.2; omega)] at d; exact d)

theorem wX9_bring {G : GT} {δ : Nat} {h hl : Nat → Int → Int} {b : Bool × Bool} {Q : V → Hp → Prop} {x mo : Int} {R : Int → Int} {L : Laws} (hδ : δ ≤ 1660) (M : MT h R L)  (hQ : Q (vi (aBring R x mo)) (HS h hl b)) : WP G δ 0 0 MX9_bring 0 [vr (336), vi x, vi mo, vn, vn] [] (HS h hl b) Q := by
  have m := M.1
  have V := M.2.1
  have vn' := V.n
  have vw := V.w
  have nn := nS_e V
  refine il_1 dX9_bring_0 ?_
  refine c_X9_81 dX9_bring_1 rfl (Nat.le_of_ble_eq_true rfl) (by omega) ?_
  refine wX9_isPattern (by omega) ?_
  refine pv_i ?_
  refine wp_if_ne 9 dX9_bring_4 rfl (fun c4 => ?_) (fun c4 => ?_)
  · rw [b2i_n0] at c4
    refine ic_m1 dX9_bring_9 ?_
    refine is_3 dX9_bring_10 rfl (by decide) ?_
    refine al_0 dX9_bring_11 ?_
    refine c_X9_402 dX9_bring_12 rfl tt336 (Nat.le_of_ble_eq_true rfl) (by omega) ?_
    refine wX9_sets (by omega) ?_
    rw [m, show shl 1 (R 1) = nS R from rfl]
    refine pv_i ?_
    refine ic_1 dX9_bring_15 ?_
    refine wp_isub dX9_bring_16 (r32 (by omega) (by omega)) ?_
    refine is_4 dX9_bring_17 rfl (by decide) ?_
    exact wX9_bring_19 (by omega) M (by omega) (by omega) _ (-1) _ (Nat.lt_succ_self _) (by omega) (by omega) (Or.inl ⟨rfl, fun s a c => by omega⟩) hQ
  · rw [b2i_0] at c4
    refine ic_m1 dX9_bring_7 ?_
    refine wp_ireti dX9_bring_8 rfl ?_
    exact qv hQ (by unfold aBring; rw [if_neg c4])

theorem wX9_areLit_2 {G : GT} {δ : Nat} {h hl : Nat → Int → Int} {b : Bool × Bool} {Q : V → Hp → Prop} {x : Int} {R : Int → Int} {L : Laws} (hδ : δ ≤ 1700) (M : MT h R L)  : ∀ (n : Nat) (k : Int), ((R 5 - k).toNat) < n → (0 ≤ k) → (k ≤ R 5) → (allN (fun k => decide (band x (R (37 + k)) ≠ 0)) k.toNat = true) → (Q (vi (b2i (liP R x = true))) (HS h hl b)) → WP G δ 0 0 MX9_areLit 2 [vr (336), vi x, vi k] [] (HS h hl b) Q := by
  intro n
  induction n with
  | zero => intro k hlt; exact absurd hlt (Nat.not_lt_zero _)
  | succ n ih =>
    intro k hlt k0 k1 ha hQ
    have m := M.1
    have V := M.2.1
    have vn' := V.n
    have vw := V.w
    have nn := nS_e V
    refine il_2 dX9_areLit_2 ?_
    refine al_0 dX9_areLit_3 ?_
    refine g_X9_7 (337) dX9_areLit_4 rfl tt336 (rr9_0 tt336) (by omega) ?_
    refine ic_5 dX9_areLit_7 ?_
    refine wp_iaload dX9_areLit_8 tt337 (by omega) (by omega) ?_
    first | rw [m2] | rw [m1] | rw [m] | rw [sw_s] | skip
    refine wp_icmp_ge 34 dX9_areLit_9 rfl (fun c9 => ?_) (fun c9 => ?_)
    · have e : k = R 5 := by omega
      subst e
      refine ic_1 dX9_areLit_34 ?_
      refine wp_iretz dX9_areLit_35 rfl (by omega) ?_
      exact qv hQ (b2i_t ha)
    · refine al_0 dX9_areLit_12 ?_
      refine g_X9_7 (337) dX9_areLit_13 rfl tt336 (rr9_0 tt336) (by omega) ?_
      refine bi_37 dX9_areLit_16 ?_
      refine il_2 dX9_areLit_18 ?_
      refine wp_iadd dX9_areLit_19 (r32 (by omega) (by omega)) ?_
      refine wp_iaload dX9_areLit_20 tt337 (by omega) (by omega) ?_
      first | rw [m2] | rw [m1] | rw [m] | rw [sw_s] | skip
      refine il_1 dX9_areLit_21 ?_
      refine wp_iand dX9_areLit_22 ?_
      rw [band_comm]
      refine wp_if_ne 28 dX9_areLit_23 rfl (fun c23 => ?_) (fun c23 => ?_)
      · refine ii_2 dX9_areLit_28 rfl (by decide) ⟨by decide, by decide⟩ (r32 (by omega) (by omega)) ?_
        refine wp_goto 2 dX9_areLit_31 rfl ?_
        exact ih (k + 1) (by omega) (by omega) (by omega) (by rw [allN_s k0, ha, decide_eq_true c23]; rfl) hQ
      · refine ic_0 dX9_areLit_26 ?_
        refine wp_iretz dX9_areLit_27 rfl (by omega) ?_
        exact qv hQ (b2i_f (by unfold liP; rw [allN_f (R 5).toNat k k0 (by omega) (decide_eq_false (fun z => z c23))]; decide))

theorem wX9_areLit {G : GT} {δ : Nat} {h hl : Nat → Int → Int} {b : Bool × Bool} {Q : V → Hp → Prop} {x : Int} {R : Int → Int} {L : Laws} (hδ : δ ≤ 1700) (M : MT h R L)  (hQ : Q (vi (b2i (liP R x = true))) (HS h hl b)) : WP G δ 0 0 MX9_areLit 0 [vr (336), vi x, vn] [] (HS h hl b) Q := by
  have m := M.1
  have V := M.2.1
  have vn' := V.n
  have vw := V.w
  refine ic_0 dX9_areLit_0 ?_
  refine is_2 dX9_areLit_1 rfl (by decide) ?_
  exact wX9_areLit_2 (by omega) M _ 0 (Nat.lt_succ_self _) (by omega) (by omega) rfl hQ

theorem wX9_lights_9 {G : GT} {δ : Nat} {h hl : Nat → Int → Int} {b : Bool × Bool} {Q : V → Hp → Prop} {mo : Int} {R : Int → Int} {L : Laws} (hδ : δ ≤ 1660) (M : MT h R L)  : ∀ (n : Nat) (f : Int) (s : Int), ((s + 1).toNat) < n → (-1 ≤ s) → (s < nS R) → (isBest (lgP R) (s + 1) (nS R) f) → (Q (vi (aLights R mo)) (HS h hl b)) → WP G δ 0 0 MX9_lights 9 [vr (336), vi mo, vi f, vi s] [] (HS h hl b) Q := by
  intro n
  induction n with
  | zero => intro f s hlt; exact absurd hlt (Nat.not_lt_zero _)
  | succ n ih =>
    intro f s hlt s0 s1 hf hQ
    have m := M.1
    have V := M.2.1
    have vn' := V.n
    have vw := V.w
    have nn := nS_e V
    have tr := tT_R V s
    have fr : -1 ≤ f ∧ f < nS R := by rcases hf with ⟨a, _⟩ | ⟨⟨a, c, _⟩, _⟩ <;> omega
    refine il_3 dX9_lights_9 ?_
    refine wp_if_lt 57 dX9_lights_10 rfl (fun c10 => ?_) (fun c10 => ?_)
    · have e : s = -1 := by omega
      subst e
      have nk : ((nSn R : Nat) : Int) = nS R := Int.toNat_of_nonneg (by omega)
      have bb : isBest (lgP R) 0 (nS R) (fewA (lgP R) (nSn R)) := by rw [← nk]; exact fewA_best _
      have ef : f = fewA (lgP R) (nSn R) := best_uniq (by omega) hf bb
      refine il_2 dX9_lights_57 ?_
      refine ic_m1 dX9_lights_58 ?_
      refine wp_icmp_ne 66 dX9_lights_59 rfl (fun c59 => ?_) (fun c59 => ?_)
      · refine il_1 dX9_lights_66 ?_
        refine wp_if_eq 77 dX9_lights_67 rfl (fun c67 => ?_) (fun c67 => ?_)
        · refine il_2 dX9_lights_77 ?_
          refine wp_ireti dX9_lights_78 rfl ?_
          refine qv hQ ?_
          unfold aLights
          rw [← ef]
          first
            | (rw [if_pos (Or.inr (by assumption))]; assumption)
            | rw [if_pos (Or.inl (by assumption))]
            | rw [if_neg (fun y => by rcases y with y | y; contradiction; contradiction)]
        · refine il_2 dX9_lights_70 ?_
          refine c_X9_298 dX9_lights_71 rfl (Nat.le_of_ble_eq_true rfl) (by omega) ?_
          refine wX9_bits (by omega) (by omega) (by omega) ?_
          refine pv_i ?_
          refine wp_goto 78 dX9_lights_74 rfl ?_
          refine wp_ireti dX9_lights_78 rfl ?_
          refine qv hQ ?_
          unfold aLights
          rw [← ef]
          first
            | (rw [if_pos (Or.inr (by assumption))]; assumption)
            | rw [if_pos (Or.inl (by assumption))]
            | rw [if_neg (fun y => by rcases y with y | y; contradiction; contradiction)]
      · refine ic_m1 dX9_lights_62 ?_
        refine wp_goto 78 dX9_lights_63 rfl ?_
        refine wp_ireti dX9_lights_78 rfl ?_
        refine qv hQ ?_
        unfold aLights
        rw [← ef]
        first
          | (rw [if_pos (Or.inr (by assumption))]; assumption)
          | rw [if_pos (Or.inl (by assumption))]
          | rw [if_neg (fun y => by rcases y with y | y; contradiction; contradiction)]
    · refine al_0 dX9_lights_13 ?_
      refine al_0 dX9_lights_14 ?_
      refine il_3 dX9_lights_15 ?_
      refine c_X9_393 dX9_lights_16 rfl tt336 (Nat.le_of_ble_eq_true rfl) (by omega) ?_
      refine wX9_turned (by omega) (by rw [m]; omega) (by rw [m]; omega) (by rw [m]; exact V.di) (by omega) (by omega) ?_
      rw [m, show tuM (fun i => R (29 + i)) _ (R 1).toNat = tT R _ from rfl]
      refine pv_i ?_
      refine al_0 dX9_lights_19 ?_
      refine g_X9_7 (337) dX9_lights_20 rfl tt336 (rr9_0 tt336) (by omega) ?_
      refine bi_10 dX9_lights_23 ?_
      refine wp_iaload dX9_lights_25 tt337 (by omega) (by omega) ?_
      first | rw [m2] | rw [m1] | rw [m] | rw [sw_s] | skip
      refine wp_ixor dX9_lights_26 ?_
      refine c_X9_408 dX9_lights_27 rfl tt336 (Nat.le_of_ble_eq_true rfl) (by omega) ?_
      rw [bxor_comm]
      refine wX9_areLit (by omega) M ?_
      rw [show liP R (bxor (R 10) (tT R s)) = lgP R s from rfl]
      refine pv_i ?_
      refine wp_if_eq 51 dX9_lights_30 rfl (fun c30 => ?_) (fun c30 => ?_)
      · rw [b2i_0] at c30
        refine ii_3 dX9_lights_51 rfl (by decide) ⟨by decide, by decide⟩ (r32 (by omega) (by omega)) ?_
        refine wp_goto 9 dX9_lights_54 rfl ?_
        have d := best_dn hf (show 0 ≤ s by omega) s1
        refine ih _ (s - 1) (by omega) (by omega) (by omega) ?_ hQ
        rw [show s - 1 + 1 = s by omega]
        first
          | (rw [if_neg (fun z => c30 z.1)] at d; exact d)
          | (rw [if_pos (And.intro c30 (show f = -1 ∨ pc s ≤ pc f by omega))] at d; exact d)
          | (rw [if_neg (fun z => by have := z.2; omega)] at d; exact d)
      · rw [b2i_n0] at c30
        refine il_2 dX9_lights_33 ?_
        refine ic_m1 dX9_lights_34 ?_
        refine wp_icmp_eq 49 dX9_lights_35 rfl (fun c35 => ?_) (fun c35 => ?_)
        · refine il_3 dX9_lights_49 ?_
          refine is_2 dX9_lights_50 rfl (by decide) ?_
          refine ii_3 dX9_lights_51 rfl (by decide) ⟨by decide, by decide⟩ (r32 (by omega) (by omega)) ?_
          refine wp_goto 9 dX9_lights_54 rfl ?_
          have d := best_dn hf (show 0 ≤ s by omega) s1
          refine ih _ (s - 1) (by omega) (by omega) (by omega) ?_ hQ
          rw [show s - 1 + 1 = s by omega]
          first
            | (rw [if_neg (fun z => c30 z.1)] at d; exact d)
            | (rw [if_pos (And.intro c30 (show f = -1 ∨ pc s ≤ pc f by omega))] at d; exact d)
            | (rw [if_neg (fun z => by have := z.2; omega)] at d; exact d)
        · refine il_3 dX9_lights_38 ?_
          refine c_X9_298 dX9_lights_39 rfl (Nat.le_of_ble_eq_true rfl) (by omega) ?_
          refine wX9_bits (by omega) (by omega) (by omega) ?_
          refine pv_i ?_
          refine il_2 dX9_lights_42 ?_
          refine c_X9_298 dX9_lights_43 rfl (Nat.le_of_ble_eq_true rfl) (by omega) ?_
          refine wX9_bits (by omega) (by omega) (by omega) ?_
          refine pv_i ?_
          refine wp_icmp_gt 51 dX9_lights_46 rfl (fun c46 => ?_) (fun c46 => ?_)
          · refine ii_3 dX9_lights_51 rfl (by decide) ⟨by decide, by decide⟩ (r32 (by omega) (by omega)) ?_
            refine wp_goto 9 dX9_lights_54 rfl ?_
            have d := best_dn hf (show 0 ≤ s by omega) s1
            refine ih _ (s - 1) (by omega) (by omega) (by omega) ?_ hQ
            rw [show s - 1 + 1 = s by omega]
            first
              | (rw [if_neg (fun z => c30 z.1)] at d; exact d)
              | (rw [if_pos (And.intro c30 (show f = -1 ∨ pc s ≤ pc f by omega))] at d; exact d)
              | (rw [if_neg (fun z => by have := z.2; omega)] at d; exact d)
          · refine il_3 dX9_lights_49 ?_
            refine is_2 dX9_lights_50 rfl (by decide) ?_
            refine ii_3 dX9_lights_51 rfl (by decide) ⟨by decide, by decide⟩ (r32 (by omega) (by omega)) ?_
            refine wp_goto 9 dX9_lights_54 rfl ?_
            have d := best_dn hf (show 0 ≤ s by omega) s1
            refine ih _ (s - 1) (by omega) (by omega) (by omega) ?_ hQ
            rw [show s - 1 + 1 = s by omega]
            first
              | (rw [if_neg (fun z => c30 z.1)] at d; exact d)
              | (rw [if_pos (And.intro c30 (show f = -1 ∨ pc s ≤ pc f by omega))] at d; exact d)
              | (rw [if_neg (fun z => by have := z.2; omega)] at d; exact d)

theorem wX9_lights {G : GT} {δ : Nat} {h hl : Nat → Int → Int} {b : Bool × Bool} {Q : V → Hp → Prop} {mo : Int} {R : Int → Int} {L : Laws} (hδ : δ ≤ 1660) (M : MT h R L)  (hQ : Q (vi (aLights R mo)) (HS h hl b)) : WP G δ 0 0 MX9_lights 0 [vr (336), vi mo, vn, vn] [] (HS h hl b) Q := by
  have m := M.1
  have V := M.2.1
  have vn' := V.n
  have vw := V.w
  have nn := nS_e V
  refine ic_m1 dX9_lights_0 ?_
  refine is_2 dX9_lights_1 rfl (by decide) ?_
  refine al_0 dX9_lights_2 ?_
  refine c_X9_402 dX9_lights_3 rfl tt336 (Nat.le_of_ble_eq_true rfl) (by omega) ?_
  refine wX9_sets (by omega) ?_
  rw [m, show shl 1 (R 1) = nS R from rfl]
  refine pv_i ?_
  refine ic_1 dX9_lights_6 ?_
  refine wp_isub dX9_lights_7 (r32 (by omega) (by omega)) ?_
  refine is_3 dX9_lights_8 rfl (by decide) ?_
  exact wX9_lights_9 (by omega) M _ (-1) _ (Nat.lt_succ_self _) (by omega) (by omega) (Or.inl ⟨rfl, fun s a c => by omega⟩) hQ
