section YRS
variable {h h' : Nat → Int → Int} {R R' : Int → Int} {L : Laws} {w : Bool}
theorem rYear_a0 (q : R 9 % 6 = 0 ∨ R 9 % 6 = 1) (c : ¬ (0 < R 0 ∧ 0 < R 1 ∧ canArg (rDraw R) (R 9 / 6 % R 1) (R 9 % R 0) (R 9 / 6 % R 0))) : rYear L w R = rDraw R := by
  unfold rYear
  rw [if_pos q, if_neg]
  intro ⟨z1, z2, z3, z4⟩
  unfold among at z1 z2 z3 z4
  by_cases a : 0 < R 0
  · by_cases b : 0 < R 1
    · rw [if_pos a] at z2 z3 z4; rw [if_pos b] at z1; rw [if_pos a] at z4
      refine c ⟨a, b, ?_⟩
      unfold canArg; rw [rDraw_o (by decide), rDraw_o (by decide)]
      exact ⟨z1, z2, z3, z4⟩
    · rw [if_neg b] at z1; omega
  · rw [if_neg a] at z2; omega
theorem rYear_a1 (q : R 9 % 6 = 0 ∨ R 9 % 6 = 1) (a : 0 < R 0) (b : 0 < R 1) (c : canArg (rDraw R) (R 9 / 6 % R 1) (R 9 % R 0) (R 9 / 6 % R 0)) : rYear L w R = rArg L w (rDraw R) (R 9 / 6 % R 1) (R 9 % R 0) (R 9 / 6 % R 0) := by
  unfold rYear
  unfold canArg at c; rw [rDraw_o (by decide), rDraw_o (by decide)] at c
  unfold among
  rw [if_pos q]
  simp only [if_pos a, if_pos b]
  rw [if_pos c]
theorem rYear_2 (q : R 9 % 6 = 2) : rYear L w R = rSnuff (rDraw R) (R 9 / 6 % 10) := by unfold rYear; rw [if_neg (by omega), if_pos q]
theorem rYear_30 (V : RV R) (q : R 9 % 6 = 3) (c : ¬ (0 < R 0 ∧ canPr (rDraw R) (R 9 % R 0) (1 + R 9 / 6 % 5))) : rYear L w R = rDraw R := by
  unfold rYear
  rw [if_neg (by omega), if_neg (by omega), if_pos q, if_neg]
  intro z
  unfold among at z
  by_cases a : 0 < R 0
  · simp only [if_pos a] at z
    refine c ⟨a, ?_⟩
    unfold canPr; rw [rDraw_o (by decide), rDraw_o (by omega)]; exact z
  · simp only [if_neg a] at z; omega
theorem rYear_31 (q : R 9 % 6 = 3) (a : 0 < R 0) (c : canPr (rDraw R) (R 9 % R 0) (1 + R 9 / 6 % 5)) : rYear L w R = rPour (rDraw R) (R 9 % R 0) (1 + R 9 / 6 % 5) := by
  have a1 := Int.emod_nonneg (R 9) (show R 0 ≠ 0 by omega)
  unfold rYear
  rw [if_neg (by omega), if_neg (by omega), if_pos q]
  unfold among
  simp only [if_pos a]
  unfold canPr at c; rw [rDraw_o (by decide), rDraw_o (by omega)] at c
  rw [if_pos c]
theorem rYear_41 (q : ¬ (R 9 % 6 = 0 ∨ R 9 % 6 = 1)) (q2 : ¬ R 9 % 6 = 2) (q3 : ¬ R 9 % 6 = 3) (n : R 8 < 9999) : rYear L w R = rPass L w (rDraw R) := by unfold rYear; rw [if_neg q, if_neg q2, if_neg q3, if_pos n]
theorem rYear_40 (q : ¬ (R 9 % 6 = 0 ∨ R 9 % 6 = 1)) (q2 : ¬ R 9 % 6 = 2) (q3 : ¬ R 9 % 6 = 3) (n : ¬ R 8 < 9999) : rYear L w R = rDraw R := by unfold rYear; rw [if_neg q, if_neg q2, if_neg q3, if_neg n]
theorem MT.keep (M : MT h R L) (e : eqX [337] h h') (r : h' 337 = rKeep R) : MT h' (rKeep R) L := M.nx (eqM.of e (by simp)) r (rKeep_V M.2.1) (rKeep_o M.2.1 (by decide) (by decide))
theorem rNts_8 {s : Bool} : ∀ (n : Nat) (R : Int → Int), RV R → R 8 + n ≤ 9999 → rNts L s w n R 8 = R 8 + n
  | 0, R, _, _ => by show R 8 = _; omega
  | n + 1, R, V, e => by
    have V' : RV (if s then rKeep R else R) := by split; exact rKeep_V V; exact V
    have k8 : (if s then rKeep R else R) 8 = R 8 := by split; exact rKeep_o V (by decide) (by decide); rfl
    have p := rPass_ok (L := L) (w := w) V' (by omega)
    rw [rNts_t (by omega), rNts_8 n _ (V'.nw p.2.1 p.1) (by omega)]
    omega
end YRS

theorem wX9_person {G : GT} {δ : Nat} {h hl : Nat → Int → Int} {b : Bool × Bool} {Q : V → Hp → Prop} {x s : Int} {R : Int → Int} {L : Laws} (hδ : δ ≤ 1680) (M : MT h R L) (hQ : ¬ canTell R x s → Q (vi (-1)) (HS h hl b)) (hQ2 : canTell R x s → ∀ h', eqM h h' → MT h' (rPerson R x s) L → Q (vi (R 0)) (HS h' hl b)) : WP G δ 0 0 MX9_person 0 [vr (336), vi x, vi s, vn] [] (HS h hl b) Q := by
  have m := M.1
  have V := M.2.1
  have n := V.n
  have w := V.w
  refine il_1 dX9_person_0 ?_
  refine ic_0 dX9_person_1 ?_
  refine bi_99 dX9_person_2 ?_
  refine c_X9_69 dX9_person_4 rfl (Nat.le_of_ble_eq_true rfl) (by omega) ?_
  refine wX9_isIn (by omega) ?_
  refine pv_i ?_
  refine wp_if_eq 30 dX9_person_7 rfl (fun c7 => ?_) (fun c7 => ?_)
  · rw [b2i_0] at c7
    refine ic_m1 dX9_person_30 ?_
    refine wp_ireti dX9_person_31 rfl ?_
    exact hQ (by unfold canTell; omega)
  · rw [b2i_n0] at c7
    refine il_2 dX9_person_10 ?_
    refine ic_0 dX9_person_11 ?_
    refine bi_10 dX9_person_12 ?_
    refine c_X9_69 dX9_person_14 rfl (Nat.le_of_ble_eq_true rfl) (by omega) ?_
    refine wX9_isIn (by omega) ?_
    refine pv_i ?_
    refine wp_if_eq 30 dX9_person_17 rfl (fun c17 => ?_) (fun c17 => ?_)
    · rw [b2i_0] at c17
      refine ic_m1 dX9_person_30 ?_
      refine wp_ireti dX9_person_31 rfl ?_
      exact hQ (by unfold canTell; omega)
    · rw [b2i_n0] at c17
      refine al_0 dX9_person_20 ?_
      refine g_X9_7 (337) dX9_person_21 rfl tt336 (rr9_0 tt336) (by omega) ?_
      refine ic_0 dX9_person_24 ?_
      refine wp_iaload dX9_person_25 tt337 (by omega) (by omega) ?_
      first | rw [m2] | rw [m1] | rw [m] | rw [sw_s] | skip
      refine ic_4 dX9_person_26 ?_
      refine wp_icmp_ne 32 dX9_person_27 rfl (fun c27 => ?_) (fun c27 => ?_)
      · refine al_0 dX9_person_32 ?_
        refine g_X9_7 (337) dX9_person_33 rfl tt336 (rr9_0 tt336) (by omega) ?_
        refine ic_0 dX9_person_36 ?_
        refine wp_iaload dX9_person_37 tt337 (by omega) (by omega) ?_
        first | rw [m2] | rw [m1] | rw [m] | rw [sw_s] | skip
        refine is_3 dX9_person_38 rfl (by decide) ?_
        refine al_0 dX9_person_39 ?_
        refine g_X9_7 (337) dX9_person_40 rfl tt336 (rr9_0 tt336) (by omega) ?_
        refine bi_25 dX9_person_43 ?_
        refine il_3 dX9_person_45 ?_
        refine wp_iadd dX9_person_46 (r32 (by omega) (by omega)) ?_
        refine il_1 dX9_person_47 ?_
        refine wp_iastore dX9_person_48 tt337 (by omega) (by omega) ?_
        refine al_0 dX9_person_49 ?_
        refine g_X9_7 (337) dX9_person_50 rfl tt336 (rr9_0 tt336) (by omega) ?_
        refine bi_21 dX9_person_53 ?_
        refine il_3 dX9_person_55 ?_
        refine wp_iadd dX9_person_56 (r32 (by omega) (by omega)) ?_
        refine il_2 dX9_person_57 ?_
        refine wp_iastore dX9_person_58 tt337 (by omega) (by omega) ?_
        refine al_0 dX9_person_59 ?_
        refine il_3 dX9_person_60 ?_
        refine c_X9_77 dX9_person_61 rfl tt336 (Nat.le_of_ble_eq_true rfl) (by omega) ?_
        refine wX9_begin (by omega) (by omega) (by omega) ?_
        rw [up_k (by omega), up_s]
        refine pv_n ?_
        refine al_0 dX9_person_64 ?_
        refine g_X9_7 (337) dX9_person_65 rfl tt336 (rr9_0 tt336) (by omega) ?_
        refine ic_0 dX9_person_68 ?_
        refine wp_dup2 dX9_person_69 rfl rfl ?_
        refine wp_iaload dX9_person_70 tt337 (by omega) (by omega) ?_
        rw [up_k (by omega), up_k (by omega), up_k (by omega), up_k (by omega), m]
        refine ic_1 dX9_person_71 ?_
        refine wp_iadd dX9_person_72 (r32 (by omega) (by omega)) ?_
        refine wp_iastore dX9_person_73 tt337 (by omega) (by omega) ?_
        refine il_3 dX9_person_74 ?_
        refine wp_ireti dX9_person_75 rfl ?_
        have c : canTell R x s := by unfold canTell; omega
        refine hQ2 c _ (((((eqM.rf.up (by omega)).up (by omega)).up (by omega)).up (by omega)).up (by omega)) (M.nx (((((eqM.rf.up (by omega)).up (by omega)).up (by omega)).up (by omega)).up (by omega)) ?_ (rPerson_V V c.2.2.2.2 c.1 c.2.1 c.2.2.1 c.2.2.2.1) ?_)
        · rw [up_ur, up_ur, up_ur, up_ur, up_ur, m, show 13 + 2 * R 0 + 1 = 14 + 2 * R 0 by omega]; rfl
        · rw [rPerson_at n.1.1, if_neg (by decide), if_neg (by omega), if_neg (by omega), if_neg (by omega), if_neg (by omega)]
      · refine ic_m1 dX9_person_30 ?_
        refine wp_ireti dX9_person_31 rfl ?_
        exact hQ (by unfold canTell; omega)

theorem wX9_dispute {G : GT} {δ : Nat} {h hl : Nat → Int → Int} {b : Bool × Bool} {Q : V → Hp → Prop} {l : Int} {R : Int → Int} {L : Laws} (hδ : δ ≤ 1660) (M : MT h R L) (hQ : ¬ canTellD R l → Q (vi (-1)) (HS h hl b)) (hQ2 : canTellD R l → ∀ h', eqM h h' → MT h' (rDisp R l) L → Q (vi (R 1)) (HS h' hl b)) : WP G δ 0 0 MX9_dispute 0 [vr (336), vi l] [] (HS h hl b) Q := by
  have m := M.1
  have V := M.2.1
  have n := V.n
  have w := V.w
  refine il_1 dX9_dispute_0 ?_
  refine c_X9_81 dX9_dispute_1 rfl (Nat.le_of_ble_eq_true rfl) (by omega) ?_
  refine wX9_isPattern (by omega) ?_
  refine pv_i ?_
  refine wp_if_eq 18 dX9_dispute_4 rfl (fun c4 => ?_) (fun c4 => ?_)
  · rw [b2i_0] at c4
    refine ic_m1 dX9_dispute_18 ?_
    refine wp_ireti dX9_dispute_19 rfl ?_
    exact hQ (by unfold canTellD; omega)
  · rw [b2i_n0] at c4
    refine al_0 dX9_dispute_7 ?_
    refine g_X9_7 (337) dX9_dispute_8 rfl tt336 (rr9_0 tt336) (by omega) ?_
    refine ic_1 dX9_dispute_11 ?_
    refine wp_iaload dX9_dispute_12 tt337 (by omega) (by omega) ?_
    first | rw [m2] | rw [m1] | rw [m] | rw [sw_s] | skip
    refine bi_8 dX9_dispute_13 ?_
    refine wp_icmp_ne 20 dX9_dispute_15 rfl (fun c15 => ?_) (fun c15 => ?_)
    · refine al_0 dX9_dispute_20 ?_
      refine g_X9_7 (337) dX9_dispute_21 rfl tt336 (rr9_0 tt336) (by omega) ?_
      refine bi_29 dX9_dispute_24 ?_
      refine al_0 dX9_dispute_26 ?_
      refine g_X9_7 (337) dX9_dispute_27 rfl tt336 (rr9_0 tt336) (by omega) ?_
      refine ic_1 dX9_dispute_30 ?_
      refine wp_iaload dX9_dispute_31 tt337 (by omega) (by omega) ?_
      first | rw [m2] | rw [m1] | rw [m] | rw [sw_s] | skip
      refine wp_iadd dX9_dispute_32 (r32 (by omega) (by omega)) ?_
      refine il_1 dX9_dispute_33 ?_
      refine wp_iastore dX9_dispute_34 tt337 (by omega) (by omega) ?_
      refine al_0 dX9_dispute_35 ?_
      refine g_X9_7 (337) dX9_dispute_36 rfl tt336 (rr9_0 tt336) (by omega) ?_
      refine ic_1 dX9_dispute_39 ?_
      refine wp_dup2 dX9_dispute_40 rfl rfl ?_
      refine wp_iaload dX9_dispute_41 tt337 (by omega) (by omega) ?_
      rw [up_k (by omega), m]
      refine ic_1 dX9_dispute_42 ?_
      refine wp_iadd dX9_dispute_43 (r32 (by omega) (by omega)) ?_
      refine wp_iastore dX9_dispute_44 tt337 (by omega) (by omega) ?_
      refine al_0 dX9_dispute_45 ?_
      refine g_X9_7 (337) dX9_dispute_46 rfl tt336 (rr9_0 tt336) (by omega) ?_
      refine ic_1 dX9_dispute_49 ?_
      refine wp_iaload dX9_dispute_50 tt337 (by omega) (by omega) ?_
      rw [up_s]
      refine ic_1 dX9_dispute_51 ?_
      refine wp_isub dX9_dispute_52 (r32 (by omega) (by omega)) ?_
      refine wp_ireti dX9_dispute_53 rfl ?_
      have c : canTellD R l := by unfold canTellD; omega
      refine qv (hQ2 c _ ((eqM.rf.up (by omega)).up (by omega)) (M.nx ((eqM.rf.up (by omega)).up (by omega)) ?_ (rDisp_V V c.2.2 c.1 (by have := c.2.1; omega)) ?_)) (by omega)
      · rw [up_ur, up_ur, m]; rfl
      · rw [rDisp_at, if_neg (by decide), if_neg (by omega)]
    · refine ic_m1 dX9_dispute_18 ?_
      refine wp_ireti dX9_dispute_19 rfl ?_
      exact hQ (by unfold canTellD; omega)

theorem wX9_argue {G : GT} {δ : Nat} {h hl : Nat → Int → Int} {b : Bool × Bool} {Q : V → Hp → Prop} {d p q : Int} {wB : Bool} {R : Int → Int} {L : Laws} (hδ : δ ≤ 1580) (M : MT h R L) (hw : h 336 23 = if wB then 1 else 0) (hQ : ¬ canArg R d p q → Q (vi (-1)) (HS h hl b)) (hQ2 : canArg R d p q → ∀ h' hl', eqM h h' → MT h' (rArg L wB (rKeep R) d p q) L → Q (vi (loserV L (rKeep R) d p q)) (HS h' hl' b)) : WP G δ 0 0 MX9_argue 0 [vr (336), vi d, vi p, vi q] [] (HS h hl b) Q := by
  have m := M.1
  have V := M.2.1
  have n := V.n
  have w := V.w
  refine al_0 dX9_argue_0 ?_
  refine il_1 dX9_argue_1 ?_
  refine il_2 dX9_argue_2 ?_
  refine il_3 dX9_argue_3 ?_
  refine c_X9_344 dX9_argue_4 rfl tt336 (Nat.le_of_ble_eq_true rfl) (by omega) ?_
  refine wX9_canArgue (by omega) (by rw [m]; omega) (by rw [m]; omega) (by rw [m]; omega) (by rw [m]; omega) ?_
  rw [m]
  refine pv_i ?_
  refine wp_if_ne 12 dX9_argue_7 rfl (fun c7 => ?_) (fun c7 => ?_)
  · rw [b2i_n0] at c7
    refine al_0 dX9_argue_12 ?_
    refine c_X9_347 dX9_argue_13 rfl tt336 (Nat.le_of_ble_eq_true rfl) (by omega) ?_
    refine wX9_keep (by omega) m V (fun h1 E1 r1 => ?_)
    have M1 := M.keep E1 r1
    have m1 := M1.1
    have EM1 : eqM h h1 := eqM.of E1 (by simp)
    have k0 : rKeep R 0 = R 0 := rKeep_o V (by decide) (by decide)
    have k1 : rKeep R 1 = R 1 := rKeep_o V (by decide) (by decide)
    have k8 : rKeep R 8 = R 8 := rKeep_o V (by decide) (by decide)
    have ka : rKeep R 10 = R 10 := rKeep_o V (by decide) (by decide)
    have hw1 : h1 336 23 = if wB then 1 else 0 := by rw [EM1.2 23 (by decide)]; exact hw
    refine pv_n ?_
    refine al_0 dX9_argue_16 ?_
    refine il_1 dX9_argue_17 ?_
    refine il_2 dX9_argue_18 ?_
    refine il_3 dX9_argue_19 ?_
    refine c_X9_341 dX9_argue_20 rfl tt336 (Nat.le_of_ble_eq_true rfl) (by omega) ?_
    refine wX9_argueNow (wB := wB) (by omega) M1 hw1 (by omega) (by omega) (by omega) (by omega) (by omega) (by omega) (fun h2 hl2 E2 M2 b2 => ?_)
    refine pv_i ?_
    refine wp_ireti dX9_argue_23 rfl ?_
    exact hQ2 c7 h2 hl2 (EM1.tr E2) M2
  · rw [b2i_0] at c7
    refine ic_m1 dX9_argue_10 ?_
    refine wp_ireti dX9_argue_11 rfl ?_
    exact hQ c7

theorem wX9_pour {G : GT} {δ : Nat} {h hl : Nat → Int → Int} {b : Bool × Bool} {Q : V → Hp → Prop} {p x : Int} {wB : Bool} {R : Int → Int} {L : Laws} (hδ : δ ≤ 1640) (M : MT h R L) (hw : h 336 23 = if wB then 1 else 0) (hQ : ¬ (canPr R p x ∧ x ≠ 0 ∧ -99 ≤ x ∧ x ≤ 99) → Q (vi 0) (HS h hl b)) (hQ2 : canPr R p x ∧ x ≠ 0 ∧ -99 ≤ x ∧ x ≤ 99 → ∀ h', eqM h h' → MT h' (rPour (rKeep R) p x) L → Q (vi 1) (HS h' hl b)) : WP G δ 0 0 MX9_pour 0 [vr (336), vi p, vi x] [] (HS h hl b) Q := by
  have m := M.1
  have V := M.2.1
  have n := V.n
  have w := V.w
  refine al_0 dX9_pour_0 ?_
  refine il_1 dX9_pour_1 ?_
  refine il_2 dX9_pour_2 ?_
  refine c_X9_350 dX9_pour_3 rfl tt336 (Nat.le_of_ble_eq_true rfl) (by omega) ?_
  refine wX9_canPour (by omega) (by rw [m]; omega) (by rw [m]; omega) (by rw [m]; exact V.oil) ?_
  rw [m]
  refine pv_i ?_
  refine wp_if_ne 11 dX9_pour_6 rfl (fun c6 => ?_) (fun c6 => ?_)
  · rw [b2i_n0] at c6
    refine al_0 dX9_pour_11 ?_
    refine c_X9_347 dX9_pour_12 rfl tt336 (Nat.le_of_ble_eq_true rfl) (by omega) ?_
    refine wX9_keep (by omega) m V (fun h1 E1 r1 => ?_)
    have M1 := M.keep E1 r1
    have m1 := M1.1
    have EM1 : eqM h h1 := eqM.of E1 (by simp)
    have k0 : rKeep R 0 = R 0 := rKeep_o V (by decide) (by decide)
    have k1 : rKeep R 1 = R 1 := rKeep_o V (by decide) (by decide)
    have k8 : rKeep R 8 = R 8 := rKeep_o V (by decide) (by decide)
    have ka : rKeep R 10 = R 10 := rKeep_o V (by decide) (by decide)
    have hw1 : h1 336 23 = if wB then 1 else 0 := by rw [EM1.2 23 (by decide)]; exact hw
    have kp : rKeep R (13 + 2 * p) = R (13 + 2 * p) := rKeep_o V (by omega) (by omega)
    refine pv_n ?_
    refine al_0 dX9_pour_15 ?_
    refine g_X9_7 (337) dX9_pour_16 rfl tt336 (rr9_0 tt336) (by omega) ?_
    refine bi_13 dX9_pour_19 ?_
    refine ic_2 dX9_pour_21 ?_
    refine il_1 dX9_pour_22 ?_
    refine wp_imul dX9_pour_23 (r32 (by omega) (by omega)) ?_
    refine wp_iadd dX9_pour_24 (r32 (by omega) (by omega)) ?_
    refine wp_dup2 dX9_pour_25 rfl rfl ?_
    refine wp_iaload dX9_pour_26 tt337 (by omega) (by omega) ?_
    rw [m1, kp]
    refine il_2 dX9_pour_27 ?_
    refine wp_iadd dX9_pour_28 (r32 (by omega) (by omega)) ?_
    refine wp_iastore dX9_pour_29 tt337 (by omega) (by omega) ?_
    refine ic_1 dX9_pour_30 ?_
    refine wp_iretz dX9_pour_31 rfl (by omega) ?_
    have c : canPr R p x ∧ x ≠ 0 ∧ -99 ≤ x ∧ x ≤ 99 := by unfold canPr; omega
    have c' : canPr (rKeep R) p x := by unfold canPr; rw [k0, kp]; exact c.1
    have e2 := rPour_N M1.2.1.2.1 c'
    refine hQ2 c _ (EM1.up (by omega)) (M1.nx (eqM.rf.up (by omega)) ?_ (M1.2.1.nw e2 (rPour_V M1.2.1.2.1 c')) (e2 2 (by omega)))
    rw [up_ur, m1, ← kp]; rfl
  · rw [b2i_0] at c6
    refine ic_0 dX9_pour_9 ?_
    refine wp_iretz dX9_pour_10 rfl (by omega) ?_
    exact hQ (by unfold canPr; omega)

theorem wX9_snuff {G : GT} {δ : Nat} {h hl : Nat → Int → Int} {b : Bool × Bool} {Q : V → Hp → Prop} {l : Int} {wB : Bool} {R : Int → Int} {L : Laws} (hδ : δ ≤ 1660) (M : MT h R L) (hw : h 336 23 = if wB then 1 else 0) (hQ : ¬ ((0 ≤ l ∧ l < 10) ∧ tb (R 10) l = true) → Q (vi 0) (HS h hl b)) (hQ2 : (0 ≤ l ∧ l < 10) ∧ tb (R 10) l = true → ∀ h', eqM h h' → MT h' (rSnuff (rKeep R) l) L → Q (vi 1) (HS h' hl b)) : WP G δ 0 0 MX9_snuff 0 [vr (336), vi l] [] (HS h hl b) Q := by
  have m := M.1
  have V := M.2.1
  have n := V.n
  have w := V.w
  refine il_1 dX9_snuff_0 ?_
  refine c_X9_353 dX9_snuff_1 rfl (Nat.le_of_ble_eq_true rfl) (by omega) ?_
  refine wX9_isLamp (by omega) ?_
  refine pv_i ?_
  refine wp_if_eq 21 dX9_snuff_4 rfl (fun c4 => ?_) (fun c4 => ?_)
  · rw [b2i_0] at c4
    refine ic_0 dX9_snuff_21 ?_
    refine wp_iretz dX9_snuff_22 rfl (by omega) ?_
    refine hQ (fun z => ?_)
    first | exact c4 z.1 | exact c18 z.2
  · rw [b2i_n0] at c4
    refine al_0 dX9_snuff_7 ?_
    refine g_X9_7 (337) dX9_snuff_8 rfl tt336 (rr9_0 tt336) (by omega) ?_
    refine bi_10 dX9_snuff_11 ?_
    refine wp_iaload dX9_snuff_13 tt337 (by omega) (by omega) ?_
    first | rw [m2] | rw [m1] | rw [m] | rw [sw_s] | skip
    refine il_1 dX9_snuff_14 ?_
    refine c_X9_248 dX9_snuff_15 rfl (Nat.le_of_ble_eq_true rfl) (by omega) ?_
    refine wX9_has (by omega) (by omega) (by omega) (by omega) (by omega) ?_
    refine pv_i ?_
    refine wp_if_ne 23 dX9_snuff_18 rfl (fun c18 => ?_) (fun c18 => ?_)
    · rw [b2i_n0] at c18
      refine al_0 dX9_snuff_23 ?_
      refine c_X9_347 dX9_snuff_24 rfl tt336 (Nat.le_of_ble_eq_true rfl) (by omega) ?_
      refine wX9_keep (by omega) m V (fun h1 E1 r1 => ?_)
      have M1 := M.keep E1 r1
      have m1 := M1.1
      have EM1 : eqM h h1 := eqM.of E1 (by simp)
      have k0 : rKeep R 0 = R 0 := rKeep_o V (by decide) (by decide)
      have k1 : rKeep R 1 = R 1 := rKeep_o V (by decide) (by decide)
      have k8 : rKeep R 8 = R 8 := rKeep_o V (by decide) (by decide)
      have ka : rKeep R 10 = R 10 := rKeep_o V (by decide) (by decide)
      have hw1 : h1 336 23 = if wB then 1 else 0 := by rw [EM1.2 23 (by decide)]; exact hw
      refine pv_n ?_
      refine al_0 dX9_snuff_27 ?_
      refine g_X9_7 (337) dX9_snuff_28 rfl tt336 (rr9_0 tt336) (by omega) ?_
      refine bi_10 dX9_snuff_31 ?_
      refine wp_dup2 dX9_snuff_33 rfl rfl ?_
      refine wp_iaload dX9_snuff_34 tt337 (by omega) (by omega) ?_
      rw [m1, ka]
      refine ic_1 dX9_snuff_35 ?_
      refine il_1 dX9_snuff_36 ?_
      refine wp_ishl dX9_snuff_37 ?_
      refine wp_ixor dX9_snuff_38 ?_
      refine wp_iastore dX9_snuff_39 tt337 (by omega) (by omega) ?_
      refine ic_1 dX9_snuff_40 ?_
      refine wp_iretz dX9_snuff_41 rfl (by omega) ?_
      obtain ⟨i, hi, ei⟩ := nat_of (n := 1024) w.2.2.1.1 w.2.2.1.2
      obtain ⟨j, hj, ej⟩ := nat_of (n := 10) c4.1 c4.2
      have ex : bxor (R 10) (shl 1 l) = snuffL (R 10) l := by
        have := out_x i hi j hj (by rw [← ei, ← ej]; exact c18)
        rw [ei, ej]; exact this
      refine hQ2 ⟨c4, c18⟩ _ (EM1.up (by omega)) (M1.nx (eqM.rf.up (by omega)) ?_ (M1.2.1.nw rSnuff_N (rSnuff_V M1.2.1.2.1 c4.1 c4.2)) (rSnuff_N 2 (by omega)))
      rw [up_ur, m1, ex, ← ka]; rfl
    · rw [b2i_0] at c18
      refine ic_0 dX9_snuff_21 ?_
      refine wp_iretz dX9_snuff_22 rfl (by omega) ?_
      refine hQ (fun z => ?_)
      first | exact c4 z.1 | exact c18 z.2

theorem wX9_arePassed_7 {G : GT} {δ : Nat} {b : Bool × Bool} {Q : V → Hp → Prop} {L : Laws} {n B : Int} {wB : Bool} (hδ : δ ≤ 1560) (n1 : n ≤ 60) :
    ∀ (m : Nat) (k : Int) (h hl : Nat → Int → Int) (R : Int → Int), (n - k).toNat = m → 0 ≤ k → k ≤ n → MT h R L → h 336 23 = (if wB then 1 else 0) → h 336 24 = w32 (B - allOil R) →
      (∀ h' hl', eqM h h' → MT h' (rNts L true wB m R) L → h' 336 24 = w32 (B - allOil (rNts L true wB m R)) → Q (vi (b2i (rNts L true wB m R 8 - R 8 = m))) (HS h' hl' b)) → WP G δ 0 0 MX9_arePassed 7 [vr 336, vi n, vi k] [] (HS h hl b) Q := by
  intro m0
  induction m0 with
  | zero =>
    intro k h hl R hm k0 k1 M hw hb hQ
    refine il_2 dX9_arePassed_7 ?_
    refine il_1 dX9_arePassed_8 ?_
    refine wp_icmp_ge 41 dX9_arePassed_9 rfl (fun c9 => ?_) (fun c9 => ?_)
    · refine ic_1 dX9_arePassed_41 ?_
      refine wp_iretz dX9_arePassed_42 rfl (by omega) ?_
      refine qv (hQ h hl eqM.rf M hb) (b2i_t ?_)
      show R 8 - R 8 = _; omega
    · omega
  | succ m0 ih =>
    intro k h hl R hm k0 k1 M hw hb hQ
    have m := M.1
    have V := M.2.1
    have n := V.n
    have w := V.w
    refine il_2 dX9_arePassed_7 ?_
    refine il_1 dX9_arePassed_8 ?_
    refine wp_icmp_ge 41 dX9_arePassed_9 rfl (fun c9 => ?_) (fun c9 => ?_)
    · omega
    · refine al_0 dX9_arePassed_12 ?_
      refine g_X9_7 (337) dX9_arePassed_13 rfl tt336 (rr9_0 tt336) (by omega) ?_
      refine bi_8 dX9_arePassed_16 ?_
      refine wp_iaload dX9_arePassed_18 tt337 (by omega) (by omega) ?_
      first | rw [m2] | rw [m1] | rw [m] | rw [sw_s] | skip
      refine si_9999 dX9_arePassed_19 ?_
      refine wp_icmp_ne 27 dX9_arePassed_22 rfl (fun c22 => ?_) (fun c22 => ?_)
      · refine al_0 dX9_arePassed_27 ?_
        refine c_X9_347 dX9_arePassed_28 rfl tt336 (Nat.le_of_ble_eq_true rfl) (by omega) ?_
        refine wX9_keep (by omega) m V (fun h1 E1 r1 => ?_)
        have M1 := M.keep E1 r1
        have m1 := M1.1
        have EM1 : eqM h h1 := eqM.of E1 (by simp)
        have k0 : rKeep R 0 = R 0 := rKeep_o V (by decide) (by decide)
        have k1 : rKeep R 1 = R 1 := rKeep_o V (by decide) (by decide)
        have k8 : rKeep R 8 = R 8 := rKeep_o V (by decide) (by decide)
        have ka : rKeep R 10 = R 10 := rKeep_o V (by decide) (by decide)
        have hw1 : h1 336 23 = if wB then 1 else 0 := by rw [EM1.2 23 (by decide)]; exact hw
        refine pv_n ?_
        refine al_0 dX9_arePassed_31 ?_
        refine c_X9_356 dX9_arePassed_32 rfl tt336 (Nat.le_of_ble_eq_true rfl) (by omega) ?_
        refine wX9_pass (wB := wB) (by omega) M1 hw1 (by omega) (fun h2 hl2 E2 M2 b2 => ?_)
        refine pv_n ?_
        refine ii_2 dX9_arePassed_35 rfl (by decide) ⟨by decide, by decide⟩ (r32 (by omega) (by omega)) ?_
        refine wp_goto 7 dX9_arePassed_38 rfl ?_
        refine ih (k + 1) h2 hl2 _ (by omega) (by omega) (by omega) M2 (by rw [E2.2 23 (by decide)]; exact hw1) ?_ (fun h3 hl3 E3 M3 b3 => ?_)
        · rw [b2, E1 336 (by decide), hb, allOil_keep V, w32_add]; congr 1; omega
        have e := rNts_t (L := L) (s := true) (w := wB) (n := m0) (R := R) (by omega)
        rw [if_pos rfl] at e
        rw [e] at hQ
        have ep := (rPass_ok (L := L) (w := wB) M1.2.1 (by omega)).2.2
        exact qv (hQ h3 hl3 ((EM1.tr E2).tr E3) M3 b3) (b2i_c (by omega))
      · refine ic_0 dX9_arePassed_25 ?_
        refine wp_iretz dX9_arePassed_26 rfl (by omega) ?_
        have e := rNts_f (L := L) (s := true) (w := wB) (n := m0) (R := R) (by omega)
        rw [e] at hQ
        exact qv (hQ h hl eqM.rf M hb) (b2i_f (by omega))

theorem wX9_arePassed {G : GT} {δ : Nat} {h hl : Nat → Int → Int} {b : Bool × Bool} {Q : V → Hp → Prop} {n : Int} {wB : Bool} {R : Int → Int} {L : Laws} (hδ : δ ≤ 1560) (M : MT h R L) (hw : h 336 23 = if wB then 1 else 0) (n0 : 0 ≤ n) (n1 : n ≤ 60) (hQ : ∀ h' hl', eqM h h' → MT h' (rNts L true wB n.toNat R) L → h' 336 24 = w32 (allOil R - allOil (rNts L true wB n.toNat R)) → Q (vi (b2i (rNts L true wB n.toNat R 8 - R 8 = n))) (HS h' hl' b)) : WP G δ 0 0 MX9_arePassed 0 [vr (336), vi n, vn] [] (HS h hl b) Q := by
  refine al_0 dX9_arePassed_0 ?_
  refine ic_0 dX9_arePassed_1 ?_
  refine p_X9_326 dX9_arePassed_2 rfl tt336 ?_
  refine ic_0 dX9_arePassed_5 ?_
  refine is_2 dX9_arePassed_6 rfl (by decide) ?_
  have E0 : eqM h (up h 336 24 0) := eqM.rf.up24
  refine wX9_arePassed_7 (wB := wB) (B := allOil R) (by omega) n1 n.toNat 0 _ hl R (by omega) (by omega) n0 (M.nx E0 (by rw [show (up h 336 24 0) 337 = h 337 from by funext j; exact up_o (by decide)]; exact M.1) M.2.1 rfl) (by rw [E0.2 23 (by decide)]; exact hw) ?_ (fun h3 hl3 E3 M3 b3 => ?_)
  · rw [up_s, show allOil R - allOil R = 0 by omega]; exact (w32_id ⟨by decide, by decide⟩).symm
  exact qv (hQ h3 hl3 (E0.tr E3) M3 b3) (b2i_c (by omega))

theorem wX9_night {G : GT} {δ : Nat} {h hl : Nat → Int → Int} {b : Bool × Bool} {Q : V → Hp → Prop} {n : Int} {wB : Bool} {R : Int → Int} {L : Laws} (hδ : δ ≤ 1540) (M : MT h R L) (hw : h 336 23 = if wB then 1 else 0) (hQ : ¬ (1 ≤ n ∧ n ≤ 60 ∧ R 8 + n ≤ 9999) → Q (vi (-1)) (HS h hl b)) (hQ2 : 1 ≤ n ∧ n ≤ 60 ∧ R 8 + n ≤ 9999 → ∀ h' hl', eqM h h' → MT h' (rNts L true wB n.toNat R) L → Q (vi (allOil R - allOil (rNts L true wB n.toNat R))) (HS h' hl' b)) : WP G δ 0 0 MX9_night 0 [vr (336), vi n] [] (HS h hl b) Q := by
  have m := M.1
  have V := M.2.1
  have vn' := V.n
  have w := V.w
  refine il_1 dX9_night_0 ?_
  refine ic_1 dX9_night_1 ?_
  refine bi_60 dX9_night_2 ?_
  refine c_X9_69 dX9_night_4 rfl (Nat.le_of_ble_eq_true rfl) (by omega) ?_
  refine wX9_isIn (by omega) ?_
  refine pv_i ?_
  refine wp_if_eq 40 dX9_night_7 rfl (fun c7 => ?_) (fun c7 => ?_)
  · rw [b2i_0] at c7
    refine ic_m1 dX9_night_40 ?_
    refine wp_ireti dX9_night_41 rfl ?_
    first
      | exact hQ (by omega)
      | exact hQ2 (by omega) h1 hl1 E1 M1
  · rw [b2i_n0] at c7
    refine al_0 dX9_night_10 ?_
    refine g_X9_7 (337) dX9_night_11 rfl tt336 (rr9_0 tt336) (by omega) ?_
    refine bi_8 dX9_night_14 ?_
    refine wp_iaload dX9_night_16 tt337 (by omega) (by omega) ?_
    first | rw [m2] | rw [m1] | rw [m] | rw [sw_s] | skip
    refine il_1 dX9_night_17 ?_
    refine wp_iadd dX9_night_18 (r32 (by omega) (by omega)) ?_
    refine si_9999 dX9_night_19 ?_
    refine wp_icmp_gt 40 dX9_night_22 rfl (fun c22 => ?_) (fun c22 => ?_)
    · refine ic_m1 dX9_night_40 ?_
      refine wp_ireti dX9_night_41 rfl ?_
      first
        | exact hQ (by omega)
        | exact hQ2 (by omega) h1 hl1 E1 M1
    · refine al_0 dX9_night_25 ?_
      refine il_1 dX9_night_26 ?_
      refine c_X9_359 dX9_night_27 rfl tt336 (Nat.le_of_ble_eq_true rfl) (by omega) ?_
      refine wX9_arePassed (wB := wB) (by omega) M hw (by omega) (by omega) (fun h1 hl1 E1 M1 b1 => ?_)
      have e8 := rNts_8 (L := L) (s := true) (w := wB) n.toNat R V (by omega)
      have a1 := allOil_R V.2.1
      have a2 := allOil_R M1.2.1.2.1
      rw [w32_id ⟨by omega, by omega⟩] at b1
      refine pv_i ?_
      refine wp_if_eq 40 dX9_night_30 rfl (fun c30 => ?_) (fun c30 => ?_)
      · rw [b2i_0] at c30; omega
      · rw [b2i_n0] at c30
        refine al_0 dX9_night_33 ?_
        refine g_X9_326 dX9_night_34 rfl tt336 ?_
        rw [b1]
        refine wp_goto 41 dX9_night_37 rfl ?_
        refine wp_ireti dX9_night_41 rfl ?_
        first
          | exact hQ (by omega)
          | exact hQ2 (by omega) h1 hl1 E1 M1

theorem wX9_happens {G : GT} {δ : Nat} {h hl : Nat → Int → Int} {b : Bool × Bool} {Q : V → Hp → Prop} {wB : Bool} {R : Int → Int} {L : Laws} (hδ : δ ≤ 1560) (VR : RV R) (M : MT h (rDraw R) L) (hw : h 336 23 = if wB then 1 else 0) (hQ : ∀ h' hl', eqM h h' → MT h' (rYear L wB R) L → Q vn (HS h' hl' b)) : WP G δ 0 0 MX9_happens 0 [vr (336), vi (R 9), vn, vn] [] (HS h hl b) Q := by
  have m := M.1
  have V := M.2.1
  have n := V.n
  have w := V.w
  have w0 := VR.w
  have n0 := VR.n
  have y0 : rDraw R 0 = R 0 := rDraw_o (by decide)
  have y1 : rDraw R 1 = R 1 := rDraw_o (by decide)
  have y8 : rDraw R 8 = R 8 := rDraw_o (by decide)
  have ya : rDraw R 10 = R 10 := rDraw_o (by decide)
  refine al_0 dX9_happens_0 ?_
  refine g_X9_7 (337) dX9_happens_1 rfl tt336 (rr9_0 tt336) (by omega) ?_
  refine ic_0 dX9_happens_4 ?_
  refine wp_iaload dX9_happens_5 tt337 (by omega) (by omega) ?_
  rw [m, y0]
  refine is_2 dX9_happens_6 rfl (by decide) ?_
  refine il_1 dX9_happens_7 ?_
  refine bi_6 dX9_happens_8 ?_
  refine wp_idivN dX9_happens_10 (by omega) (by omega) ?_
  refine is_3 dX9_happens_11 rfl (by decide) ?_
  refine il_1 dX9_happens_12 ?_
  refine bi_6 dX9_happens_13 ?_
  refine wp_iremN dX9_happens_15 (by omega) (by omega) ?_
  rcases (show ((R 9 % 6) < 0 ∨ 3 < (R 9 % 6)) ∨ ((R 9 % 6) = 0) ∨ ((R 9 % 6) = 1) ∨ ((R 9 % 6) = 2) ∨ ((R 9 % 6) = 3) by omega) with c16 | c16 | c16 | c16 | c16
  · refine wp_tswD 168 dX9_happens_16 (by omega) rfl ?_
    refine al_0 dX9_happens_168 ?_
    refine g_X9_7 (337) dX9_happens_169 rfl tt336 (rr9_0 tt336) (by omega) ?_
    refine bi_8 dX9_happens_172 ?_
    refine wp_iaload dX9_happens_174 tt337 (by omega) (by omega) ?_
    first | rw [m2] | rw [m1] | rw [m] | rw [sw_s] | skip
    refine si_9999 dX9_happens_175 ?_
    refine wp_icmp_ge 185 dX9_happens_178 rfl (fun c178 => ?_) (fun c178 => ?_)
    · refine wp_vret dX9_happens_185 rfl ?_
      first
        | (rw [rYear_a0 (by omega) (by unfold canArg; omega)] at hQ; exact hQ h hl eqM.rf M)
        | (rw [rYear_a1 (by omega) (by omega) (by omega) c79] at hQ; exact hQ h2 hl2 E2 M2)
        | (rw [rYear_2 (by assumption)] at hQ
           refine hQ _ hl (eqM.rf.up (by omega)) (M.nx (eqM.rf.up (by omega)) ?_ (V.nw rSnuff_N (rSnuff_V V.2.1 (by omega) (by omega))) (rSnuff_N 2 (by omega)))
           rw [up_ur, m]; rfl)
        | (rw [rYear_30 VR (by assumption) (by unfold canPr; omega)] at hQ; exact hQ h hl eqM.rf M)
        | (have c : canPr (rDraw R) (R 9 % R 0) (1 + R 9 / 6 % 5) := ⟨c141.1, c141.2.2.2⟩
           rw [rYear_31 (by assumption) (by omega) c] at hQ
           have e2 := rPour_N V.2.1 c
           refine hQ _ hl (eqM.rf.up (by omega)) (M.nx (eqM.rf.up (by omega)) ?_ (V.nw e2 (rPour_V V.2.1 c)) (e2 2 (by omega)))
           rw [up_ur, m]; rfl)
        | (rw [rYear_40 (by omega) (by omega) (by omega) (by omega)] at hQ; exact hQ h hl eqM.rf M)
        | (rw [rYear_41 (by omega) (by omega) (by omega) (by omega)] at hQ; exact hQ h2 hl2 E2 M2)
    · refine al_0 dX9_happens_181 ?_
      refine c_X9_356 dX9_happens_182 rfl tt336 (Nat.le_of_ble_eq_true rfl) (by omega) ?_
      refine wX9_pass (wB := wB) (by omega) M hw (by omega) (fun h2 hl2 E2 M2 b2 => ?_)
      refine pv_n ?_
      refine wp_vret dX9_happens_185 rfl ?_
      first
        | (rw [rYear_a0 (by omega) (by unfold canArg; omega)] at hQ; exact hQ h hl eqM.rf M)
        | (rw [rYear_a1 (by omega) (by omega) (by omega) c79] at hQ; exact hQ h2 hl2 E2 M2)
        | (rw [rYear_2 (by assumption)] at hQ
           refine hQ _ hl (eqM.rf.up (by omega)) (M.nx (eqM.rf.up (by omega)) ?_ (V.nw rSnuff_N (rSnuff_V V.2.1 (by omega) (by omega))) (rSnuff_N 2 (by omega)))
           rw [up_ur, m]; rfl)
        | (rw [rYear_30 VR (by assumption) (by unfold canPr; omega)] at hQ; exact hQ h hl eqM.rf M)
        | (have c : canPr (rDraw R) (R 9 % R 0) (1 + R 9 / 6 % 5) := ⟨c141.1, c141.2.2.2⟩
           rw [rYear_31 (by assumption) (by omega) c] at hQ
           have e2 := rPour_N V.2.1 c
           refine hQ _ hl (eqM.rf.up (by omega)) (M.nx (eqM.rf.up (by omega)) ?_ (V.nw e2 (rPour_V V.2.1 c)) (e2 2 (by omega)))
           rw [up_ur, m]; rfl)
        | (rw [rYear_40 (by omega) (by omega) (by omega) (by omega)] at hQ; exact hQ h hl eqM.rf M)
        | (rw [rYear_41 (by omega) (by omega) (by omega) (by omega)] at hQ; exact hQ h2 hl2 E2 M2)
  · refine wp_tsw 48 dX9_happens_16 (by omega) (by omega) (32) (by rw [c16]; rfl) rfl ?_
    refine il_2 dX9_happens_48 ?_
    refine wp_if_le 185 dX9_happens_49 rfl (fun c49 => ?_) (fun c49 => ?_)
    · refine wp_vret dX9_happens_185 rfl ?_
      first
        | (rw [rYear_a0 (by omega) (by unfold canArg; omega)] at hQ; exact hQ h hl eqM.rf M)
        | (rw [rYear_a1 (by omega) (by omega) (by omega) c79] at hQ; exact hQ h2 hl2 E2 M2)
        | (rw [rYear_2 (by assumption)] at hQ
           refine hQ _ hl (eqM.rf.up (by omega)) (M.nx (eqM.rf.up (by omega)) ?_ (V.nw rSnuff_N (rSnuff_V V.2.1 (by omega) (by omega))) (rSnuff_N 2 (by omega)))
           rw [up_ur, m]; rfl)
        | (rw [rYear_30 VR (by assumption) (by unfold canPr; omega)] at hQ; exact hQ h hl eqM.rf M)
        | (have c : canPr (rDraw R) (R 9 % R 0) (1 + R 9 / 6 % 5) := ⟨c141.1, c141.2.2.2⟩
           rw [rYear_31 (by assumption) (by omega) c] at hQ
           have e2 := rPour_N V.2.1 c
           refine hQ _ hl (eqM.rf.up (by omega)) (M.nx (eqM.rf.up (by omega)) ?_ (V.nw e2 (rPour_V V.2.1 c)) (e2 2 (by omega)))
           rw [up_ur, m]; rfl)
        | (rw [rYear_40 (by omega) (by omega) (by omega) (by omega)] at hQ; exact hQ h hl eqM.rf M)
        | (rw [rYear_41 (by omega) (by omega) (by omega) (by omega)] at hQ; exact hQ h2 hl2 E2 M2)
    · have a1 := Int.emod_nonneg (R 9) (show R 0 ≠ 0 by omega)
      have a2 := Int.emod_lt_of_pos (R 9) (show 0 < R 0 by omega)
      have a3 := Int.emod_nonneg (R 9 / 6) (show R 0 ≠ 0 by omega)
      have a4 := Int.emod_lt_of_pos (R 9 / 6) (show 0 < R 0 by omega)
      refine al_0 dX9_happens_52 ?_
      refine g_X9_7 (337) dX9_happens_53 rfl tt336 (rr9_0 tt336) (by omega) ?_
      refine ic_1 dX9_happens_56 ?_
      refine wp_iaload dX9_happens_57 tt337 (by omega) (by omega) ?_
      rw [m, y1]
      refine wp_if_le 185 dX9_happens_58 rfl (fun c58 => ?_) (fun c58 => ?_)
      · refine wp_vret dX9_happens_185 rfl ?_
        first
          | (rw [rYear_a0 (by omega) (by unfold canArg; omega)] at hQ; exact hQ h hl eqM.rf M)
          | (rw [rYear_a1 (by omega) (by omega) (by omega) c79] at hQ; exact hQ h2 hl2 E2 M2)
          | (rw [rYear_2 (by assumption)] at hQ
             refine hQ _ hl (eqM.rf.up (by omega)) (M.nx (eqM.rf.up (by omega)) ?_ (V.nw rSnuff_N (rSnuff_V V.2.1 (by omega) (by omega))) (rSnuff_N 2 (by omega)))
             rw [up_ur, m]; rfl)
          | (rw [rYear_30 VR (by assumption) (by unfold canPr; omega)] at hQ; exact hQ h hl eqM.rf M)
          | (have c : canPr (rDraw R) (R 9 % R 0) (1 + R 9 / 6 % 5) := ⟨c141.1, c141.2.2.2⟩
             rw [rYear_31 (by assumption) (by omega) c] at hQ
             have e2 := rPour_N V.2.1 c
             refine hQ _ hl (eqM.rf.up (by omega)) (M.nx (eqM.rf.up (by omega)) ?_ (V.nw e2 (rPour_V V.2.1 c)) (e2 2 (by omega)))
             rw [up_ur, m]; rfl)
          | (rw [rYear_40 (by omega) (by omega) (by omega) (by omega)] at hQ; exact hQ h hl eqM.rf M)
          | (rw [rYear_41 (by omega) (by omega) (by omega) (by omega)] at hQ; exact hQ h2 hl2 E2 M2)
      · have a5 := Int.emod_nonneg (R 9 / 6) (show R 1 ≠ 0 by omega)
        have a6 := Int.emod_lt_of_pos (R 9 / 6) (show 0 < R 1 by omega)
        refine al_0 dX9_happens_61 ?_
        refine il_3 dX9_happens_62 ?_
        refine al_0 dX9_happens_63 ?_
        refine g_X9_7 (337) dX9_happens_64 rfl tt336 (rr9_0 tt336) (by omega) ?_
        refine ic_1 dX9_happens_67 ?_
        refine wp_iaload dX9_happens_68 tt337 (by omega) (by omega) ?_
        rw [m, y1]
        refine wp_iremN dX9_happens_69 (by omega) (by omega) ?_
        refine il_1 dX9_happens_70 ?_
        refine il_2 dX9_happens_71 ?_
        refine wp_iremN dX9_happens_72 (by omega) (by omega) ?_
        refine il_3 dX9_happens_73 ?_
        refine il_2 dX9_happens_74 ?_
        refine wp_iremN dX9_happens_75 (by omega) (by omega) ?_
        refine c_X9_344 dX9_happens_76 rfl tt336 (Nat.le_of_ble_eq_true rfl) (by omega) ?_
        refine wX9_canArgue (by omega) (by rw [m]; omega) (by rw [m]; omega) (by rw [m]; omega) (by rw [m]; omega) ?_
        rw [m]
        refine pv_i ?_
        refine wp_if_eq 185 dX9_happens_79 rfl (fun c79 => ?_) (fun c79 => ?_)
        · rw [b2i_0] at c79
          refine wp_vret dX9_happens_185 rfl ?_
          first
            | (rw [rYear_a0 (by omega) (by unfold canArg; omega)] at hQ; exact hQ h hl eqM.rf M)
            | (rw [rYear_a1 (by omega) (by omega) (by omega) c79] at hQ; exact hQ h2 hl2 E2 M2)
            | (rw [rYear_2 (by assumption)] at hQ
               refine hQ _ hl (eqM.rf.up (by omega)) (M.nx (eqM.rf.up (by omega)) ?_ (V.nw rSnuff_N (rSnuff_V V.2.1 (by omega) (by omega))) (rSnuff_N 2 (by omega)))
               rw [up_ur, m]; rfl)
            | (rw [rYear_30 VR (by assumption) (by unfold canPr; omega)] at hQ; exact hQ h hl eqM.rf M)
            | (have c : canPr (rDraw R) (R 9 % R 0) (1 + R 9 / 6 % 5) := ⟨c141.1, c141.2.2.2⟩
               rw [rYear_31 (by assumption) (by omega) c] at hQ
               have e2 := rPour_N V.2.1 c
               refine hQ _ hl (eqM.rf.up (by omega)) (M.nx (eqM.rf.up (by omega)) ?_ (V.nw e2 (rPour_V V.2.1 c)) (e2 2 (by omega)))
               rw [up_ur, m]; rfl)
            | (rw [rYear_40 (by omega) (by omega) (by omega) (by omega)] at hQ; exact hQ h hl eqM.rf M)
            | (rw [rYear_41 (by omega) (by omega) (by omega) (by omega)] at hQ; exact hQ h2 hl2 E2 M2)
        · rw [b2i_n0] at c79
          refine al_0 dX9_happens_82 ?_
          refine il_3 dX9_happens_83 ?_
          refine al_0 dX9_happens_84 ?_
          refine g_X9_7 (337) dX9_happens_85 rfl tt336 (rr9_0 tt336) (by omega) ?_
          refine ic_1 dX9_happens_88 ?_
          refine wp_iaload dX9_happens_89 tt337 (by omega) (by omega) ?_
          rw [m, y1]
          refine wp_iremN dX9_happens_90 (by omega) (by omega) ?_
          refine il_1 dX9_happens_91 ?_
          refine il_2 dX9_happens_92 ?_
          refine wp_iremN dX9_happens_93 (by omega) (by omega) ?_
          refine il_3 dX9_happens_94 ?_
          refine il_2 dX9_happens_95 ?_
          refine wp_iremN dX9_happens_96 (by omega) (by omega) ?_
          refine c_X9_341 dX9_happens_97 rfl tt336 (Nat.le_of_ble_eq_true rfl) (by omega) ?_
          refine wX9_argueNow (wB := wB) (by omega) M hw (by omega) (by omega) (by omega) (by omega) (by omega) (by omega) (fun h2 hl2 E2 M2 b2 => ?_)
          refine pv_i ?_
          refine wp_if_ge 185 dX9_happens_100 rfl (fun c100 => ?_) (fun c100 => ?_)
          · refine wp_vret dX9_happens_185 rfl ?_
            first
              | (rw [rYear_a0 (by omega) (by unfold canArg; omega)] at hQ; exact hQ h hl eqM.rf M)
              | (rw [rYear_a1 (by omega) (by omega) (by omega) c79] at hQ; exact hQ h2 hl2 E2 M2)
              | (rw [rYear_2 (by assumption)] at hQ
                 refine hQ _ hl (eqM.rf.up (by omega)) (M.nx (eqM.rf.up (by omega)) ?_ (V.nw rSnuff_N (rSnuff_V V.2.1 (by omega) (by omega))) (rSnuff_N 2 (by omega)))
                 rw [up_ur, m]; rfl)
              | (rw [rYear_30 VR (by assumption) (by unfold canPr; omega)] at hQ; exact hQ h hl eqM.rf M)
              | (have c : canPr (rDraw R) (R 9 % R 0) (1 + R 9 / 6 % 5) := ⟨c141.1, c141.2.2.2⟩
                 rw [rYear_31 (by assumption) (by omega) c] at hQ
                 have e2 := rPour_N V.2.1 c
                 refine hQ _ hl (eqM.rf.up (by omega)) (M.nx (eqM.rf.up (by omega)) ?_ (V.nw e2 (rPour_V V.2.1 c)) (e2 2 (by omega)))
                 rw [up_ur, m]; rfl)
              | (rw [rYear_40 (by omega) (by omega) (by omega) (by omega)] at hQ; exact hQ h hl eqM.rf M)
              | (rw [rYear_41 (by omega) (by omega) (by omega) (by omega)] at hQ; exact hQ h2 hl2 E2 M2)
          · exact (c100 (loserV_R (by omega) (by omega) (by omega) (by omega)).1).elim
  · refine wp_tsw 48 dX9_happens_16 (by omega) (by omega) (32) (by rw [c16]; rfl) rfl ?_
    refine il_2 dX9_happens_48 ?_
    refine wp_if_le 185 dX9_happens_49 rfl (fun c49 => ?_) (fun c49 => ?_)
    · refine wp_vret dX9_happens_185 rfl ?_
      first
        | (rw [rYear_a0 (by omega) (by unfold canArg; omega)] at hQ; exact hQ h hl eqM.rf M)
        | (rw [rYear_a1 (by omega) (by omega) (by omega) c79] at hQ; exact hQ h2 hl2 E2 M2)
        | (rw [rYear_2 (by assumption)] at hQ
           refine hQ _ hl (eqM.rf.up (by omega)) (M.nx (eqM.rf.up (by omega)) ?_ (V.nw rSnuff_N (rSnuff_V V.2.1 (by omega) (by omega))) (rSnuff_N 2 (by omega)))
           rw [up_ur, m]; rfl)
        | (rw [rYear_30 VR (by assumption) (by unfold canPr; omega)] at hQ; exact hQ h hl eqM.rf M)
        | (have c : canPr (rDraw R) (R 9 % R 0) (1 + R 9 / 6 % 5) := ⟨c141.1, c141.2.2.2⟩
           rw [rYear_31 (by assumption) (by omega) c] at hQ
           have e2 := rPour_N V.2.1 c
           refine hQ _ hl (eqM.rf.up (by omega)) (M.nx (eqM.rf.up (by omega)) ?_ (V.nw e2 (rPour_V V.2.1 c)) (e2 2 (by omega)))
           rw [up_ur, m]; rfl)
        | (rw [rYear_40 (by omega) (by omega) (by omega) (by omega)] at hQ; exact hQ h hl eqM.rf M)
        | (rw [rYear_41 (by omega) (by omega) (by omega) (by omega)] at hQ; exact hQ h2 hl2 E2 M2)
    · have a1 := Int.emod_nonneg (R 9) (show R 0 ≠ 0 by omega)
      have a2 := Int.emod_lt_of_pos (R 9) (show 0 < R 0 by omega)
      have a3 := Int.emod_nonneg (R 9 / 6) (show R 0 ≠ 0 by omega)
      have a4 := Int.emod_lt_of_pos (R 9 / 6) (show 0 < R 0 by omega)
      refine al_0 dX9_happens_52 ?_
      refine g_X9_7 (337) dX9_happens_53 rfl tt336 (rr9_0 tt336) (by omega) ?_
      refine ic_1 dX9_happens_56 ?_
      refine wp_iaload dX9_happens_57 tt337 (by omega) (by omega) ?_
      rw [m, y1]
      refine wp_if_le 185 dX9_happens_58 rfl (fun c58 => ?_) (fun c58 => ?_)
      · refine wp_vret dX9_happens_185 rfl ?_
        first
          | (rw [rYear_a0 (by omega) (by unfold canArg; omega)] at hQ; exact hQ h hl eqM.rf M)
          | (rw [rYear_a1 (by omega) (by omega) (by omega) c79] at hQ; exact hQ h2 hl2 E2 M2)
          | (rw [rYear_2 (by assumption)] at hQ
             refine hQ _ hl (eqM.rf.up (by omega)) (M.nx (eqM.rf.up (by omega)) ?_ (V.nw rSnuff_N (rSnuff_V V.2.1 (by omega) (by omega))) (rSnuff_N 2 (by omega)))
             rw [up_ur, m]; rfl)
          | (rw [rYear_30 VR (by assumption) (by unfold canPr; omega)] at hQ; exact hQ h hl eqM.rf M)
          | (have c : canPr (rDraw R) (R 9 % R 0) (1 + R 9 / 6 % 5) := ⟨c141.1, c141.2.2.2⟩
             rw [rYear_31 (by assumption) (by omega) c] at hQ
             have e2 := rPour_N V.2.1 c
             refine hQ _ hl (eqM.rf.up (by omega)) (M.nx (eqM.rf.up (by omega)) ?_ (V.nw e2 (rPour_V V.2.1 c)) (e2 2 (by omega)))
             rw [up_ur, m]; rfl)
          | (rw [rYear_40 (by omega) (by omega) (by omega) (by omega)] at hQ; exact hQ h hl eqM.rf M)
          | (rw [rYear_41 (by omega) (by omega) (by omega) (by omega)] at hQ; exact hQ h2 hl2 E2 M2)
      · have a5 := Int.emod_nonneg (R 9 / 6) (show R 1 ≠ 0 by omega)
        have a6 := Int.emod_lt_of_pos (R 9 / 6) (show 0 < R 1 by omega)
        refine al_0 dX9_happens_61 ?_
        refine il_3 dX9_happens_62 ?_
        refine al_0 dX9_happens_63 ?_
        refine g_X9_7 (337) dX9_happens_64 rfl tt336 (rr9_0 tt336) (by omega) ?_
        refine ic_1 dX9_happens_67 ?_
        refine wp_iaload dX9_happens_68 tt337 (by omega) (by omega) ?_
        rw [m, y1]
        refine wp_iremN dX9_happens_69 (by omega) (by omega) ?_
        refine il_1 dX9_happens_70 ?_
        refine il_2 dX9_happens_71 ?_
        refine wp_iremN dX9_happens_72 (by omega) (by omega) ?_
        refine il_3 dX9_happens_73 ?_
        refine il_2 dX9_happens_74 ?_
        refine wp_iremN dX9_happens_75 (by omega) (by omega) ?_
        refine c_X9_344 dX9_happens_76 rfl tt336 (Nat.le_of_ble_eq_true rfl) (by omega) ?_
        refine wX9_canArgue (by omega) (by rw [m]; omega) (by rw [m]; omega) (by rw [m]; omega) (by rw [m]; omega) ?_
        rw [m]
        refine pv_i ?_
        refine wp_if_eq 185 dX9_happens_79 rfl (fun c79 => ?_) (fun c79 => ?_)
        · rw [b2i_0] at c79
          refine wp_vret dX9_happens_185 rfl ?_
          first
            | (rw [rYear_a0 (by omega) (by unfold canArg; omega)] at hQ; exact hQ h hl eqM.rf M)
            | (rw [rYear_a1 (by omega) (by omega) (by omega) c79] at hQ; exact hQ h2 hl2 E2 M2)
            | (rw [rYear_2 (by assumption)] at hQ
               refine hQ _ hl (eqM.rf.up (by omega)) (M.nx (eqM.rf.up (by omega)) ?_ (V.nw rSnuff_N (rSnuff_V V.2.1 (by omega) (by omega))) (rSnuff_N 2 (by omega)))
               rw [up_ur, m]; rfl)
            | (rw [rYear_30 VR (by assumption) (by unfold canPr; omega)] at hQ; exact hQ h hl eqM.rf M)
            | (have c : canPr (rDraw R) (R 9 % R 0) (1 + R 9 / 6 % 5) := ⟨c141.1, c141.2.2.2⟩
               rw [rYear_31 (by assumption) (by omega) c] at hQ
               have e2 := rPour_N V.2.1 c
               refine hQ _ hl (eqM.rf.up (by omega)) (M.nx (eqM.rf.up (by omega)) ?_ (V.nw e2 (rPour_V V.2.1 c)) (e2 2 (by omega)))
               rw [up_ur, m]; rfl)
            | (rw [rYear_40 (by omega) (by omega) (by omega) (by omega)] at hQ; exact hQ h hl eqM.rf M)
            | (rw [rYear_41 (by omega) (by omega) (by omega) (by omega)] at hQ; exact hQ h2 hl2 E2 M2)
        · rw [b2i_n0] at c79
          refine al_0 dX9_happens_82 ?_
          refine il_3 dX9_happens_83 ?_
          refine al_0 dX9_happens_84 ?_
          refine g_X9_7 (337) dX9_happens_85 rfl tt336 (rr9_0 tt336) (by omega) ?_
          refine ic_1 dX9_happens_88 ?_
          refine wp_iaload dX9_happens_89 tt337 (by omega) (by omega) ?_
          rw [m, y1]
          refine wp_iremN dX9_happens_90 (by omega) (by omega) ?_
          refine il_1 dX9_happens_91 ?_
          refine il_2 dX9_happens_92 ?_
          refine wp_iremN dX9_happens_93 (by omega) (by omega) ?_
          refine il_3 dX9_happens_94 ?_
          refine il_2 dX9_happens_95 ?_
          refine wp_iremN dX9_happens_96 (by omega) (by omega) ?_
          refine c_X9_341 dX9_happens_97 rfl tt336 (Nat.le_of_ble_eq_true rfl) (by omega) ?_
          refine wX9_argueNow (wB := wB) (by omega) M hw (by omega) (by omega) (by omega) (by omega) (by omega) (by omega) (fun h2 hl2 E2 M2 b2 => ?_)
          refine pv_i ?_
          refine wp_if_ge 185 dX9_happens_100 rfl (fun c100 => ?_) (fun c100 => ?_)
          · refine wp_vret dX9_happens_185 rfl ?_
            first
              | (rw [rYear_a0 (by omega) (by unfold canArg; omega)] at hQ; exact hQ h hl eqM.rf M)
              | (rw [rYear_a1 (by omega) (by omega) (by omega) c79] at hQ; exact hQ h2 hl2 E2 M2)
              | (rw [rYear_2 (by assumption)] at hQ
                 refine hQ _ hl (eqM.rf.up (by omega)) (M.nx (eqM.rf.up (by omega)) ?_ (V.nw rSnuff_N (rSnuff_V V.2.1 (by omega) (by omega))) (rSnuff_N 2 (by omega)))
                 rw [up_ur, m]; rfl)
              | (rw [rYear_30 VR (by assumption) (by unfold canPr; omega)] at hQ; exact hQ h hl eqM.rf M)
              | (have c : canPr (rDraw R) (R 9 % R 0) (1 + R 9 / 6 % 5) := ⟨c141.1, c141.2.2.2⟩
                 rw [rYear_31 (by assumption) (by omega) c] at hQ
                 have e2 := rPour_N V.2.1 c
                 refine hQ _ hl (eqM.rf.up (by omega)) (M.nx (eqM.rf.up (by omega)) ?_ (V.nw e2 (rPour_V V.2.1 c)) (e2 2 (by omega)))
                 rw [up_ur, m]; rfl)
              | (rw [rYear_40 (by omega) (by omega) (by omega) (by omega)] at hQ; exact hQ h hl eqM.rf M)
              | (rw [rYear_41 (by omega) (by omega) (by omega) (by omega)] at hQ; exact hQ h2 hl2 E2 M2)
          · exact (c100 (loserV_R (by omega) (by omega) (by omega) (by omega)).1).elim
  · refine wp_tsw 104 dX9_happens_16 (by omega) (by omega) (88) (by rw [c16]; rfl) rfl ?_
    refine al_0 dX9_happens_104 ?_
    refine g_X9_7 (337) dX9_happens_105 rfl tt336 (rr9_0 tt336) (by omega) ?_
    refine bi_10 dX9_happens_108 ?_
    refine wp_dup2 dX9_happens_110 rfl rfl ?_
    refine wp_iaload dX9_happens_111 tt337 (by omega) (by omega) ?_
    first | rw [m2] | rw [m1] | rw [m] | rw [sw_s] | skip
    refine ic_1 dX9_happens_112 ?_
    refine il_3 dX9_happens_113 ?_
    refine bi_10 dX9_happens_114 ?_
    refine wp_iremN dX9_happens_116 (by omega) (by omega) ?_
    refine wp_ishl dX9_happens_117 ?_
    refine ic_m1 dX9_happens_118 ?_
    refine wp_ixor dX9_happens_119 ?_
    refine wp_iand dX9_happens_120 ?_
    refine wp_iastore dX9_happens_121 tt337 (by omega) (by omega) ?_
    refine wp_goto 185 dX9_happens_122 rfl ?_
    refine wp_vret dX9_happens_185 rfl ?_
    first
      | (rw [rYear_a0 (by omega) (by unfold canArg; omega)] at hQ; exact hQ h hl eqM.rf M)
      | (rw [rYear_a1 (by omega) (by omega) (by omega) c79] at hQ; exact hQ h2 hl2 E2 M2)
      | (rw [rYear_2 (by assumption)] at hQ
         refine hQ _ hl (eqM.rf.up (by omega)) (M.nx (eqM.rf.up (by omega)) ?_ (V.nw rSnuff_N (rSnuff_V V.2.1 (by omega) (by omega))) (rSnuff_N 2 (by omega)))
         rw [up_ur, m]; rfl)
      | (rw [rYear_30 VR (by assumption) (by unfold canPr; omega)] at hQ; exact hQ h hl eqM.rf M)
      | (have c : canPr (rDraw R) (R 9 % R 0) (1 + R 9 / 6 % 5) := ⟨c141.1, c141.2.2.2⟩
         rw [rYear_31 (by assumption) (by omega) c] at hQ
         have e2 := rPour_N V.2.1 c
         refine hQ _ hl (eqM.rf.up (by omega)) (M.nx (eqM.rf.up (by omega)) ?_ (V.nw e2 (rPour_V V.2.1 c)) (e2 2 (by omega)))
         rw [up_ur, m]; rfl)
      | (rw [rYear_40 (by omega) (by omega) (by omega) (by omega)] at hQ; exact hQ h hl eqM.rf M)
      | (rw [rYear_41 (by omega) (by omega) (by omega) (by omega)] at hQ; exact hQ h2 hl2 E2 M2)
  · refine wp_tsw 125 dX9_happens_16 (by omega) (by omega) (109) (by rw [c16]; rfl) rfl ?_
    refine il_2 dX9_happens_125 ?_
    refine wp_if_le 185 dX9_happens_126 rfl (fun c126 => ?_) (fun c126 => ?_)
    · refine wp_vret dX9_happens_185 rfl ?_
      first
        | (rw [rYear_a0 (by omega) (by unfold canArg; omega)] at hQ; exact hQ h hl eqM.rf M)
        | (rw [rYear_a1 (by omega) (by omega) (by omega) c79] at hQ; exact hQ h2 hl2 E2 M2)
        | (rw [rYear_2 (by assumption)] at hQ
           refine hQ _ hl (eqM.rf.up (by omega)) (M.nx (eqM.rf.up (by omega)) ?_ (V.nw rSnuff_N (rSnuff_V V.2.1 (by omega) (by omega))) (rSnuff_N 2 (by omega)))
           rw [up_ur, m]; rfl)
        | (rw [rYear_30 VR (by assumption) (by unfold canPr; omega)] at hQ; exact hQ h hl eqM.rf M)
        | (have c : canPr (rDraw R) (R 9 % R 0) (1 + R 9 / 6 % 5) := ⟨c141.1, c141.2.2.2⟩
           rw [rYear_31 (by assumption) (by omega) c] at hQ
           have e2 := rPour_N V.2.1 c
           refine hQ _ hl (eqM.rf.up (by omega)) (M.nx (eqM.rf.up (by omega)) ?_ (V.nw e2 (rPour_V V.2.1 c)) (e2 2 (by omega)))
           rw [up_ur, m]; rfl)
        | (rw [rYear_40 (by omega) (by omega) (by omega) (by omega)] at hQ; exact hQ h hl eqM.rf M)
        | (rw [rYear_41 (by omega) (by omega) (by omega) (by omega)] at hQ; exact hQ h2 hl2 E2 M2)
    · have a1 := Int.emod_nonneg (R 9) (show R 0 ≠ 0 by omega)
      have a2 := Int.emod_lt_of_pos (R 9) (show 0 < R 0 by omega)
      have vo := V.oil (R 9 % R 0) (by omega) (by omega)
      refine al_0 dX9_happens_129 ?_
      refine il_1 dX9_happens_130 ?_
      refine il_2 dX9_happens_131 ?_
      refine wp_iremN dX9_happens_132 (by omega) (by omega) ?_
      refine ic_1 dX9_happens_133 ?_
      refine il_3 dX9_happens_134 ?_
      refine ic_5 dX9_happens_135 ?_
      refine wp_iremN dX9_happens_136 (by omega) (by omega) ?_
      refine wp_iadd dX9_happens_137 (r32 (by omega) (by omega)) ?_
      refine c_X9_350 dX9_happens_138 rfl tt336 (Nat.le_of_ble_eq_true rfl) (by omega) ?_
      refine wX9_canPour (by omega) (by rw [m]; omega) (by rw [m]; omega) (by rw [m]; exact V.oil) ?_
      rw [m]
      refine pv_i ?_
      refine wp_if_eq 185 dX9_happens_141 rfl (fun c141 => ?_) (fun c141 => ?_)
      · rw [b2i_0] at c141
        refine wp_vret dX9_happens_185 rfl ?_
        first
          | (rw [rYear_a0 (by omega) (by unfold canArg; omega)] at hQ; exact hQ h hl eqM.rf M)
          | (rw [rYear_a1 (by omega) (by omega) (by omega) c79] at hQ; exact hQ h2 hl2 E2 M2)
          | (rw [rYear_2 (by assumption)] at hQ
             refine hQ _ hl (eqM.rf.up (by omega)) (M.nx (eqM.rf.up (by omega)) ?_ (V.nw rSnuff_N (rSnuff_V V.2.1 (by omega) (by omega))) (rSnuff_N 2 (by omega)))
             rw [up_ur, m]; rfl)
          | (rw [rYear_30 VR (by assumption) (by unfold canPr; omega)] at hQ; exact hQ h hl eqM.rf M)
          | (have c : canPr (rDraw R) (R 9 % R 0) (1 + R 9 / 6 % 5) := ⟨c141.1, c141.2.2.2⟩
             rw [rYear_31 (by assumption) (by omega) c] at hQ
             have e2 := rPour_N V.2.1 c
             refine hQ _ hl (eqM.rf.up (by omega)) (M.nx (eqM.rf.up (by omega)) ?_ (V.nw e2 (rPour_V V.2.1 c)) (e2 2 (by omega)))
             rw [up_ur, m]; rfl)
          | (rw [rYear_40 (by omega) (by omega) (by omega) (by omega)] at hQ; exact hQ h hl eqM.rf M)
          | (rw [rYear_41 (by omega) (by omega) (by omega) (by omega)] at hQ; exact hQ h2 hl2 E2 M2)
      · rw [b2i_n0] at c141
        refine al_0 dX9_happens_144 ?_
        refine g_X9_7 (337) dX9_happens_145 rfl tt336 (rr9_0 tt336) (by omega) ?_
        refine bi_13 dX9_happens_148 ?_
        refine ic_2 dX9_happens_150 ?_
        refine il_1 dX9_happens_151 ?_
        refine il_2 dX9_happens_152 ?_
        refine wp_iremN dX9_happens_153 (by omega) (by omega) ?_
        refine wp_imul dX9_happens_154 (r32 (by omega) (by omega)) ?_
        refine wp_iadd dX9_happens_155 (r32 (by omega) (by omega)) ?_
        refine wp_dup2 dX9_happens_156 rfl rfl ?_
        refine wp_iaload dX9_happens_157 tt337 (by omega) (by omega) ?_
        first | rw [m2] | rw [m1] | rw [m] | rw [sw_s] | skip
        refine ic_1 dX9_happens_158 ?_
        refine il_3 dX9_happens_159 ?_
        refine ic_5 dX9_happens_160 ?_
        refine wp_iremN dX9_happens_161 (by omega) (by omega) ?_
        refine wp_iadd dX9_happens_162 (r32 (by omega) (by omega)) ?_
        refine wp_iadd dX9_happens_163 (r32 (by omega) (by omega)) ?_
        refine wp_iastore dX9_happens_164 tt337 (by omega) (by omega) ?_
        refine wp_goto 185 dX9_happens_165 rfl ?_
        refine wp_vret dX9_happens_185 rfl ?_
        first
          | (rw [rYear_a0 (by omega) (by unfold canArg; omega)] at hQ; exact hQ h hl eqM.rf M)
          | (rw [rYear_a1 (by omega) (by omega) (by omega) c79] at hQ; exact hQ h2 hl2 E2 M2)
          | (rw [rYear_2 (by assumption)] at hQ
             refine hQ _ hl (eqM.rf.up (by omega)) (M.nx (eqM.rf.up (by omega)) ?_ (V.nw rSnuff_N (rSnuff_V V.2.1 (by omega) (by omega))) (rSnuff_N 2 (by omega)))
             rw [up_ur, m]; rfl)
          | (rw [rYear_30 VR (by assumption) (by unfold canPr; omega)] at hQ; exact hQ h hl eqM.rf M)
          | (have c : canPr (rDraw R) (R 9 % R 0) (1 + R 9 / 6 % 5) := ⟨c141.1, c141.2.2.2⟩
             rw [rYear_31 (by assumption) (by omega) c] at hQ
             have e2 := rPour_N V.2.1 c
             refine hQ _ hl (eqM.rf.up (by omega)) (M.nx (eqM.rf.up (by omega)) ?_ (V.nw e2 (rPour_V V.2.1 c)) (e2 2 (by omega)))
             rw [up_ur, m]; rfl)
          | (rw [rYear_40 (by omega) (by omega) (by omega) (by omega)] at hQ; exact hQ h hl eqM.rf M)
          | (rw [rYear_41 (by omega) (by omega) (by omega) (by omega)] at hQ; exact hQ h2 hl2 E2 M2)

theorem wX9_years_43 {G : GT} {δ : Nat} {b : Bool × Bool} {Q : V → Hp → Prop} {L : Laws} {n s : Int} {wB : Bool} (hδ : δ ≤ 1540) (n1 : n ≤ 40) :
    ∀ (m : Nat) (k : Int) (c : V) (h hl : Nat → Int → Int) (R : Int → Int), (n - k).toNat = m → 0 ≤ k → k ≤ n → MT h R L → h 336 23 = (if wB then 1 else 0) →
      (∀ h' hl', eqM h h' → MT h' (rYrs L wB m R) L → Q (vi (rYrs L wB m R 8)) (HS h' hl' b)) → WP G δ 0 0 MX9_years 43 [vr 336, vi s, vi n, vi k, c] [] (HS h hl b) Q := by
  intro m0
  induction m0 with
  | zero =>
    intro k c h hl R hm k0 k1 M hw hQ
    have m := M.1
    refine il_3 dX9_years_43 ?_
    refine il_2 dX9_years_44 ?_
    refine wp_icmp_ge 73 dX9_years_45 rfl (fun c45 => ?_) (fun c45 => ?_)
    · refine al_0 dX9_years_73 ?_
      refine g_X9_7 (337) dX9_years_74 rfl tt336 (rr9_0 tt336) (by omega) ?_
      refine bi_8 dX9_years_77 ?_
      refine wp_iaload dX9_years_79 tt337 (by omega) (by omega) ?_
      first | rw [m2] | rw [m1] | rw [m] | rw [sw_s] | skip
      refine wp_ireti dX9_years_80 rfl ?_
      exact hQ h hl eqM.rf M
    · omega
  | succ m0 ih =>
    intro k c h hl R hm k0 k1 M hw hQ
    have m := M.1
    have V := M.2.1
    have w := V.w
    refine il_3 dX9_years_43 ?_
    refine il_2 dX9_years_44 ?_
    refine wp_icmp_ge 73 dX9_years_45 rfl (fun c45 => ?_) (fun c45 => ?_)
    · omega
    · refine al_0 dX9_years_48 ?_
      refine g_X9_7 (337) dX9_years_49 rfl tt336 (rr9_0 tt336) (by omega) ?_
      refine bi_9 dX9_years_52 ?_
      refine wp_iaload dX9_years_54 tt337 (by omega) (by omega) ?_
      first | rw [m2] | rw [m1] | rw [m] | rw [sw_s] | skip
      refine is_4 dX9_years_55 rfl (by decide) ?_
      refine al_0 dX9_years_57 ?_
      refine c_X9_311 dX9_years_58 rfl tt336 (Nat.le_of_ble_eq_true rfl) (by omega) ?_
      refine wX9_anew (by omega) (by rw [m]; omega) (by rw [m]; omega) ?_
      rw [m]
      obtain ⟨h1, e1⟩ : ∃ h1, h1 = up h 337 9 ((R 9 * 617 + 491) % 30869) := ⟨_, rfl⟩
      rw [← e1]
      have E1 : eqM h h1 := by rw [e1]; exact eqM.rf.up (by omega)
      have M1 := M.draw E1 (by rw [e1, up_ur, m]; rfl)
      refine pv_n ?_
      refine al_0 dX9_years_61 ?_
      refine il_4 dX9_years_62 ?_
      refine c_X9_383 dX9_years_64 rfl tt336 (Nat.le_of_ble_eq_true rfl) (by omega) ?_
      refine wX9_happens (wB := wB) (by omega) V M1 (by rw [E1.2 23 (by decide)]; exact hw) (fun h2 hl2 E2 M2 => ?_)
      refine pv_n ?_
      refine ii_3 dX9_years_67 rfl (by decide) ⟨by decide, by decide⟩ (r32 (by omega) (by omega)) ?_
      refine wp_goto 43 dX9_years_70 rfl ?_
      refine ih (k + 1) _ h2 hl2 _ (by omega) (by omega) (by omega) M2 (by rw [E2.2 23 (by decide), E1.2 23 (by decide)]; exact hw) (fun h3 hl3 E3 M3 => ?_)
      exact hQ h3 hl3 ((E1.tr E2).tr E3) M3

theorem wX9_years {G : GT} {δ : Nat} {h hl : Nat → Int → Int} {b : Bool × Bool} {Q : V → Hp → Prop} {s n : Int} {wB : Bool} {R : Int → Int} {L : Laws} (hδ : δ ≤ 1540) (M : MT h R L) (hw : h 336 23 = if wB then 1 else 0) (hQ : ¬ (0 ≤ s ∧ s ≤ 9999 ∧ 1 ≤ n ∧ n ≤ 40) → Q (vi (-1)) (HS h hl b)) (hQ2 : 0 ≤ s ∧ s ≤ 9999 ∧ 1 ≤ n ∧ n ≤ 40 → ∀ h' hl', eqM h h' → MT h' (rYrs L wB n.toNat (ur (rKeep R) 9 (s * 2 + 367))) L → Q (vi (rYrs L wB n.toNat (ur (rKeep R) 9 (s * 2 + 367)) 8)) (HS h' hl' b)) : WP G δ 0 0 MX9_years 0 [vr (336), vi s, vi n, vn, vn] [] (HS h hl b) Q := by
  have m := M.1
  have V := M.2.1
  have vn' := V.n
  have w := V.w
  refine il_1 dX9_years_0 ?_
  refine ic_0 dX9_years_1 ?_
  refine si_9999 dX9_years_2 ?_
  refine c_X9_69 dX9_years_5 rfl (Nat.le_of_ble_eq_true rfl) (by omega) ?_
  refine wX9_isIn (by omega) ?_
  refine pv_i ?_
  refine wp_if_eq 21 dX9_years_8 rfl (fun c8 => ?_) (fun c8 => ?_)
  · rw [b2i_0] at c8
    refine ic_m1 dX9_years_21 ?_
    refine wp_ireti dX9_years_22 rfl ?_
    exact hQ (by omega)
  · rw [b2i_n0] at c8
    refine il_2 dX9_years_11 ?_
    refine ic_1 dX9_years_12 ?_
    refine bi_40 dX9_years_13 ?_
    refine c_X9_69 dX9_years_15 rfl (Nat.le_of_ble_eq_true rfl) (by omega) ?_
    refine wX9_isIn (by omega) ?_
    refine pv_i ?_
    refine wp_if_ne 23 dX9_years_18 rfl (fun c18 => ?_) (fun c18 => ?_)
    · rw [b2i_n0] at c18
      refine al_0 dX9_years_23 ?_
      refine c_X9_347 dX9_years_24 rfl tt336 (Nat.le_of_ble_eq_true rfl) (by omega) ?_
      refine wX9_keep (by omega) m V (fun h1 E1 r1 => ?_)
      have M1 := M.keep E1 r1
      have m1 := M1.1
      have EM1 : eqM h h1 := eqM.of E1 (by simp)
      have k0 : rKeep R 0 = R 0 := rKeep_o V (by decide) (by decide)
      have k1 : rKeep R 1 = R 1 := rKeep_o V (by decide) (by decide)
      have k8 : rKeep R 8 = R 8 := rKeep_o V (by decide) (by decide)
      have ka : rKeep R 10 = R 10 := rKeep_o V (by decide) (by decide)
      have hw1 : h1 336 23 = if wB then 1 else 0 := by rw [EM1.2 23 (by decide)]; exact hw
      refine pv_n ?_
      refine al_0 dX9_years_27 ?_
      refine g_X9_7 (337) dX9_years_28 rfl tt336 (rr9_0 tt336) (by omega) ?_
      refine bi_9 dX9_years_31 ?_
      refine il_1 dX9_years_33 ?_
      refine ic_2 dX9_years_34 ?_
      refine wp_imul dX9_years_35 (r32 (by omega) (by omega)) ?_
      refine si_367 dX9_years_36 ?_
      refine wp_iadd dX9_years_39 (r32 (by omega) (by omega)) ?_
      refine wp_iastore dX9_years_40 tt337 (by omega) (by omega) ?_
      refine ic_0 dX9_years_41 ?_
      refine is_3 dX9_years_42 rfl (by decide) ?_
      have Ex : nowEq (rKeep R) (ur (rKeep R) 9 (s * 2 + 367)) := nowEq.rf.ur (by omega)
      have M2 : MT (up h1 337 9 (s * 2 + 367)) (ur (rKeep R) 9 (s * 2 + 367)) L := M1.nx (eqM.rf.up (by omega)) (by rw [up_ur, m1]) (M1.2.1.nw Ex (M1.2.1.2.1.xx (by omega) (by omega))) (Ex 2 (by omega))
      refine wX9_years_43 (wB := wB) (by omega) (by omega) n.toNat 0 _ _ hl _ (by omega) (by omega) (by omega) M2 (by rw [up_o (by decide)]; exact hw1) (fun h3 hl3 E3 M3 => ?_)
      exact hQ2 (by omega) h3 hl3 ((EM1.up (by omega)).tr E3) M3
    · rw [b2i_0] at c18
      refine ic_m1 dX9_years_21 ?_
      refine wp_ireti dX9_years_22 rfl ?_
      exact hQ (by omega)
