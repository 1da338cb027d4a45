theorem wX4_takeFrom_40 {G : GT} {δ : Nat} {hl : Nat → Int → Int} {b : Bool × Bool} {Q : V → Hp → Prop} {h0 : Nat → Int → Int} {d W : Nat} {R : Int → Int} {L : Laws} (hδ : δ ≤ 1680) (C0 : CT h0 R L) (d1 : (d : Int) < R 1) (hW : W = 2 ^ d) : ∀ (n : Nat) (s : Nat) (h : Nat → Int → Int), ((W - s)) < n → (s ≤ W) → (eqX [324] h0 h) → (∀ j : Nat, j < W → h 324 j = tuM (fun i => R (29 + i)) j d) → (∀ j : Nat, j < s → h 324 ((W + j : Nat) : Int) = bxor (tuM (fun i => R (29 + i)) j d) (R (29 + (d : Int)))) → (∀ h' : Nat → Int → Int, eqX [324] h0 h' → (∀ j : Nat, j < 2 ^ (d + 1) → h' 324 j = tuM (fun i => R (29 + i)) j (d + 1)) → WP G δ 0 0 MX4_takeFrom 74 [vr 323, vr 9, vi d, vn, vn] [] (HS h' hl b) Q) → WP G δ 0 0 MX4_takeFrom 40 [vr (323), vr (9), vi d, vi W, vi s] [] (HS h hl b) Q := by
  intro n
  induction n with
  | zero => intro s h hlt; exact absurd hlt (Nat.not_lt_zero _)
  | succ n ih =>
    intro s h hlt s1 E A B hQ
    have V := C0.2.1
    have n := V.n
    have p2 := two_R d (by omega)
    have p3 := two_mono d (by omega) 8 (by decide) (by omega)
    refine il_4 dX4_takeFrom_40 ?_
    refine il_3 dX4_takeFrom_42 ?_
    refine wp_icmp_ge 74 dX4_takeFrom_43 rfl (fun c43 => ?_) (fun c43 => ?_)
    · have e : s = W := by omega
      refine wp_fg (ls' := [_, _, _, vn, vn]) ⟨Or.inr rfl, Or.inr rfl, Or.inr rfl, Or.inl rfl, Or.inl rfl, trivial⟩ ?_
      refine hQ h E (fun j hj => ?_)
      have q : (2 ^ (d + 1) : Nat) = 2 ^ d * 2 := Nat.pow_succ _ _
      by_cases z : j < 2 ^ d
      · rw [A j (by omega)]
        exact (tuM_keep z (tuM_R d (fun i i0 i1 => V.di i i0 (by omega)))).symm
      · obtain ⟨k, ek⟩ : ∃ k, j = 2 ^ d + k := ⟨j - 2 ^ d, by omega⟩
        subst ek
        have b' := B k (by omega)
        rw [hW] at b'
        rw [b']
        exact (tuM_more (by omega)).symm
    · refine al_0 dX4_takeFrom_46 ?_
      refine g_X4_9 (324) dX4_takeFrom_47 rfl tt323 (rr4_0 tt323) (by omega) ?_
      refine il_3 dX4_takeFrom_50 ?_
      refine il_4 dX4_takeFrom_51 ?_
      refine wp_iadd dX4_takeFrom_53 (r32 (by omega) (by omega)) ?_
      refine al_0 dX4_takeFrom_54 ?_
      refine g_X4_9 (324) dX4_takeFrom_55 rfl tt323 (rr4_0 tt323) (by omega) ?_
      refine il_4 dX4_takeFrom_58 ?_
      refine wp_iaload dX4_takeFrom_60 tt324 (by omega) (by omega) ?_
      rw [A s (by omega)]
      refine al_1 dX4_takeFrom_61 ?_
      refine il_2 dX4_takeFrom_62 ?_
      refine c_X4_42 dX4_takeFrom_63 rfl tt9 (Nat.le_of_ble_eq_true rfl) (by omega) ?_
      have C : CT h R L := C0.sx (fun o ho => E o (by simp; omega))
      have f := C.1.f
      refine wX6_at (by omega) tt9 tt10 (by decide) (by omega) (by omega) ?_
      rw [C.1.diA (by omega) d1]
      refine pv_i ?_
      refine wp_ixor dX4_takeFrom_66 ?_
      refine wp_iastore dX4_takeFrom_67 tt324 (by omega) (by omega) ?_
      refine ii_4 dX4_takeFrom_68 rfl (by decide) ⟨by decide, by decide⟩ (r32 (by omega) (by omega)) ?_
      refine wp_goto 40 dX4_takeFrom_71 rfl ?_
      refine ih (s + 1) _ (by omega) (by omega) (E.up (by decide)) (fun j hj => ?_) (fun j hj => ?_) hQ
      · rw [up_k (by omega)]; exact A j hj
      · by_cases e : j = s
        · subst e; rw [show ((W + j : Nat) : Int) = (W : Int) + (j : Int) by omega, up_s]
        · rw [up_k (by omega)]; exact B j (by omega)

theorem wX4_takeFrom_25 {G : GT} {δ : Nat} {hl : Nat → Int → Int} {b : Bool × Bool} {Q : V → Hp → Prop} {h0 : Nat → Int → Int} {R : Int → Int} {L : Laws} (hδ : δ ≤ 1680) (C0 : CT h0 R L) (k4 : h0 323 4 = R 1) : ∀ (n : Nat) (d : Nat) (c1 : V) (c2 : V) (h : Nat → Int → Int), (((R 1).toNat - d)) < n → ((d : Int) ≤ R 1) → (eqX [324] h0 h) → (∀ j : Nat, j < 2 ^ d → h 324 j = tuM (fun i => R (29 + i)) j d) → (∀ h' : Nat → Int → Int, eqX [324] h0 h' → (∀ j : Nat, j < 2 ^ (R 1).toNat → h' 324 j = tuM (fun i => R (29 + i)) j (R 1).toNat) → Q vn (HS h' hl b)) → WP G δ 0 0 MX4_takeFrom 25 [vr (323), vr (9), vi d, c1, c2] [] (HS h hl b) Q := by
  intro n
  induction n with
  | zero => intro d c1 c2 h hlt; exact absurd hlt (Nat.not_lt_zero _)
  | succ n ih =>
    intro d c1 c2 h hlt d1 E A hQ
    have V := C0.2.1
    have n := V.n
    have p2 := two_R d (by omega)
    have e4 : h 323 4 = R 1 := by rw [E 323 (by decide)]; exact k4
    refine il_2 dX4_takeFrom_25 ?_
    refine al_0 dX4_takeFrom_26 ?_
    refine g_X4_39 dX4_takeFrom_27 rfl tt323 ?_
    rw [e4]
    refine wp_icmp_ge 80 dX4_takeFrom_30 rfl (fun c30 => ?_) (fun c30 => ?_)
    · have e : (R 1).toNat = d := by omega
      refine wp_vret dX4_takeFrom_80 rfl ?_
      rw [e] at hQ
      exact hQ h E A
    · refine ic_1 dX4_takeFrom_33 ?_
      refine il_2 dX4_takeFrom_34 ?_
      refine wp_ishl dX4_takeFrom_35 ?_
      rw [shl_2 d (by omega)]
      refine is_3 dX4_takeFrom_36 rfl (by decide) ?_
      refine ic_0 dX4_takeFrom_37 ?_
      refine is_4 dX4_takeFrom_38 rfl (by decide) ?_
      refine wX4_takeFrom_40 (W := 2 ^ d) (by omega) (C0.sx (fun o ho => E o (by simp; omega))) (by omega) rfl _ 0 h (Nat.lt_succ_self _) (by omega) eqX.rf A (fun j hj => by omega) (fun h1 E1 A1 => ?_)
      refine ii_2 dX4_takeFrom_74 rfl (by decide) ⟨by decide, by decide⟩ (r32 (by omega) (by omega)) ?_
      refine wp_goto 25 dX4_takeFrom_77 rfl ?_
      exact ih (d + 1) _ _ h1 (by omega) (by omega) (E.tr E1) A1 hQ

theorem wX4_takeFrom {G : GT} {δ : Nat} {h hl : Nat → Int → Int} {b : Bool × Bool} {Q : V → Hp → Prop} {R : Int → Int} {L : Laws} (hδ : δ ≤ 1680) (C : CT h R L) (z0 : h 324 0 = 0) (hQ : ∀ h' : Nat → Int → Int, eqX [323, 324] h h' → SP h' R → Q vn (HS h' hl b)) : WP G δ 0 0 MX4_takeFrom 0 [vr (323), vr (9), vn, vn, vn] [] (HS h hl b) Q := by
  obtain ⟨⟨s0, s3, s4, s1, s2, s5⟩, ⟨t0, t1, t5, t6, t7⟩, ⟨g7, g8, g11, g10, g10x⟩⟩ := C.1.f
  have vn' := C.2.1.n
  have vw := C.2.1.w
  refine al_0 dX4_takeFrom_0 ?_
  refine al_1 dX4_takeFrom_1 ?_
  refine g_X4_28 dX4_takeFrom_2 rfl tt9 ?_
  rw [t1]
  refine bi_8 dX4_takeFrom_5 ?_
  refine c_X4_33 dX4_takeFrom_7 rfl (by simp) (by omega) ?_
  refine p_X4_39 dX4_takeFrom_10 rfl tt323 ?_
  refine al_0 dX4_takeFrom_13 ?_
  refine ic_1 dX4_takeFrom_14 ?_
  refine al_0 dX4_takeFrom_15 ?_
  refine g_X4_39 dX4_takeFrom_16 rfl tt323 ?_
  rw [up_s]
  refine wp_ishl dX4_takeFrom_19 ?_
  refine p_X4_24 dX4_takeFrom_20 rfl tt323 ?_
  refine ic_0 dX4_takeFrom_23 ?_
  refine is_2 dX4_takeFrom_24 rfl (by decide) ?_
  have mn : min (R 1) 8 = R 1 := by omega
  rw [mn]
  obtain ⟨h1, e1⟩ : ∃ h1, h1 = up (up h 323 4 (R 1)) 323 5 (shl 1 (R 1)) := ⟨_, rfl⟩
  rw [← e1]
  have E1 : eqX [323] h h1 := by rw [e1]; exact (eqX.rf.up (by decide)).up (by decide)
  have C1 : CT h1 R L := C.sx (fun o ho => E1 o (by simp; omega))
  have k4 : h1 323 4 = R 1 := by rw [e1, up_k (by decide), up_s]
  refine wX4_takeFrom_25 (by omega) C1 k4 _ 0 _ _ h1 (Nat.lt_succ_self _) (by omega) eqX.rf (fun j hj => ?_) (fun h2 E2 A2 => ?_)
  · have : j = 0 := by simpa using hj
    subst this
    show h1 324 0 = 0
    rw [E1 324 (by decide)]; exact z0
  have ne := nS_e C.2.1
  refine hQ h2 ((E1.mono (by decide)).tr (E2.mono (by decide))) ⟨by rw [E2 323 (by decide)]; exact k4, by rw [E2 323 (by decide), e1, up_s]; rfl, fun s s0 s1 => ?_⟩
  obtain ⟨k, rfl⟩ := Int.eq_ofNat_of_zero_le s0
  exact A2 k (by omega)

theorem wX8_setsNow {G : GT} {δ : Nat} {h hl : Nat → Int → Int} {b : Bool × Bool} {Q : V → Hp → Prop} {R : Int → Int} {L : Laws} (hδ : δ ≤ 1660) (C : CT h R L) (z0 : h 324 0 = 0) (hQ : ∀ h' : Nat → Int → Int, eqS h h' → SP h' R → Q (vr 323) (HS h' hl b)) : WP G δ 0 0 MX8_setsNow 0 [vr (1)] [] (HS h hl b) Q := by
  obtain ⟨⟨s0, s3, s4, s1, s2, s5⟩, ⟨t0, t1, t5, t6, t7⟩, ⟨g7, g8, g11, g10, g10x⟩⟩ := C.1.f
  have vn' := C.2.1.n
  have vw := C.2.1.w
  refine al_0 dX8_setsNow_0 ?_
  refine g_X8_29 (323) dX8_setsNow_1 rfl tt1 (rr8_3 tt1) (by omega) ?_
  refine al_0 dX8_setsNow_4 ?_
  refine g_X8_12 (2) dX8_setsNow_5 rfl tt1 (rr8_0 tt1) (by omega) ?_
  refine g_X8_167 (9) dX8_setsNow_8 rfl tt2 (rr7_2 tt2) (by omega) ?_
  refine c_X8_345 dX8_setsNow_11 rfl tt323 (Nat.le_of_ble_eq_true rfl) (by omega) ?_
  refine wX4_takeFrom (by omega) C z0 (fun h1 E1 Sp => ?_)
  refine pv_n ?_
  refine al_0 dX8_setsNow_14 ?_
  refine g_X8_29 (323) dX8_setsNow_15 rfl tt1 (rr8_3 tt1) (by omega) ?_
  refine wp_aret dX8_setsNow_18 rfl ?_
  exact hQ h1 (fun o ho => E1 o (by simp; omega)) Sp

theorem wX4_isTurnedWithin_2 {G : GT} {δ : Nat} {h hl : Nat → Int → Int} {b : Bool × Bool} {Q : V → Hp → Prop} {a x : Int} {R : Int → Int} (hδ : δ ≤ 1700) (Sp : SP h R) (V : RV R)  : ∀ (n : Nat) (s : Int), ((nS R - s).toNat) < n → (0 ≤ s) → (s ≤ nS R) → (∀ i : Int, 0 ≤ i → i < s → suP R a x i = false) → (Q (vi (b2i (anyN (suP R a x) (nS R).toNat = true))) (HS h hl b)) → WP G δ 0 0 MX4_isTurnedWithin 2 [vr (323), vi a, vi x, vi s] [] (HS h hl b) Q := by
  intro n
  induction n with
  | zero => intro s hlt; exact absurd hlt (Nat.not_lt_zero _)
  | succ n ih =>
    intro s hlt s0 s1 hs hQ
    obtain ⟨k4, k5, k6⟩ := Sp
    have n := V.n
    have nn := nS_e V
    refine il_3 dX4_isTurnedWithin_2 ?_
    refine al_0 dX4_isTurnedWithin_3 ?_
    refine g_X4_24 dX4_isTurnedWithin_4 rfl tt323 ?_
    rw [k5]
    refine wp_icmp_ge 36 dX4_isTurnedWithin_7 rfl (fun c7 => ?_) (fun c7 => ?_)
    · refine ic_0 dX4_isTurnedWithin_36 ?_
      refine wp_iretz dX4_isTurnedWithin_37 rfl (by omega) ?_
      exact qv hQ (b2i_f (by rw [anyN_f (fun i i0 i1 => hs i i0 (by omega))]; decide))
    · refine il_3 dX4_isTurnedWithin_10 ?_
      refine il_1 dX4_isTurnedWithin_11 ?_
      refine ic_m1 dX4_isTurnedWithin_12 ?_
      refine wp_ixor dX4_isTurnedWithin_13 ?_
      refine wp_iand dX4_isTurnedWithin_14 ?_
      refine wp_if_ne 30 dX4_isTurnedWithin_15 rfl (fun c15 => ?_) (fun c15 => ?_)
      · refine ii_3 dX4_isTurnedWithin_30 rfl (by decide) ⟨by decide, by decide⟩ (r32 (by omega) (by omega)) ?_
        refine wp_goto 2 dX4_isTurnedWithin_33 rfl ?_
        refine ih (s + 1) (by omega) (by omega) (by omega) (fun i i0 i1 => ?_) hQ
        by_cases e : i = s
        · subst e; unfold suP; first | (simp [c15, c25]; done) | (simp [c15]; done)
        · exact hs i i0 (by omega)
      · refine al_0 dX4_isTurnedWithin_18 ?_
        refine g_X4_9 (324) dX4_isTurnedWithin_19 rfl tt323 (rr4_0 tt323) (by omega) ?_
        refine il_3 dX4_isTurnedWithin_22 ?_
        refine wp_iaload dX4_isTurnedWithin_23 tt324 (by omega) (by omega) ?_
        rw [k6 s s0 (by omega)]
        refine il_2 dX4_isTurnedWithin_24 ?_
        refine wp_icmp_ne 30 dX4_isTurnedWithin_25 rfl (fun c25 => ?_) (fun c25 => ?_)
        · refine ii_3 dX4_isTurnedWithin_30 rfl (by decide) ⟨by decide, by decide⟩ (r32 (by omega) (by omega)) ?_
          refine wp_goto 2 dX4_isTurnedWithin_33 rfl ?_
          refine ih (s + 1) (by omega) (by omega) (by omega) (fun i i0 i1 => ?_) hQ
          by_cases e : i = s
          · subst e; unfold suP; first | (simp [c15, c25]; done) | (simp [c15]; done)
          · exact hs i i0 (by omega)
        · refine ic_1 dX4_isTurnedWithin_28 ?_
          refine wp_iretz dX4_isTurnedWithin_29 rfl (by omega) ?_
          exact qv hQ (b2i_t (anyN_t s0 (by omega) (by unfold suP; simp [c15, c25])))

theorem wX4_isTurnedWithin {G : GT} {δ : Nat} {h hl : Nat → Int → Int} {b : Bool × Bool} {Q : V → Hp → Prop} {a x : Int} {R : Int → Int} (hδ : δ ≤ 1700) (Sp : SP h R) (V : RV R)  (hQ : Q (vi (b2i (anyN (suP R a x) (nS R).toNat = true))) (HS h hl b)) : WP G δ 0 0 MX4_isTurnedWithin 0 [vr (323), vi a, vi x, vn] [] (HS h hl b) Q := by
  obtain ⟨k4, k5, k6⟩ := Sp
  have n := V.n
  have nn := nS_e V
  refine ic_0 dX4_isTurnedWithin_0 ?_
  refine is_3 dX4_isTurnedWithin_1 rfl (by decide) ?_
  exact wX4_isTurnedWithin_2 (by omega) ⟨k4, k5, k6⟩ V _ 0 (Nat.lt_succ_self _) (by omega) (by omega) (fun i i0 i1 => by omega) hQ

theorem wX4_independent_4 {G : GT} {δ : Nat} {h hl : Nat → Int → Int} {b : Bool × Bool} {Q : V → Hp → Prop}  {R : Int → Int} (hδ : δ ≤ 1680) (Sp : SP h R) (V : RV R)  : ∀ (n : Nat) (t : Int) (d : Int), ((R 1 - d).toNat) < n → (0 ≤ d) → (d ≤ R 1) → (t = basN R d.toNat) → (Q (vi (aBasis R)) (HS h hl b)) → WP G δ 0 0 MX4_independent 4 [vr (323), vi t, vi d] [] (HS h hl b) Q := by
  intro n
  induction n with
  | zero => intro t d hlt; exact absurd hlt (Nat.not_lt_zero _)
  | succ n ih =>
    intro t d hlt d0 d1 ht hQ
    obtain ⟨k4, k5, k6⟩ := Sp
    have n := V.n
    have nn := nS_e V
    refine il_2 dX4_independent_4 ?_
    refine al_0 dX4_independent_5 ?_
    refine g_X4_39 dX4_independent_6 rfl tt323 ?_
    rw [k4]
    refine wp_icmp_ge 40 dX4_independent_9 rfl (fun c9 => ?_) (fun c9 => ?_)
    · have e : d = R 1 := by omega
      subst e
      refine il_1 dX4_independent_40 ?_
      refine wp_ireti dX4_independent_41 rfl ?_
      exact qv hQ ht.symm
    · have t1 := tT_1 V d0 (by omega)
      refine al_0 dX4_independent_12 ?_
      refine il_1 dX4_independent_13 ?_
      refine al_0 dX4_independent_14 ?_
      refine g_X4_9 (324) dX4_independent_15 rfl tt323 (rr4_0 tt323) (by omega) ?_
      refine ic_1 dX4_independent_18 ?_
      refine il_2 dX4_independent_19 ?_
      refine wp_ishl dX4_independent_20 ?_
      refine wp_iaload dX4_independent_21 tt324 (by omega) (by omega) ?_
      rw [k6 _ t1.2.1 t1.2.2, t1.1]
      refine c_X4_46 dX4_independent_22 rfl tt323 (Nat.le_of_ble_eq_true rfl) (by omega) ?_
      refine wX4_isTurnedWithin (by omega) ⟨k4, k5, k6⟩ V ?_
      refine pv_i ?_
      refine wp_if_ne 34 dX4_independent_25 rfl (fun c25 => ?_) (fun c25 => ?_)
      · rw [b2i_n0] at c25
        refine ii_2 dX4_independent_34 rfl (by decide) ⟨by decide, by decide⟩ (r32 (by omega) (by omega)) ?_
        refine wp_goto 4 dX4_independent_37 rfl ?_
        refine ih _ (d + 1) (by omega) (by omega) (by omega) ?_ hQ
        rw [basN_s d0, ← ht]
        first | rw [if_pos c25] | rw [if_neg c25]
      · rw [b2i_0] at c25
        refine il_1 dX4_independent_28 ?_
        refine ic_1 dX4_independent_29 ?_
        refine il_2 dX4_independent_30 ?_
        refine wp_ishl dX4_independent_31 ?_
        refine wp_ior dX4_independent_32 ?_
        refine is_1 dX4_independent_33 rfl (by decide) ?_
        refine ii_2 dX4_independent_34 rfl (by decide) ⟨by decide, by decide⟩ (r32 (by omega) (by omega)) ?_
        refine wp_goto 4 dX4_independent_37 rfl ?_
        refine ih _ (d + 1) (by omega) (by omega) (by omega) ?_ hQ
        rw [basN_s d0, ← ht]
        first | rw [if_pos c25] | rw [if_neg c25]

theorem wX4_independent {G : GT} {δ : Nat} {h hl : Nat → Int → Int} {b : Bool × Bool} {Q : V → Hp → Prop} {R : Int → Int} (hδ : δ ≤ 1680) (Sp : SP h R) (V : RV R)  (hQ : Q (vi (aBasis R)) (HS h hl b)) : WP G δ 0 0 MX4_independent 0 [vr (323), vn, vn] [] (HS h hl b) Q := by
  obtain ⟨k4, k5, k6⟩ := Sp
  have n := V.n
  have nn := nS_e V
  refine ic_0 dX4_independent_0 ?_
  refine is_1 dX4_independent_1 rfl (by decide) ?_
  refine ic_0 dX4_independent_2 ?_
  refine is_2 dX4_independent_3 rfl (by decide) ?_
  exact wX4_independent_4 (by omega) ⟨k4, k5, k6⟩ V _ 0 0 (Nat.lt_succ_self _) (by omega) (by omega) rfl hQ

theorem wX4_isTurnedByOthers {G : GT} {δ : Nat} {h hl : Nat → Int → Int} {b : Bool × Bool} {Q : V → Hp → Prop} {d : Int} {R : Int → Int} (hδ : δ ≤ 1680) (Sp : SP h R) (V : RV R) (d0 : 0 ≤ d) (d1 : d < R 1) (hQ : Q (vi (b2i (anyN (suP R (band (nS R - 1) (bxor (shl 1 d) (-1))) (R (29 + d))) (nS R).toNat = true))) (HS h hl b)) : WP G δ 0 0 MX4_isTurnedByOthers 0 [vr (323), vi d] [] (HS h hl b) Q := by
  obtain ⟨k4, k5, k6⟩ := Sp
  have n := V.n
  have nn := nS_e V
  have t1 := tT_1 V d0 d1
  refine il_1 dX4_isTurnedByOthers_0 ?_
  refine wp_if_lt 12 dX4_isTurnedByOthers_1 rfl (fun c1 => ?_) (fun c1 => ?_)
  · omega
  · refine il_1 dX4_isTurnedByOthers_4 ?_
    refine al_0 dX4_isTurnedByOthers_5 ?_
    refine g_X4_39 dX4_isTurnedByOthers_6 rfl tt323 ?_
    rw [k4]
    refine wp_icmp_lt 14 dX4_isTurnedByOthers_9 rfl (fun c9 => ?_) (fun c9 => ?_)
    · refine al_0 dX4_isTurnedByOthers_14 ?_
      refine al_0 dX4_isTurnedByOthers_15 ?_
      refine g_X4_24 dX4_isTurnedByOthers_16 rfl tt323 ?_
      rw [k5]
      refine ic_1 dX4_isTurnedByOthers_19 ?_
      refine wp_isub dX4_isTurnedByOthers_20 (r32 (by omega) (by omega)) ?_
      refine ic_1 dX4_isTurnedByOthers_21 ?_
      refine il_1 dX4_isTurnedByOthers_22 ?_
      refine wp_ishl dX4_isTurnedByOthers_23 ?_
      refine ic_m1 dX4_isTurnedByOthers_24 ?_
      refine wp_ixor dX4_isTurnedByOthers_25 ?_
      refine wp_iand dX4_isTurnedByOthers_26 ?_
      refine al_0 dX4_isTurnedByOthers_27 ?_
      refine g_X4_9 (324) dX4_isTurnedByOthers_28 rfl tt323 (rr4_0 tt323) (by omega) ?_
      refine ic_1 dX4_isTurnedByOthers_31 ?_
      refine il_1 dX4_isTurnedByOthers_32 ?_
      refine wp_ishl dX4_isTurnedByOthers_33 ?_
      refine wp_iaload dX4_isTurnedByOthers_34 tt324 (by omega) (by omega) ?_
      rw [k6 _ t1.2.1 t1.2.2, t1.1]
      refine c_X4_46 dX4_isTurnedByOthers_35 rfl tt323 (Nat.le_of_ble_eq_true rfl) (by omega) ?_
      refine wX4_isTurnedWithin (by omega) ⟨k4, k5, k6⟩ V ?_
      refine pv_i ?_
      refine wp_iretz dX4_isTurnedByOthers_38 rfl b2i_01 ?_
      exact hQ
    · omega

theorem wX8_basis {G : GT} {δ : Nat} {h hl : Nat → Int → Int} {b : Bool × Bool} {Q : V → Hp → Prop} {R : Int → Int} {L : Laws} (hδ : δ ≤ 1640) (C : CT h R L) (z0 : h 324 0 = 0) (hQ : ∀ h' : Nat → Int → Int, eqS h h' → h' 324 0 = 0 → Q (vi (aBasis R)) (HS h' hl b)) : WP G δ 0 0 MX8_basis 0 [vr (1)] [] (HS h hl b) Q := by
  obtain ⟨⟨s0, s3, s4, s1, s2, s5⟩, ⟨t0, t1, t5, t6, t7⟩, ⟨g7, g8, g11, g10, g10x⟩⟩ := C.1.f
  have vn' := C.2.1.n
  have vw := C.2.1.w
  refine al_0 dX8_basis_0 ?_
  refine c_X8_195 dX8_basis_1 rfl tt1 (Nat.le_of_ble_eq_true rfl) (by omega) ?_
  refine wX8_setsNow (by omega) C z0 (fun h1 E1 Sp1 => ?_)
  have C1 := C.sx E1
  have V := C.2.1
  have q1 : h1 3 1 = R 10 := C1.1.f.1.2.2.2.1
  refine pv_r ?_
  refine c_X8_199 dX8_basis_4 rfl tt323 (Nat.le_of_ble_eq_true rfl) (by omega) ?_
  refine wX4_independent (by omega) Sp1 V ?_
  refine pv_i ?_
  refine wp_ireti dX8_basis_7 rfl ?_
  exact hQ h1 E1 (by rw [Sp1.2.2 0 (by omega) (by have := nS_e V; omega)]; exact tT_0)

theorem wX8_rank {G : GT} {δ : Nat} {h hl : Nat → Int → Int} {b : Bool × Bool} {Q : V → Hp → Prop} {R : Int → Int} {L : Laws} (hδ : δ ≤ 1640) (C : CT h R L) (z0 : h 324 0 = 0) (hQ : ∀ h' : Nat → Int → Int, eqS h h' → h' 324 0 = 0 → Q (vi (pc (aBasis R))) (HS h' hl b)) : WP G δ 0 0 MX8_rank 0 [vr (1)] [] (HS h hl b) Q := by
  obtain ⟨⟨s0, s3, s4, s1, s2, s5⟩, ⟨t0, t1, t5, t6, t7⟩, ⟨g7, g8, g11, g10, g10x⟩⟩ := C.1.f
  have vn' := C.2.1.n
  have vw := C.2.1.w
  refine al_0 dX8_rank_0 ?_
  refine c_X8_195 dX8_rank_1 rfl tt1 (Nat.le_of_ble_eq_true rfl) (by omega) ?_
  refine wX8_setsNow (by omega) C z0 (fun h1 E1 Sp1 => ?_)
  have C1 := C.sx E1
  have V := C.2.1
  have q1 : h1 3 1 = R 10 := C1.1.f.1.2.2.2.1
  refine pv_r ?_
  refine c_X8_199 dX8_rank_4 rfl tt323 (Nat.le_of_ble_eq_true rfl) (by omega) ?_
  refine wX4_independent (by omega) Sp1 V ?_
  refine pv_i ?_
  refine c_X8_202 dX8_rank_7 rfl (Nat.le_of_ble_eq_true rfl) (by omega) ?_
  have br := basis_R V (R 1).toNat (by have := V.n; omega)
  refine wJ6_bitCount (show 0 ≤ aBasis R from br.1) (show aBasis R < 1024 by unfold aBasis; omega) ?_
  refine pv_i ?_
  refine wp_ireti dX8_rank_10 rfl ?_
  exact hQ h1 E1 (by rw [Sp1.2.2 0 (by omega) (by have := nS_e V; omega)]; exact tT_0)

theorem wX8_spare {G : GT} {δ : Nat} {h hl : Nat → Int → Int} {b : Bool × Bool} {Q : V → Hp → Prop} {d : Int} {R : Int → Int} {L : Laws} (hδ : δ ≤ 1640) (C : CT h R L) (z0 : h 324 0 = 0) (hQ : ∀ h' : Nat → Int → Int, eqS h h' → h' 324 0 = 0 → Q (vi (aSpare R d)) (HS h' hl b)) : WP G δ 0 0 MX8_spare 0 [vr (1), vi d] [] (HS h hl b) Q := by
  obtain ⟨⟨s0, s3, s4, s1, s2, s5⟩, ⟨t0, t1, t5, t6, t7⟩, ⟨g7, g8, g11, g10, g10x⟩⟩ := C.1.f
  have vn' := C.2.1.n
  have vw := C.2.1.w
  refine al_0 dX8_spare_0 ?_
  refine g_X8_12 (2) dX8_spare_1 rfl tt1 (rr8_0 tt1) (by omega) ?_
  refine il_1 dX8_spare_4 ?_
  refine c_X8_164 dX8_spare_5 rfl tt2 (Nat.le_of_ble_eq_true rfl) (by omega) ?_
  refine wX7_hasDispute (by omega) ?_
  rw [t1]
  refine pv_i ?_
  refine wp_if_ne 13 dX8_spare_8 rfl (fun c8 => ?_) (fun c8 => ?_)
  · rw [b2i_n0] at c8
    refine al_0 dX8_spare_13 ?_
    refine c_X8_195 dX8_spare_14 rfl tt1 (Nat.le_of_ble_eq_true rfl) (by omega) ?_
    refine wX8_setsNow (by omega) C z0 (fun h1 E1 Sp1 => ?_)
    have C1 := C.sx E1
    have V := C.2.1
    have q1 : h1 3 1 = R 10 := C1.1.f.1.2.2.2.1
    refine pv_r ?_
    refine il_1 dX8_spare_17 ?_
    refine c_X8_234 dX8_spare_18 rfl tt323 (Nat.le_of_ble_eq_true rfl) (by omega) ?_
    refine wX4_isTurnedByOthers (by omega) Sp1 V (by omega) (by omega) ?_
    refine pv_i ?_
    refine wp_if_eq 28 dX8_spare_21 rfl (fun c21 => ?_) (fun c21 => ?_)
    · rw [b2i_0] at c21
      refine ic_0 dX8_spare_28 ?_
      refine wp_ireti dX8_spare_29 rfl ?_
      refine qv (hQ h1 E1 (by rw [Sp1.2.2 0 (by omega) (by have := nS_e V; omega)]; exact tT_0)) ?_
      unfold aSpare
      rw [if_pos (by omega)]
      first | rw [if_pos c21] | rw [if_neg c21]
    · rw [b2i_n0] at c21
      refine ic_1 dX8_spare_24 ?_
      refine wp_goto 29 dX8_spare_25 rfl ?_
      refine wp_ireti dX8_spare_29 rfl ?_
      refine qv (hQ h1 E1 (by rw [Sp1.2.2 0 (by omega) (by have := nS_e V; omega)]; exact tT_0)) ?_
      unfold aSpare
      rw [if_pos (by omega)]
      first | rw [if_pos c21] | rw [if_neg c21]
  · rw [b2i_0] at c8
    refine ic_m1 dX8_spare_11 ?_
    refine wp_ireti dX8_spare_12 rfl ?_
    exact qv (hQ h (fun _ _ => rfl) z0) (by unfold aSpare; rw [if_neg c8])

theorem wX9_sets {G : GT} {δ : Nat} {h hl : Nat → Int → Int} {b : Bool × Bool} {Q : V → Hp → Prop}  (hδ : δ ≤ 1700)  (hQ : Q (vi (shl 1 (h 337 1))) (HS h hl b)) : WP G δ 0 0 MX9_sets 0 [vr (336)] [] (HS h hl b) Q := by
  refine ic_1 dX9_sets_0 ?_
  refine al_0 dX9_sets_1 ?_
  refine g_X9_7 (337) dX9_sets_2 rfl tt336 (rr9_0 tt336) (by omega) ?_
  refine ic_1 dX9_sets_5 ?_
  refine wp_iaload dX9_sets_6 tt337 (by omega) (by omega) ?_
  refine wp_ishl dX9_sets_7 ?_
  refine wp_ireti dX9_sets_8 rfl ?_
  exact hQ

theorem wX9_basis_4 {G : GT} {δ : Nat} {h hl : Nat → Int → Int} {b : Bool × Bool} {Q : V → Hp → Prop}  {R : Int → Int} {L : Laws} (hδ : δ ≤ 1640) (M : MT h R L)  : ∀ (n : Nat) (t : Int) (d : Int), ((R 1 - d).toNat) < n → (0 ≤ d) → (d ≤ R 1) → (t = basN R d.toNat) → (Q (vi (aBasis R)) (HS h hl b)) → WP G δ 0 0 MX9_basis 4 [vr (336), vi t, vi d] [] (HS h hl b) Q := by
  intro n
  induction n with
  | zero => intro t d hlt; exact absurd hlt (Nat.not_lt_zero _)
  | succ n ih =>
    intro t d hlt d0 d1 ht hQ
    have m := M.1
    have V := M.2.1
    have vn' := V.n
    have vw := V.w
    have nn := nS_e V
    have br := basis_R V d.toNat (by omega)
    rw [← ht] at br
    refine il_2 dX9_basis_4 ?_
    refine al_0 dX9_basis_5 ?_
    refine g_X9_7 (337) dX9_basis_6 rfl tt336 (rr9_0 tt336) (by omega) ?_
    refine ic_1 dX9_basis_9 ?_
    refine wp_iaload dX9_basis_10 tt337 (by omega) (by omega) ?_
    first | rw [m2] | rw [m1] | rw [m] | rw [sw_s] | skip
    refine wp_icmp_ge 43 dX9_basis_11 rfl (fun c11 => ?_) (fun c11 => ?_)
    · have e : d = R 1 := by omega
      subst e
      refine il_1 dX9_basis_43 ?_
      refine wp_ireti dX9_basis_44 rfl ?_
      exact qv hQ ht.symm
    · refine al_0 dX9_basis_14 ?_
      refine il_1 dX9_basis_15 ?_
      refine al_0 dX9_basis_16 ?_
      refine g_X9_7 (337) dX9_basis_17 rfl tt336 (rr9_0 tt336) (by omega) ?_
      refine bi_29 dX9_basis_20 ?_
      refine il_2 dX9_basis_22 ?_
      refine wp_iadd dX9_basis_23 (r32 (by omega) (by omega)) ?_
      refine wp_iaload dX9_basis_24 tt337 (by omega) (by omega) ?_
      first | rw [m2] | rw [m1] | rw [m] | rw [sw_s] | skip
      refine c_X9_396 dX9_basis_25 rfl tt336 (Nat.le_of_ble_eq_true rfl) (by omega) ?_
      refine wX9_isTurned (by omega) (by rw [m]; omega) (by rw [m]; omega) (by rw [m]; exact V.di) (by omega) (by omega) ?_
      rw [m]
      rw [show anyN (fun s => band s (bxor (t) (-1)) == 0 && tuM (fun i => R (29 + i)) s (R 1).toNat == R (29 + d)) (t + 1).toNat = anyN (suP R (t) (R (29 + d))) (nS R).toNat from su_eq (by omega) (by omega) (by omega)]
      refine pv_i ?_
      refine wp_if_ne 37 dX9_basis_28 rfl (fun c28 => ?_) (fun c28 => ?_)
      · refine ii_2 dX9_basis_37 rfl (by decide) ⟨by decide, by decide⟩ (r32 (by omega) (by omega)) ?_
        refine wp_goto 4 dX9_basis_40 rfl ?_
        refine ih _ (d + 1) (by omega) (by omega) (by omega) ?_ hQ
        rw [basN_s d0, ← ht]
        by_cases z : anyN (suP R t (R (29 + d))) (nS R).toNat = true
        · rw [if_pos z] at c28; first | exact absurd c28 (by decide) | rw [if_pos z]
        · rw [if_neg z] at c28; first | exact absurd rfl c28 | rw [if_neg z]
      · refine il_1 dX9_basis_31 ?_
        refine ic_1 dX9_basis_32 ?_
        refine il_2 dX9_basis_33 ?_
        refine wp_ishl dX9_basis_34 ?_
        refine wp_ior dX9_basis_35 ?_
        refine is_1 dX9_basis_36 rfl (by decide) ?_
        refine ii_2 dX9_basis_37 rfl (by decide) ⟨by decide, by decide⟩ (r32 (by omega) (by omega)) ?_
        refine wp_goto 4 dX9_basis_40 rfl ?_
        refine ih _ (d + 1) (by omega) (by omega) (by omega) ?_ hQ
        rw [basN_s d0, ← ht]
        by_cases z : anyN (suP R t (R (29 + d))) (nS R).toNat = true
        · rw [if_pos z] at c28; first | exact absurd c28 (by decide) | rw [if_pos z]
        · rw [if_neg z] at c28; first | exact absurd rfl c28 | rw [if_neg z]

theorem wX9_basis {G : GT} {δ : Nat} {h hl : Nat → Int → Int} {b : Bool × Bool} {Q : V → Hp → Prop} {R : Int → Int} {L : Laws} (hδ : δ ≤ 1640) (M : MT h R L)  (hQ : Q (vi (aBasis R)) (HS h hl b)) : WP G δ 0 0 MX9_basis 0 [vr (336), vn, vn] [] (HS h hl b) Q := by
  have m := M.1
  have V := M.2.1
  have vn' := V.n
  have vw := V.w
  refine ic_0 dX9_basis_0 ?_
  refine is_1 dX9_basis_1 rfl (by decide) ?_
  refine ic_0 dX9_basis_2 ?_
  refine is_2 dX9_basis_3 rfl (by decide) ?_
  exact wX9_basis_4 (by omega) M _ 0 0 (Nat.lt_succ_self _) (by omega) (by omega) rfl hQ

theorem wX9_rank {G : GT} {δ : Nat} {h hl : Nat → Int → Int} {b : Bool × Bool} {Q : V → Hp → Prop} {R : Int → Int} {L : Laws} (hδ : δ ≤ 1620) (M : MT h R L)  (hQ : Q (vi (pc (aBasis R))) (HS h hl b)) : WP G δ 0 0 MX9_rank 0 [vr (336)] [] (HS h hl b) Q := by
  have m := M.1
  have V := M.2.1
  have vn' := V.n
  have vw := V.w
  refine al_0 dX9_rank_0 ?_
  refine c_X9_399 dX9_rank_1 rfl tt336 (Nat.le_of_ble_eq_true rfl) (by omega) ?_
  refine wX9_basis (by omega) M ?_
  refine pv_i ?_
  refine c_X9_298 dX9_rank_4 rfl (Nat.le_of_ble_eq_true rfl) (by omega) ?_
  have br := basis_R V (R 1).toNat (by omega)
  refine wX9_bits (by omega) (show 0 ≤ aBasis R from br.1) (show aBasis R < 1024 by unfold aBasis; omega) ?_
  refine pv_i ?_
  refine wp_ireti dX9_rank_7 rfl ?_
  exact hQ

theorem wX9_spare {G : GT} {δ : Nat} {h hl : Nat → Int → Int} {b : Bool × Bool} {Q : V → Hp → Prop} {d : Int} {R : Int → Int} {L : Laws} (hδ : δ ≤ 1640) (M : MT h R L)  (hQ : Q (vi (aSpare R d)) (HS h hl b)) : WP G δ 0 0 MX9_spare 0 [vr (336), vi d] [] (HS h hl b) Q := by
  have m := M.1
  have V := M.2.1
  have vn' := V.n
  have vw := V.w
  refine al_0 dX9_spare_0 ?_
  refine il_1 dX9_spare_1 ?_
  refine c_X9_332 dX9_spare_2 rfl tt336 (Nat.le_of_ble_eq_true rfl) (by omega) ?_
  refine wX9_isDispute (by omega) (by rw [m]; omega) (by rw [m]; omega) ?_
  rw [m]
  refine pv_i ?_
  refine wp_if_ne 12 dX9_spare_5 rfl (fun c5 => ?_) (fun c5 => ?_)
  · rw [b2i_n0] at c5
    refine al_0 dX9_spare_12 ?_
    refine al_0 dX9_spare_13 ?_
    refine c_X9_402 dX9_spare_14 rfl tt336 (Nat.le_of_ble_eq_true rfl) (by omega) ?_
    refine wX9_sets (by omega) ?_
    rw [m, show shl 1 (R 1) = nS R from rfl]
    refine pv_i ?_
    refine ic_1 dX9_spare_17 ?_
    refine wp_isub dX9_spare_18 (by have nn := nS_e V; exact r32 (by omega) (by omega)) ?_
    refine ic_1 dX9_spare_19 ?_
    refine il_1 dX9_spare_20 ?_
    refine wp_ishl dX9_spare_21 ?_
    refine ic_m1 dX9_spare_22 ?_
    refine wp_ixor dX9_spare_23 ?_
    refine wp_iand dX9_spare_24 ?_
    refine al_0 dX9_spare_25 ?_
    refine g_X9_7 (337) dX9_spare_26 rfl tt336 (rr9_0 tt336) (by omega) ?_
    refine bi_29 dX9_spare_29 ?_
    refine il_1 dX9_spare_31 ?_
    refine wp_iadd dX9_spare_32 (r32 (by omega) (by omega)) ?_
    refine wp_iaload dX9_spare_33 tt337 (by omega) (by omega) ?_
    first | rw [m2] | rw [m1] | rw [m] | rw [sw_s] | skip
    refine c_X9_396 dX9_spare_34 rfl tt336 (Nat.le_of_ble_eq_true rfl) (by omega) ?_
    obtain ⟨k1, hk1, e1⟩ := nat_of (n := 9) vn'.2.1.1 (by omega)
    obtain ⟨k2, hk2, e2⟩ := nat_of (n := 8) (a := d) (by omega) (by omega)
    have sr := sp_R k1 hk1 k2 (by omega)
    rw [← e1, ← e2, show shl 1 (R 1) = nS R from rfl] at sr
    have nn := nS_e V
    refine wX9_isTurned (by omega) (by rw [m]; omega) (by rw [m]; omega) (by rw [m]; exact V.di) (by omega) (by omega) ?_
    rw [m]
    rw [show anyN (fun s => band s (bxor (band (nS R - 1) (bxor (shl 1 d) (-1))) (-1)) == 0 && tuM (fun i => R (29 + i)) s (R 1).toNat == R (29 + d)) (band (nS R - 1) (bxor (shl 1 d) (-1)) + 1).toNat = anyN (suP R (band (nS R - 1) (bxor (shl 1 d) (-1))) (R (29 + d))) (nS R).toNat from su_eq (by omega) (by omega) (by omega)]
    refine pv_i ?_
    refine wp_if_eq 44 dX9_spare_37 rfl (fun c37 => ?_) (fun c37 => ?_)
    · refine ic_0 dX9_spare_44 ?_
      refine wp_ireti dX9_spare_45 rfl ?_
      refine qv hQ ?_
      unfold aSpare
      first
        | rw [if_neg (by assumption)]
        | (rw [if_pos (by omega)]
           by_cases z : anyN (suP R (band (nS R - 1) (bxor (shl 1 d) (-1))) (R (29 + d))) (nS R).toNat = true
           · rw [if_pos z] at c37; first | exact absurd c37 (by decide) | rw [if_pos z]
           · rw [if_neg z] at c37; first | exact absurd rfl c37 | rw [if_neg z])
    · refine ic_1 dX9_spare_40 ?_
      refine wp_goto 45 dX9_spare_41 rfl ?_
      refine wp_ireti dX9_spare_45 rfl ?_
      refine qv hQ ?_
      unfold aSpare
      first
        | rw [if_neg (by assumption)]
        | (rw [if_pos (by omega)]
           by_cases z : anyN (suP R (band (nS R - 1) (bxor (shl 1 d) (-1))) (R (29 + d))) (nS R).toNat = true
           · rw [if_pos z] at c37; first | exact absurd c37 (by decide) | rw [if_pos z]
           · rw [if_neg z] at c37; first | exact absurd rfl c37 | rw [if_neg z])
  · rw [b2i_0] at c5
    refine ic_m1 dX9_spare_8 ?_
    refine wp_goto 45 dX9_spare_9 rfl ?_
    refine wp_ireti dX9_spare_45 rfl ?_
    refine qv hQ ?_
    unfold aSpare
    first
      | rw [if_neg (by assumption)]
      | (rw [if_pos (by omega)]
         by_cases z : anyN (suP R (band (nS R - 1) (bxor (shl 1 d) (-1))) (R (29 + d))) (nS R).toNat = true
         · rw [if_pos z] at c37; first | exact absurd c37 (by decide) | rw [if_pos z]
         · rw [if_neg z] at c37; first | exact absurd rfl c37 | rw [if_neg z])
