/-! laws asked of many -/
section MX
variable {h h' : Nat → Int → Int} {R R' : Int → Int} {L : Laws}
theorem CT.mx (C : CT h R L) (E : eqX [19, 20, 21] h h') : CT h' R L := C.nw nowEq.rf (C.1.1.cN E) (E.mono (by decide)) C.2.1.2.1
theorem TPic.saA (P : TPic h 2 R) {k : Int} (k0 : 0 ≤ k) (k1 : k < R 7) : tdA h 15 k = (R (59 + 3 * k) * 4 + R (60 + 3 * k)) * 10 + R (61 + 3 * k) := by
  rw [tdA_i k0 (by rw [P.f.2.1.2.2.2.2]; exact k1)]; exact P.sa k k0 k1
theorem TPic.veA (P : TPic h 2 R) {k : Int} (k0 : 0 ≤ k) (k1 : k < R 6) : tdA h 13 k = R (43 + 2 * k) * 2 + R (44 + 2 * k) := by
  rw [tdA_i k0 (by rw [P.f.2.1.2.2.2.1]; exact k1)]; exact P.ve k k0 k1
theorem TPic.stA (P : TPic h 2 R) {k : Int} (k0 : 0 ≤ k) (k1 : k < R 5) : tdA h 11 k = R (37 + k) := by
  rw [tdA_i k0 (by rw [P.f.2.1.2.2.1]; exact k1)]; exact P.st k k0 k1
end MX
theorem b2i_a1 {A B : Bool} (a : A = true) (c : B = true) : (1 : Int) = b2i ((A && B) = true) := (b2i_t (by rw [a, c]; rfl)).symm
theorem b2i_al {A B : Bool} (a : ¬ A = true) : (0 : Int) = b2i ((A && B) = true) := (b2i_f (fun z => a (by cases A <;> simp_all))).symm
theorem b2i_ar {A B : Bool} (c : B = false) : (0 : Int) = b2i ((A && B) = true) := (b2i_f (fun z => by rw [c, Bool.and_false] at z; cases z)).symm
def soP (L : Laws) (R : Int → Int) (p : Int) : Int → Bool := fun d => decide (fillsV L R (R 3) d p ≤ R (13 + 2 * p))
def whP (L : Laws) (R : Int → Int) (t : Int) : Int → Bool := fun k => decide (fillsV L R t (R (59 + 3 * k)) (R (60 + 3 * k)) = R (61 + 3 * k))
theorem aSolvent_at {L : Laws} {R : Int → Int} : aSolvent L R = setN (fun p => allN (soP L R p) (R 1).toNat) (R 0).toNat := rfl
theorem aWhose_at {L : Laws} {R : Int → Int} : aWhose L R = setN (fun t => allN (whP L R t) (R 7).toNat) (R 2).toNat := rfl

theorem wX7_canFillAny_2 {G : GT} {δ : Nat} {hl : Nat → Int → Int} {b : Bool × Bool} {Q : V → Hp → Prop} {h0 : Nat → Int → Int} {p : Int} {R : Int → Int} {L : Laws} (hδ : δ ≤ 1620) (C0 : CT h0 R L) (p0 : 0 ≤ p) (p1 : p < R 0) : ∀ (n : Nat) (d : Int) (h : Nat → Int → Int), ((R 1 - d).toNat) < n → (0 ≤ d) → (d ≤ R 1) → (allN (soP L R p) d.toNat = true) → (eqX [19, 20, 21] h0 h) → (∀ h', eqX [19, 20, 21] h0 h' → Q (vi (b2i (allN (soP L R p) (R 1).toNat = true))) (HS h' hl b)) → WP G δ 0 0 MX7_canFillAny 2 [vr (2), vi p, vi d] [] (HS h hl b) Q := by
  intro n
  induction n with
  | zero => intro d h hlt; exact absurd hlt (Nat.not_lt_zero _)
  | succ n ih =>
    intro d h hlt e0 e1 ha E hQ
    have C := C0.mx E
    obtain ⟨⟨s0, s3, s4, s1, s2, s5⟩, ⟨t0, t1, t5, t6, t7⟩, ⟨g7, g8, g11, g10, g10x⟩⟩ := C.1.f
    have vn' := C.2.1.n
    have vw := C.2.1.w
    refine il_2 dX7_canFillAny_2 ?_
    refine al_0 dX7_canFillAny_3 ?_
    refine g_X7_27 (9) dX7_canFillAny_4 rfl tt2 (rr7_2 tt2) (by omega) ?_
    refine g_X7_87 dX7_canFillAny_7 rfl tt9 ?_
    rw [t1]
    refine wp_icmp_ge 43 dX7_canFillAny_10 rfl (fun c10 => ?_) (fun c10 => ?_)
    · have e : d = R 1 := by omega
      subst e
      refine ic_1 dX7_canFillAny_43 ?_
      refine wp_iretz dX7_canFillAny_44 rfl (by omega) ?_
      exact qv (hQ _ E) (b2i_t ha)
    · refine al_0 dX7_canFillAny_13 ?_
      refine g_X7_12 (3) dX7_canFillAny_14 rfl tt2 (rr7_0 tt2) (by omega) ?_
      refine g_X7_100 (4) dX7_canFillAny_17 rfl tt3 (rr5_6 tt3) (by omega) ?_
      refine il_1 dX7_canFillAny_20 ?_
      refine wp_iaload dX7_canFillAny_21 tt4 (by omega) (by omega) ?_
      rw [C.1.oil p p0 p1]
      refine al_0 dX7_canFillAny_22 ?_
      refine al_0 dX7_canFillAny_23 ?_
      refine g_X7_45 dX7_canFillAny_24 rfl tt2 ?_
      rw [g8]
      refine il_2 dX7_canFillAny_27 ?_
      refine il_1 dX7_canFillAny_28 ?_
      refine c_X7_155 dX7_canFillAny_29 rfl tt2 (Nat.le_of_ble_eq_true rfl) (by omega) ?_
      refine wX7_fillsBy (by omega) C.1 C.2.1 C.2.2 e0 (by omega) p0 p1 (fun h1 E1 => ?_)
      refine pv_i ?_
      refine wp_icmp_ge 37 dX7_canFillAny_32 rfl (fun c32 => ?_) (fun c32 => ?_)
      · refine ii_2 dX7_canFillAny_37 rfl (by decide) ⟨by decide, by decide⟩ (r32 (by omega) (by omega)) ?_
        refine wp_goto 2 dX7_canFillAny_40 rfl ?_
        exact ih (d + 1) _ (by omega) (by omega) (by omega) (by rw [allN_s e0, ha]; exact decide_eq_true (by omega)) (E.tr E1) hQ
      · refine ic_0 dX7_canFillAny_35 ?_
        refine wp_iretz dX7_canFillAny_36 rfl (by omega) ?_
        exact qv (hQ _ (E.tr E1)) (b2i_f (by rw [allN_f (R 1).toNat d e0 (by omega) (decide_eq_false (by omega))]; decide))

theorem wX7_canFillAny {G : GT} {δ : Nat} {h hl : Nat → Int → Int} {b : Bool × Bool} {Q : V → Hp → Prop} {p : Int} {R : Int → Int} {L : Laws} (hδ : δ ≤ 1620) (C : CT h R L) (p0 : 0 ≤ p) (p1 : p < R 0) (hQ : ∀ h', eqX [19, 20, 21] h h' → Q (vi (b2i (allN (soP L R p) (R 1).toNat = true))) (HS h' hl b)) : WP G δ 0 0 MX7_canFillAny 0 [vr (2), vi p, vn] [] (HS h hl b) Q := by
  refine ic_0 dX7_canFillAny_0 ?_
  refine is_2 dX7_canFillAny_1 rfl (by decide) ?_
  have n := C.2.1.n
  exact wX7_canFillAny_2 (by omega) C p0 p1 _ 0 h (Nat.lt_succ_self _) (by omega) (by omega) rfl eqX.rf hQ

theorem wX8_solvent_4 {G : GT} {δ : Nat} {hl : Nat → Int → Int} {b : Bool × Bool} {Q : V → Hp → Prop} {h0 : Nat → Int → Int} {R : Int → Int} {L : Laws} (hδ : δ ≤ 1600) (C0 : CT h0 R L) : ∀ (n : Nat) (s : Int) (p : Int) (h : Nat → Int → Int), ((R 0 - p).toNat) < n → (0 ≤ p) → (p ≤ R 0) → (s = setN (fun p => allN (soP L R p) (R 1).toNat) p.toNat) → (eqX [19, 20, 21] h0 h) → (∀ h', eqX [19, 20, 21] h0 h' → Q (vi (aSolvent L R)) (HS h' hl b)) → WP G δ 0 0 MX8_solvent 4 [vr (1), vi s, vi p] [] (HS h hl b) Q := by
  intro n
  induction n with
  | zero => intro s p h hlt; exact absurd hlt (Nat.not_lt_zero _)
  | succ n ih =>
    intro s p h hlt p0 p1 hs E hQ
    have C := C0.mx E
    obtain ⟨⟨s0, s3, s4, s1, s2, s5⟩, ⟨t0, t1, t5, t6, t7⟩, ⟨g7, g8, g11, g10, g10x⟩⟩ := C.1.f
    have vn' := C.2.1.n
    have vw := C.2.1.w
    refine il_2 dX8_solvent_4 ?_
    refine al_0 dX8_solvent_5 ?_
    refine g_X8_12 (2) dX8_solvent_6 rfl tt1 (rr8_0 tt1) (by omega) ?_
    refine g_X8_112 (3) dX8_solvent_9 rfl tt2 (rr7_0 tt2) (by omega) ?_
    refine g_X8_330 dX8_solvent_12 rfl tt3 ?_
    rw [s0]
    refine wp_icmp_ge 41 dX8_solvent_15 rfl (fun c15 => ?_) (fun c15 => ?_)
    · have e : p = R 0 := by omega
      subst e
      refine il_1 dX8_solvent_41 ?_
      refine wp_ireti dX8_solvent_42 rfl ?_
      exact qv (hQ _ E) (by rw [aSolvent_at]; exact hs.symm)
    · refine al_0 dX8_solvent_18 ?_
      refine g_X8_12 (2) dX8_solvent_19 rfl tt1 (rr8_0 tt1) (by omega) ?_
      refine il_2 dX8_solvent_22 ?_
      refine c_X8_333 dX8_solvent_23 rfl tt2 (Nat.le_of_ble_eq_true rfl) (by omega) ?_
      refine wX7_canFillAny (by omega) C p0 (by omega) (fun h1 E1 => ?_)
      refine pv_i ?_
      refine wp_if_eq 35 dX8_solvent_26 rfl (fun c26 => ?_) (fun c26 => ?_)
      · rw [b2i_0] at c26
        refine ii_2 dX8_solvent_35 rfl (by decide) ⟨by decide, by decide⟩ (r32 (by omega) (by omega)) ?_
        refine wp_goto 4 dX8_solvent_38 rfl ?_
        refine ih _ (p + 1) _ (by omega) (by omega) (by omega) ?_ (E.tr E1) hQ
        rw [setN_s p0, ← hs]
        first | rw [if_pos (by assumption)] | rw [if_neg (by assumption)]
      · rw [b2i_n0] at c26
        refine il_1 dX8_solvent_29 ?_
        refine ic_1 dX8_solvent_30 ?_
        refine il_2 dX8_solvent_31 ?_
        refine wp_ishl dX8_solvent_32 ?_
        refine wp_ior dX8_solvent_33 ?_
        refine is_1 dX8_solvent_34 rfl (by decide) ?_
        refine ii_2 dX8_solvent_35 rfl (by decide) ⟨by decide, by decide⟩ (r32 (by omega) (by omega)) ?_
        refine wp_goto 4 dX8_solvent_38 rfl ?_
        refine ih _ (p + 1) _ (by omega) (by omega) (by omega) ?_ (E.tr E1) hQ
        rw [setN_s p0, ← hs]
        first | rw [if_pos (by assumption)] | rw [if_neg (by assumption)]

theorem wX8_solvent {G : GT} {δ : Nat} {h hl : Nat → Int → Int} {b : Bool × Bool} {Q : V → Hp → Prop} {R : Int → Int} {L : Laws} (hδ : δ ≤ 1600) (C : CT h R L)  (hQ : ∀ h', eqX [19, 20, 21] h h' → Q (vi (aSolvent L R)) (HS h' hl b)) : WP G δ 0 0 MX8_solvent 0 [vr (1), vn, vn] [] (HS h hl b) Q := by
  obtain ⟨⟨s0, s3, s4, s1, s2, s5⟩, ⟨t0, t1, t5, t6, t7⟩, ⟨g7, g8, g11, g10, g10x⟩⟩ := C.1.f
  have vn' := C.2.1.n
  have vw := C.2.1.w
  refine ic_0 dX8_solvent_0 ?_
  refine is_1 dX8_solvent_1 rfl (by decide) ?_
  refine ic_0 dX8_solvent_2 ?_
  refine is_2 dX8_solvent_3 rfl (by decide) ?_
  exact wX8_solvent_4 (by omega) C _ 0 0 h (Nat.lt_succ_self _) (by omega) (by omega) rfl eqX.rf hQ

theorem wX9_solvent_19 {G : GT} {δ : Nat} {b : Bool × Bool} {Q : V → Hp → Prop} {h0 : Nat → Int → Int} {s p : Int} {R : Int → Int} {L : Laws} (hδ : δ ≤ 1600) (M0 : MT h0 R L) (p0 : 0 ≤ p) (p1 : p < R 0) : ∀ (n : Nat) (a : Int) (d : Int) (h : Nat → Int → Int) (hl : Nat → Int → Int), ((R 1 - d).toNat) < n → (0 ≤ d) → (d ≤ R 1) → (a = b2i (allN (soP L R p) d.toNat = true)) → (eqX [342, 344] h0 h) → (∀ h' hl', eqX [342, 344] h0 h' → WP G δ 0 0 MX9_solvent 67 [vr 336, vi s, vi p, vi (b2i (allN (soP L R p) (R 1).toNat = true)), vn] [] (HS h' hl' b) Q) → WP G δ 0 0 MX9_solvent 19 [vr (336), vi s, vi p, vi a, vi d] [] (HS h hl b) Q := by
  intro n
  induction n with
  | zero => intro a d h hl hlt; exact absurd hlt (Nat.not_lt_zero _)
  | succ n ih =>
    intro a d h hl hlt e0 e1 ha E hQ
    have M := M0.x E (by decide) (by decide)
    have m := M.1
    have V := M.2.1
    have vn' := V.n
    have vw := V.w
    refine il_4 dX9_solvent_19 ?_
    refine al_0 dX9_solvent_21 ?_
    refine g_X9_7 (337) dX9_solvent_22 rfl tt336 (rr9_0 tt336) (by omega) ?_
    refine ic_1 dX9_solvent_25 ?_
    refine wp_iaload dX9_solvent_26 tt337 (by omega) (by omega) ?_
    first | rw [m2] | rw [m1] | rw [m] | rw [sw_s] | skip
    refine wp_icmp_ge 67 dX9_solvent_27 rfl (fun c27 => ?_) (fun c27 => ?_)
    · have e : d = R 1 := by omega
      subst e
      refine wp_fg (ls' := [_, _, _, _, vn]) ⟨Or.inr rfl, Or.inr rfl, Or.inr rfl, Or.inr rfl, Or.inl rfl, trivial⟩ ?_
      rw [ha]
      exact hQ _ _ E
    · refine il_3 dX9_solvent_30 ?_
      refine wp_if_eq 59 dX9_solvent_31 rfl (fun c31 => ?_) (fun c31 => ?_)
      · refine ic_0 dX9_solvent_59 ?_
        refine is_3 dX9_solvent_60 rfl (by decide) ?_
        refine ii_4 dX9_solvent_61 rfl (by decide) ⟨by decide, by decide⟩ (r32 (by omega) (by omega)) ?_
        refine wp_goto 19 dX9_solvent_64 rfl ?_
        first
          | exact ih _ (d + 1) _ _ (by omega) (by omega) (by omega) (by rw [allN_s e0]; exact b2i_a1 (b2i_n0.mp (by rw [← ha]; exact c31)) (decide_eq_true (by omega))) (E.tr E1) hQ
          | exact ih _ (d + 1) _ _ (by omega) (by omega) (by omega) (by rw [allN_s e0]; exact b2i_ar (decide_eq_false (by omega))) (E.tr E1) hQ
          | exact ih _ (d + 1) _ _ (by omega) (by omega) (by omega) (by rw [allN_s e0]; exact b2i_al (b2i_0.mp (by rw [← ha]; exact c31))) E hQ
      · refine al_0 dX9_solvent_34 ?_
        refine il_2 dX9_solvent_35 ?_
        refine c_X9_73 dX9_solvent_36 rfl tt336 (Nat.le_of_ble_eq_true rfl) (by omega) ?_
        refine wX9_oilOf (by omega) (by omega) (by omega) ?_
        rw [m]
        refine pv_i ?_
        refine al_0 dX9_solvent_39 ?_
        refine al_0 dX9_solvent_40 ?_
        refine g_X9_7 (337) dX9_solvent_41 rfl tt336 (rr9_0 tt336) (by omega) ?_
        refine ic_3 dX9_solvent_44 ?_
        refine wp_iaload dX9_solvent_45 tt337 (by omega) (by omega) ?_
        first | rw [m2] | rw [m1] | rw [m] | rw [sw_s] | skip
        refine il_4 dX9_solvent_46 ?_
        refine il_2 dX9_solvent_48 ?_
        refine c_X9_323 dX9_solvent_49 rfl tt336 (Nat.le_of_ble_eq_true rfl) (by omega) ?_
        refine wX9_fillsOf (by omega) M (by omega) (by omega) e0 (by omega) p0 p1 (fun h1 hl1 E1 => ?_)
        refine pv_i ?_
        refine wp_icmp_lt 59 dX9_solvent_52 rfl (fun c52 => ?_) (fun c52 => ?_)
        · refine ic_0 dX9_solvent_59 ?_
          refine is_3 dX9_solvent_60 rfl (by decide) ?_
          refine ii_4 dX9_solvent_61 rfl (by decide) ⟨by decide, by decide⟩ (r32 (by omega) (by omega)) ?_
          refine wp_goto 19 dX9_solvent_64 rfl ?_
          first
            | exact ih _ (d + 1) _ _ (by omega) (by omega) (by omega) (by rw [allN_s e0]; exact b2i_a1 (b2i_n0.mp (by rw [← ha]; exact c31)) (decide_eq_true (by omega))) (E.tr E1) hQ
            | exact ih _ (d + 1) _ _ (by omega) (by omega) (by omega) (by rw [allN_s e0]; exact b2i_ar (decide_eq_false (by omega))) (E.tr E1) hQ
            | exact ih _ (d + 1) _ _ (by omega) (by omega) (by omega) (by rw [allN_s e0]; exact b2i_al (b2i_0.mp (by rw [← ha]; exact c31))) E hQ
        · refine ic_1 dX9_solvent_55 ?_
          refine wp_goto 60 dX9_solvent_56 rfl ?_
          refine is_3 dX9_solvent_60 rfl (by decide) ?_
          refine ii_4 dX9_solvent_61 rfl (by decide) ⟨by decide, by decide⟩ (r32 (by omega) (by omega)) ?_
          refine wp_goto 19 dX9_solvent_64 rfl ?_
          first
            | exact ih _ (d + 1) _ _ (by omega) (by omega) (by omega) (by rw [allN_s e0]; exact b2i_a1 (b2i_n0.mp (by rw [← ha]; exact c31)) (decide_eq_true (by omega))) (E.tr E1) hQ
            | exact ih _ (d + 1) _ _ (by omega) (by omega) (by omega) (by rw [allN_s e0]; exact b2i_ar (decide_eq_false (by omega))) (E.tr E1) hQ
            | exact ih _ (d + 1) _ _ (by omega) (by omega) (by omega) (by rw [allN_s e0]; exact b2i_al (b2i_0.mp (by rw [← ha]; exact c31))) E hQ

theorem wX9_solvent_4 {G : GT} {δ : Nat} {b : Bool × Bool} {Q : V → Hp → Prop} {h0 : Nat → Int → Int} {R : Int → Int} {L : Laws} (hδ : δ ≤ 1600) (M0 : MT h0 R L) : ∀ (n : Nat) (s : Int) (p : Int) (c3 : V) (c4 : V) (h : Nat → Int → Int) (hl : Nat → Int → Int), ((R 0 - p).toNat) < n → (0 ≤ p) → (p ≤ R 0) → (s = setN (fun p => allN (soP L R p) (R 1).toNat) p.toNat) → (eqX [342, 344] h0 h) → (∀ h' hl', eqX [342, 344] h0 h' → Q (vi (aSolvent L R)) (HS h' hl' b)) → WP G δ 0 0 MX9_solvent 4 [vr (336), vi s, vi p, c3, c4] [] (HS h hl b) Q := by
  intro n
  induction n with
  | zero => intro s p c3 c4 h hl hlt; exact absurd hlt (Nat.not_lt_zero _)
  | succ n ih =>
    intro s p c3 c4 h hl hlt p0 p1 hs E hQ
    have M := M0.x E (by decide) (by decide)
    have m := M.1
    have V := M.2.1
    have vn' := V.n
    have vw := V.w
    have d0 : 0 ≤ R 1 := by omega
    refine il_2 dX9_solvent_4 ?_
    refine al_0 dX9_solvent_5 ?_
    refine g_X9_7 (337) dX9_solvent_6 rfl tt336 (rr9_0 tt336) (by omega) ?_
    refine ic_0 dX9_solvent_9 ?_
    refine wp_iaload dX9_solvent_10 tt337 (by omega) (by omega) ?_
    first | rw [m2] | rw [m1] | rw [m] | rw [sw_s] | skip
    refine wp_icmp_ge 87 dX9_solvent_11 rfl (fun c11 => ?_) (fun c11 => ?_)
    · have e : p = R 0 := by omega
      subst e
      refine il_1 dX9_solvent_87 ?_
      refine wp_ireti dX9_solvent_88 rfl ?_
      exact qv (hQ _ _ E) (by rw [aSolvent_at]; exact hs.symm)
    · refine ic_1 dX9_solvent_14 ?_
      refine is_3 dX9_solvent_15 rfl (by decide) ?_
      refine ic_0 dX9_solvent_16 ?_
      refine is_4 dX9_solvent_17 rfl (by decide) ?_
      refine wX9_solvent_19 (by omega) M p0 (by omega) _ 1 0 _ _ (Nat.lt_succ_self _) (by omega) (by omega) (b2i_t rfl).symm eqX.rf (fun h1 hl1 E1 => ?_)
      refine il_1 dX9_solvent_67 ?_
      refine il_3 dX9_solvent_68 ?_
      refine wp_if_eq 78 dX9_solvent_69 rfl (fun c69 => ?_) (fun c69 => ?_)
      · rw [b2i_0] at c69
        refine ic_0 dX9_solvent_78 ?_
        refine wp_ior dX9_solvent_79 ?_
        refine is_1 dX9_solvent_80 rfl (by decide) ?_
        refine ii_2 dX9_solvent_81 rfl (by decide) ⟨by decide, by decide⟩ (r32 (by omega) (by omega)) ?_
        refine wp_goto 4 dX9_solvent_84 rfl ?_
        have sr := setN_R (P := fun p => allN (soP L R p) (R 1).toNat) p.toNat (by omega)
        obtain ⟨pi, hpi, epi⟩ := nat_of (n := 8) (a := p) (by omega) (by omega)
        have s1' := shl1 pi hpi
        rw [← epi] at s1'
        refine ih _ (p + 1) _ _ _ _ (by omega) (by omega) (by omega) ?_ (E.tr E1) hQ
        rw [setN_s p0, ← hs]
        first
          | rw [if_pos (by assumption)]
          | (rw [if_neg (by assumption)]; exact bor_z (by omega) (by omega))
      · rw [b2i_n0] at c69
        refine ic_1 dX9_solvent_72 ?_
        refine il_2 dX9_solvent_73 ?_
        refine wp_ishl dX9_solvent_74 ?_
        refine wp_goto 79 dX9_solvent_75 rfl ?_
        refine wp_ior dX9_solvent_79 ?_
        refine is_1 dX9_solvent_80 rfl (by decide) ?_
        refine ii_2 dX9_solvent_81 rfl (by decide) ⟨by decide, by decide⟩ (r32 (by omega) (by omega)) ?_
        refine wp_goto 4 dX9_solvent_84 rfl ?_
        have sr := setN_R (P := fun p => allN (soP L R p) (R 1).toNat) p.toNat (by omega)
        obtain ⟨pi, hpi, epi⟩ := nat_of (n := 8) (a := p) (by omega) (by omega)
        have s1' := shl1 pi hpi
        rw [← epi] at s1'
        refine ih _ (p + 1) _ _ _ _ (by omega) (by omega) (by omega) ?_ (E.tr E1) hQ
        rw [setN_s p0, ← hs]
        first
          | rw [if_pos (by assumption)]
          | (rw [if_neg (by assumption)]; exact bor_z (by omega) (by omega))

theorem wX9_solvent {G : GT} {δ : Nat} {h hl : Nat → Int → Int} {b : Bool × Bool} {Q : V → Hp → Prop} {R : Int → Int} {L : Laws} (hδ : δ ≤ 1600) (M : MT h R L)  (hQ : ∀ h' hl', eqX [342, 344] h h' → Q (vi (aSolvent L R)) (HS h' hl' b)) : WP G δ 0 0 MX9_solvent 0 [vr (336), vn, vn, vn, vn] [] (HS h hl b) Q := by
  have m := M.1
  have V := M.2.1
  have vn' := V.n
  have vw := V.w
  refine ic_0 dX9_solvent_0 ?_
  refine is_1 dX9_solvent_1 rfl (by decide) ?_
  refine ic_0 dX9_solvent_2 ?_
  refine is_2 dX9_solvent_3 rfl (by decide) ?_
  exact wX9_solvent_4 (by omega) M _ 0 0 _ _ h hl (Nat.lt_succ_self _) (by omega) (by omega) rfl eqX.rf hQ

theorem wX7_agrees_2 {G : GT} {δ : Nat} {hl : Nat → Int → Int} {b : Bool × Bool} {Q : V → Hp → Prop} {h0 : Nat → Int → Int} {t : Int} {R : Int → Int} {L : Laws} (hδ : δ ≤ 1620) (C0 : CT h0 R L) (t0 : 0 ≤ t) (t1 : t < R 2) : ∀ (n : Nat) (k : Int) (c3 : V) (c4 : V) (h : Nat → Int → Int), ((R 7 - k).toNat) < n → (0 ≤ k) → (k ≤ R 7) → (allN (whP L R t) k.toNat = true) → (eqX [19, 20, 21] h0 h) → (∀ h', eqX [19, 20, 21] h0 h' → Q (vi (b2i (allN (whP L R t) (R 7).toNat = true))) (HS h' hl b)) → WP G δ 0 0 MX7_agrees 2 [vr (2), vi t, vi k, c3, c4] [] (HS h hl b) Q := by
  intro n
  induction n with
  | zero => intro k c3 c4 h hlt; exact absurd hlt (Nat.not_lt_zero _)
  | succ n ih =>
    intro k c3 c4 h hlt e0 e1 ha E hQ
    have C := C0.mx E
    obtain ⟨⟨s0, s3, s4, s1, s2, s5⟩, ⟨t0, t1, t5, t6, t7⟩, ⟨g7, g8, g11, g10, g10x⟩⟩ := C.1.f
    have vn' := C.2.1.n
    have vw := C.2.1.w
    refine il_2 dX7_agrees_2 ?_
    refine al_0 dX7_agrees_3 ?_
    refine g_X7_36 (15) dX7_agrees_4 rfl tt2 (rr7_5 tt2) (by omega) ?_
    refine g_X7_87 dX7_agrees_7 rfl tt15 ?_
    rw [t7]
    refine wp_icmp_ge 56 dX7_agrees_10 rfl (fun c10 => ?_) (fun c10 => ?_)
    · have e : k = R 7 := by omega
      subst e
      refine ic_1 dX7_agrees_56 ?_
      refine wp_iretz dX7_agrees_57 rfl (by omega) ?_
      exact qv (hQ _ E) (b2i_t ha)
    · refine al_0 dX7_agrees_13 ?_
      refine g_X7_36 (15) dX7_agrees_14 rfl tt2 (rr7_5 tt2) (by omega) ?_
      refine il_2 dX7_agrees_17 ?_
      refine c_X7_116 dX7_agrees_18 rfl tt15 (Nat.le_of_ble_eq_true rfl) (by omega) ?_
      refine wX6_at (by omega) tt15 tt16 (by decide) (by omega) (by omega) ?_
      rw [C.1.saA e0 (by omega)]
      have sa := C.2.1.sa k e0 (by omega)
      refine pv_i ?_
      refine is_3 dX7_agrees_21 rfl (by decide) ?_
      refine il_3 dX7_agrees_22 ?_
      refine bi_10 dX7_agrees_23 ?_
      refine wp_idivN dX7_agrees_25 (by omega) (by omega) ?_
      rw [show ((R (59 + 3 * k) * 4 + R (60 + 3 * k)) * 10 + R (61 + 3 * k)) / 10 = R (59 + 3 * k) * 4 + R (60 + 3 * k) by omega]
      refine is_4 dX7_agrees_26 rfl (by decide) ?_
      refine al_0 dX7_agrees_28 ?_
      refine il_1 dX7_agrees_29 ?_
      refine il_4 dX7_agrees_30 ?_
      refine ic_4 dX7_agrees_32 ?_
      refine wp_idivN dX7_agrees_33 (by omega) (by omega) ?_
      rw [show (R (59 + 3 * k) * 4 + R (60 + 3 * k)) / 4 = R (59 + 3 * k) by omega]
      refine il_4 dX7_agrees_34 ?_
      refine ic_4 dX7_agrees_36 ?_
      refine wp_iremN dX7_agrees_37 (by omega) (by omega) ?_
      rw [show (R (59 + 3 * k) * 4 + R (60 + 3 * k)) % 4 = R (60 + 3 * k) by omega]
      refine c_X7_155 dX7_agrees_38 rfl tt2 (Nat.le_of_ble_eq_true rfl) (by omega) ?_
      refine wX7_fillsBy (by omega) C.1 C.2.1 C.2.2 (by omega) (by omega) (by omega) (by omega) (fun h1 E1 => ?_)
      refine pv_i ?_
      refine il_3 dX7_agrees_41 ?_
      refine bi_10 dX7_agrees_42 ?_
      refine wp_iremN dX7_agrees_44 (by omega) (by omega) ?_
      rw [show ((R (59 + 3 * k) * 4 + R (60 + 3 * k)) * 10 + R (61 + 3 * k)) % 10 = R (61 + 3 * k) by omega]
      refine wp_icmp_eq 50 dX7_agrees_45 rfl (fun c45 => ?_) (fun c45 => ?_)
      · refine ii_2 dX7_agrees_50 rfl (by decide) ⟨by decide, by decide⟩ (r32 (by omega) (by omega)) ?_
        refine wp_goto 2 dX7_agrees_53 rfl ?_
        refine wp_fg (ls' := [_, _, _, vn, vn]) ⟨Or.inr rfl, Or.inr rfl, Or.inr rfl, Or.inl rfl, Or.inl rfl, trivial⟩ ?_
        exact ih (k + 1) _ _ _ (by omega) (by omega) (by omega) (by rw [allN_s e0, ha]; exact decide_eq_true (by assumption)) (E.tr E1) hQ
      · refine ic_0 dX7_agrees_48 ?_
        refine wp_iretz dX7_agrees_49 rfl (by omega) ?_
        exact qv (hQ _ (E.tr E1)) (b2i_f (by rw [allN_f (R 7).toNat k e0 (by omega) (decide_eq_false (by assumption))]; decide))

theorem wX7_agrees {G : GT} {δ : Nat} {h hl : Nat → Int → Int} {b : Bool × Bool} {Q : V → Hp → Prop} {t : Int} {R : Int → Int} {L : Laws} (hδ : δ ≤ 1620) (C : CT h R L) (t0 : 0 ≤ t) (t1 : t < R 2) (hQ : ∀ h', eqX [19, 20, 21] h h' → Q (vi (b2i (allN (whP L R t) (R 7).toNat = true))) (HS h' hl b)) : WP G δ 0 0 MX7_agrees 0 [vr (2), vi t, vn, vn, vn] [] (HS h hl b) Q := by
  refine ic_0 dX7_agrees_0 ?_
  refine is_2 dX7_agrees_1 rfl (by decide) ?_
  have n := C.2.1.n
  exact wX7_agrees_2 (by omega) C t0 t1 _ 0 _ _ h (Nat.lt_succ_self _) (by omega) (by omega) rfl eqX.rf hQ

theorem wX8_whose_4 {G : GT} {δ : Nat} {hl : Nat → Int → Int} {b : Bool × Bool} {Q : V → Hp → Prop} {h0 : Nat → Int → Int} {R : Int → Int} {L : Laws} (hδ : δ ≤ 1600) (C0 : CT h0 R L) : ∀ (n : Nat) (s : Int) (p : Int) (h : Nat → Int → Int), ((R 2 - p).toNat) < n → (0 ≤ p) → (p ≤ R 2) → (s = setN (fun p => allN (whP L R p) (R 7).toNat) p.toNat) → (eqX [19, 20, 21] h0 h) → (∀ h', eqX [19, 20, 21] h0 h' → Q (vi (aWhose L R)) (HS h' hl b)) → WP G δ 0 0 MX8_whose 4 [vr (1), vi s, vi p] [] (HS h hl b) Q := by
  intro n
  induction n with
  | zero => intro s p h hlt; exact absurd hlt (Nat.not_lt_zero _)
  | succ n ih =>
    intro s p h hlt p0 p1 hs E hQ
    have C := C0.mx E
    obtain ⟨⟨s0, s3, s4, s1, s2, s5⟩, ⟨t0, t1, t5, t6, t7⟩, ⟨g7, g8, g11, g10, g10x⟩⟩ := C.1.f
    have vn' := C.2.1.n
    have vw := C.2.1.w
    refine il_2 dX8_whose_4 ?_
    refine al_0 dX8_whose_5 ?_
    refine g_X8_12 (2) dX8_whose_6 rfl tt1 (rr8_0 tt1) (by omega) ?_
    refine g_X8_63 dX8_whose_9 rfl tt2 ?_
    rw [g7]
    refine wp_icmp_ge 38 dX8_whose_12 rfl (fun c12 => ?_) (fun c12 => ?_)
    · have e : p = R 2 := by omega
      subst e
      refine il_1 dX8_whose_38 ?_
      refine wp_ireti dX8_whose_39 rfl ?_
      exact qv (hQ _ E) (by rw [aWhose_at]; exact hs.symm)
    · refine al_0 dX8_whose_15 ?_
      refine g_X8_12 (2) dX8_whose_16 rfl tt1 (rr8_0 tt1) (by omega) ?_
      refine il_2 dX8_whose_19 ?_
      refine c_X8_327 dX8_whose_20 rfl tt2 (Nat.le_of_ble_eq_true rfl) (by omega) ?_
      refine wX7_agrees (by omega) C p0 (by omega) (fun h1 E1 => ?_)
      refine pv_i ?_
      refine wp_if_eq 32 dX8_whose_23 rfl (fun c23 => ?_) (fun c23 => ?_)
      · rw [b2i_0] at c23
        refine ii_2 dX8_whose_32 rfl (by decide) ⟨by decide, by decide⟩ (r32 (by omega) (by omega)) ?_
        refine wp_goto 4 dX8_whose_35 rfl ?_
        refine ih _ (p + 1) _ (by omega) (by omega) (by omega) ?_ (E.tr E1) hQ
        rw [setN_s p0, ← hs]
        first | rw [if_pos (by assumption)] | rw [if_neg (by assumption)]
      · rw [b2i_n0] at c23
        refine il_1 dX8_whose_26 ?_
        refine ic_1 dX8_whose_27 ?_
        refine il_2 dX8_whose_28 ?_
        refine wp_ishl dX8_whose_29 ?_
        refine wp_ior dX8_whose_30 ?_
        refine is_1 dX8_whose_31 rfl (by decide) ?_
        refine ii_2 dX8_whose_32 rfl (by decide) ⟨by decide, by decide⟩ (r32 (by omega) (by omega)) ?_
        refine wp_goto 4 dX8_whose_35 rfl ?_
        refine ih _ (p + 1) _ (by omega) (by omega) (by omega) ?_ (E.tr E1) hQ
        rw [setN_s p0, ← hs]
        first | rw [if_pos (by assumption)] | rw [if_neg (by assumption)]

theorem wX8_whose {G : GT} {δ : Nat} {h hl : Nat → Int → Int} {b : Bool × Bool} {Q : V → Hp → Prop} {R : Int → Int} {L : Laws} (hδ : δ ≤ 1600) (C : CT h R L)  (hQ : ∀ h', eqX [19, 20, 21] h h' → Q (vi (aWhose L R)) (HS h' hl b)) : WP G δ 0 0 MX8_whose 0 [vr (1), vn, vn] [] (HS h hl b) Q := by
  obtain ⟨⟨s0, s3, s4, s1, s2, s5⟩, ⟨t0, t1, t5, t6, t7⟩, ⟨g7, g8, g11, g10, g10x⟩⟩ := C.1.f
  have vn' := C.2.1.n
  have vw := C.2.1.w
  refine ic_0 dX8_whose_0 ?_
  refine is_1 dX8_whose_1 rfl (by decide) ?_
  refine ic_0 dX8_whose_2 ?_
  refine is_2 dX8_whose_3 rfl (by decide) ?_
  exact wX8_whose_4 (by omega) C _ 0 0 h (Nat.lt_succ_self _) (by omega) (by omega) rfl eqX.rf hQ

theorem wX9_whose_20 {G : GT} {δ : Nat} {b : Bool × Bool} {Q : V → Hp → Prop} {h0 : Nat → Int → Int} {s t : Int} {R : Int → Int} {L : Laws} (hδ : δ ≤ 1600) (M0 : MT h0 R L) (t0 : 0 ≤ t) (t1 : t < R 2) : ∀ (n : Nat) (a : Int) (x : Int) (k : Int) (h : Nat → Int → Int) (hl : Nat → Int → Int), ((R 7 - k).toNat) < n → (0 ≤ k) → (k ≤ R 7) → (x = 59 + 3 * k) → (a = b2i (allN (whP L R t) k.toNat = true)) → (eqX [342, 344] h0 h) → (∀ h' hl', eqX [342, 344] h0 h' → WP G δ 0 0 MX9_whose 86 [vr 336, vi s, vi t, vi (b2i (allN (whP L R t) (R 7).toNat = true)), vn] [] (HS h' hl' b) Q) → WP G δ 0 0 MX9_whose 20 [vr (336), vi s, vi t, vi a, vi x] [] (HS h hl b) Q := by
  intro n
  induction n with
  | zero => intro a x k h hl hlt; exact absurd hlt (Nat.not_lt_zero _)
  | succ n ih =>
    intro a x k h hl hlt e0 e1 hx ha E hQ
    have M := M0.x E (by decide) (by decide)
    have m := M.1
    have V := M.2.1
    have vn' := V.n
    have vw := V.w
    refine il_4 dX9_whose_20 ?_
    refine bi_59 dX9_whose_22 ?_
    refine ic_3 dX9_whose_24 ?_
    refine al_0 dX9_whose_25 ?_
    refine g_X9_7 (337) dX9_whose_26 rfl tt336 (rr9_0 tt336) (by omega) ?_
    refine bi_7 dX9_whose_29 ?_
    refine wp_iaload dX9_whose_31 tt337 (by omega) (by omega) ?_
    first | rw [m2] | rw [m1] | rw [m] | rw [sw_s] | skip
    refine wp_imul dX9_whose_32 (r32 (by omega) (by omega)) ?_
    refine wp_iadd dX9_whose_33 (r32 (by omega) (by omega)) ?_
    refine wp_icmp_ge 86 dX9_whose_34 rfl (fun c34 => ?_) (fun c34 => ?_)
    · have e : k = R 7 := by omega
      subst e
      refine wp_fg (ls' := [_, _, _, _, vn]) ⟨Or.inr rfl, Or.inr rfl, Or.inr rfl, Or.inr rfl, Or.inl rfl, trivial⟩ ?_
      rw [ha]
      exact hQ _ _ E
    · refine il_3 dX9_whose_37 ?_
      refine wp_if_eq 78 dX9_whose_38 rfl (fun c38 => ?_) (fun c38 => ?_)
      · refine ic_0 dX9_whose_78 ?_
        refine is_3 dX9_whose_79 rfl (by decide) ?_
        refine ii_4 dX9_whose_80 rfl (by decide) ⟨by decide, by decide⟩ (r32 (by omega) (by omega)) ?_
        refine wp_goto 20 dX9_whose_83 rfl ?_
        first
          | exact ih _ _ (k + 1) _ _ (by omega) (by omega) (by omega) (by omega) (by rw [allN_s e0]; exact b2i_a1 (b2i_n0.mp (by rw [← ha]; exact c38)) (decide_eq_true (by omega))) (E.tr E1) hQ
          | exact ih _ _ (k + 1) _ _ (by omega) (by omega) (by omega) (by omega) (by rw [allN_s e0]; exact b2i_ar (decide_eq_false (by omega))) (E.tr E1) hQ
          | exact ih _ _ (k + 1) _ _ (by omega) (by omega) (by omega) (by omega) (by rw [allN_s e0]; exact b2i_al (b2i_0.mp (by rw [← ha]; exact c38))) E hQ
      · refine al_0 dX9_whose_41 ?_
        refine il_2 dX9_whose_42 ?_
        refine al_0 dX9_whose_43 ?_
        refine g_X9_7 (337) dX9_whose_44 rfl tt336 (rr9_0 tt336) (by omega) ?_
        refine il_4 dX9_whose_47 ?_
        refine wp_iaload dX9_whose_49 tt337 (by omega) (by omega) ?_
        rw [m, hx]
        refine al_0 dX9_whose_50 ?_
        refine g_X9_7 (337) dX9_whose_51 rfl tt336 (rr9_0 tt336) (by omega) ?_
        refine il_4 dX9_whose_54 ?_
        refine ic_1 dX9_whose_56 ?_
        refine wp_iadd dX9_whose_57 (r32 (by omega) (by omega)) ?_
        refine wp_iaload dX9_whose_58 tt337 (by omega) (by omega) ?_
        rw [m, show 59 + 3 * k + 1 = 60 + 3 * k by omega]
        refine c_X9_323 dX9_whose_59 rfl tt336 (Nat.le_of_ble_eq_true rfl) (by omega) ?_
        have sa := V.sa k e0 (by omega)
        refine wX9_fillsOf (by omega) M (by omega) (by omega) (by omega) (by omega) (by omega) (by omega) (fun h1 hl1 E1 => ?_)
        have m1 : h1 337 = R := by rw [E1 337 (by decide), m]
        refine pv_i ?_
        refine al_0 dX9_whose_62 ?_
        refine g_X9_7 (337) dX9_whose_63 rfl tt336 (rr9_0 tt336) (by omega) ?_
        refine il_4 dX9_whose_66 ?_
        refine ic_2 dX9_whose_68 ?_
        refine wp_iadd dX9_whose_69 (r32 (by omega) (by omega)) ?_
        refine wp_iaload dX9_whose_70 tt337 (by omega) (by omega) ?_
        rw [m1, show 59 + 3 * k + 2 = 61 + 3 * k by omega]
        refine wp_icmp_ne 78 dX9_whose_71 rfl (fun c71 => ?_) (fun c71 => ?_)
        · refine ic_0 dX9_whose_78 ?_
          refine is_3 dX9_whose_79 rfl (by decide) ?_
          refine ii_4 dX9_whose_80 rfl (by decide) ⟨by decide, by decide⟩ (r32 (by omega) (by omega)) ?_
          refine wp_goto 20 dX9_whose_83 rfl ?_
          first
            | exact ih _ _ (k + 1) _ _ (by omega) (by omega) (by omega) (by omega) (by rw [allN_s e0]; exact b2i_a1 (b2i_n0.mp (by rw [← ha]; exact c38)) (decide_eq_true (by omega))) (E.tr E1) hQ
            | exact ih _ _ (k + 1) _ _ (by omega) (by omega) (by omega) (by omega) (by rw [allN_s e0]; exact b2i_ar (decide_eq_false (by omega))) (E.tr E1) hQ
            | exact ih _ _ (k + 1) _ _ (by omega) (by omega) (by omega) (by omega) (by rw [allN_s e0]; exact b2i_al (b2i_0.mp (by rw [← ha]; exact c38))) E hQ
        · refine ic_1 dX9_whose_74 ?_
          refine wp_goto 79 dX9_whose_75 rfl ?_
          refine is_3 dX9_whose_79 rfl (by decide) ?_
          refine ii_4 dX9_whose_80 rfl (by decide) ⟨by decide, by decide⟩ (r32 (by omega) (by omega)) ?_
          refine wp_goto 20 dX9_whose_83 rfl ?_
          first
            | exact ih _ _ (k + 1) _ _ (by omega) (by omega) (by omega) (by omega) (by rw [allN_s e0]; exact b2i_a1 (b2i_n0.mp (by rw [← ha]; exact c38)) (decide_eq_true (by omega))) (E.tr E1) hQ
            | exact ih _ _ (k + 1) _ _ (by omega) (by omega) (by omega) (by omega) (by rw [allN_s e0]; exact b2i_ar (decide_eq_false (by omega))) (E.tr E1) hQ
            | exact ih _ _ (k + 1) _ _ (by omega) (by omega) (by omega) (by omega) (by rw [allN_s e0]; exact b2i_al (b2i_0.mp (by rw [← ha]; exact c38))) E hQ

theorem wX9_whose_4 {G : GT} {δ : Nat} {b : Bool × Bool} {Q : V → Hp → Prop} {h0 : Nat → Int → Int} {R : Int → Int} {L : Laws} (hδ : δ ≤ 1600) (M0 : MT h0 R L) : ∀ (n : Nat) (s : Int) (p : Int) (c3 : V) (c4 : V) (h : Nat → Int → Int) (hl : Nat → Int → Int), ((R 2 - p).toNat) < n → (0 ≤ p) → (p ≤ R 2) → (s = setN (fun p => allN (whP L R p) (R 7).toNat) p.toNat) → (eqX [342, 344] h0 h) → (∀ h' hl', eqX [342, 344] h0 h' → Q (vi (aWhose L R)) (HS h' hl' b)) → WP G δ 0 0 MX9_whose 4 [vr (336), vi s, vi p, c3, c4] [] (HS h hl b) Q := by
  intro n
  induction n with
  | zero => intro s p c3 c4 h hl hlt; exact absurd hlt (Nat.not_lt_zero _)
  | succ n ih =>
    intro s p c3 c4 h hl hlt p0 p1 hs E hQ
    have M := M0.x E (by decide) (by decide)
    have m := M.1
    have V := M.2.1
    have vn' := V.n
    have vw := V.w
    have d0 : 0 ≤ R 7 := by omega
    refine il_2 dX9_whose_4 ?_
    refine al_0 dX9_whose_5 ?_
    refine g_X9_7 (337) dX9_whose_6 rfl tt336 (rr9_0 tt336) (by omega) ?_
    refine ic_2 dX9_whose_9 ?_
    refine wp_iaload dX9_whose_10 tt337 (by omega) (by omega) ?_
    first | rw [m2] | rw [m1] | rw [m] | rw [sw_s] | skip
    refine wp_icmp_ge 106 dX9_whose_11 rfl (fun c11 => ?_) (fun c11 => ?_)
    · have e : p = R 2 := by omega
      subst e
      refine il_1 dX9_whose_106 ?_
      refine wp_ireti dX9_whose_107 rfl ?_
      exact qv (hQ _ _ E) (by rw [aWhose_at]; exact hs.symm)
    · refine ic_1 dX9_whose_14 ?_
      refine is_3 dX9_whose_15 rfl (by decide) ?_
      refine bi_59 dX9_whose_16 ?_
      refine is_4 dX9_whose_18 rfl (by decide) ?_
      refine wX9_whose_20 (by omega) M p0 (by omega) _ 1 59 0 _ _ (Nat.lt_succ_self _) (by omega) (by omega) rfl (b2i_t rfl).symm eqX.rf (fun h1 hl1 E1 => ?_)
      refine il_1 dX9_whose_86 ?_
      refine il_3 dX9_whose_87 ?_
      refine wp_if_eq 97 dX9_whose_88 rfl (fun c88 => ?_) (fun c88 => ?_)
      · rw [b2i_0] at c88
        refine ic_0 dX9_whose_97 ?_
        refine wp_ior dX9_whose_98 ?_
        refine is_1 dX9_whose_99 rfl (by decide) ?_
        refine ii_2 dX9_whose_100 rfl (by decide) ⟨by decide, by decide⟩ (r32 (by omega) (by omega)) ?_
        refine wp_goto 4 dX9_whose_103 rfl ?_
        have sr := setN_R (P := fun p => allN (whP L R p) (R 7).toNat) p.toNat (by omega)
        obtain ⟨pi, hpi, epi⟩ := nat_of (n := 8) (a := p) (by omega) (by omega)
        have s1' := shl1 pi hpi
        rw [← epi] at s1'
        refine ih _ (p + 1) _ _ _ _ (by omega) (by omega) (by omega) ?_ (E.tr E1) hQ
        rw [setN_s p0, ← hs]
        first
          | rw [if_pos (by assumption)]
          | (rw [if_neg (by assumption)]; exact bor_z (by omega) (by omega))
      · rw [b2i_n0] at c88
        refine ic_1 dX9_whose_91 ?_
        refine il_2 dX9_whose_92 ?_
        refine wp_ishl dX9_whose_93 ?_
        refine wp_goto 98 dX9_whose_94 rfl ?_
        refine wp_ior dX9_whose_98 ?_
        refine is_1 dX9_whose_99 rfl (by decide) ?_
        refine ii_2 dX9_whose_100 rfl (by decide) ⟨by decide, by decide⟩ (r32 (by omega) (by omega)) ?_
        refine wp_goto 4 dX9_whose_103 rfl ?_
        have sr := setN_R (P := fun p => allN (whP L R p) (R 7).toNat) p.toNat (by omega)
        obtain ⟨pi, hpi, epi⟩ := nat_of (n := 8) (a := p) (by omega) (by omega)
        have s1' := shl1 pi hpi
        rw [← epi] at s1'
        refine ih _ (p + 1) _ _ _ _ (by omega) (by omega) (by omega) ?_ (E.tr E1) hQ
        rw [setN_s p0, ← hs]
        first
          | rw [if_pos (by assumption)]
          | (rw [if_neg (by assumption)]; exact bor_z (by omega) (by omega))

theorem wX9_whose {G : GT} {δ : Nat} {h hl : Nat → Int → Int} {b : Bool × Bool} {Q : V → Hp → Prop} {R : Int → Int} {L : Laws} (hδ : δ ≤ 1600) (M : MT h R L)  (hQ : ∀ h' hl', eqX [342, 344] h h' → Q (vi (aWhose L R)) (HS h' hl' b)) : WP G δ 0 0 MX9_whose 0 [vr (336), vn, vn, vn, vn] [] (HS h hl b) Q := by
  have m := M.1
  have V := M.2.1
  have vn' := V.n
  have vw := V.w
  refine ic_0 dX9_whose_0 ?_
  refine is_1 dX9_whose_1 rfl (by decide) ?_
  refine ic_0 dX9_whose_2 ?_
  refine is_2 dX9_whose_3 rfl (by decide) ?_
  exact wX9_whose_4 (by omega) M _ 0 0 _ _ h hl (Nat.lt_succ_self _) (by omega) (by omega) rfl eqX.rf hQ
