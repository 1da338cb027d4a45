/-! the class's text -/
def TcE (k : Int) (h h' : Nat → Int → Int) : Prop := (∀ o : Nat, o ≠ 2 → (o < 22 + 4 * k.toNat ∨ 22 + 4 * k.toNat + 3 < o) → (o < 314 ∨ o = 315 ∨ 322 < o) → h' o = h o) ∧ (∀ j : Int, j ≠ 7 → h' 2 j = h 2 j) ∧ ∀ j : Int, j ≠ 1 → j ≠ 2 → j ≠ 3 → j ≠ 4 → j ≠ 9 → j ≠ 10 → h' 314 j = h 314 j

theorem wX8_text {G : GT} {δ : Nat} {h hl : Nat → Int → Int} {b : Bool × Bool} {Q : V → Hp → Prop} {N : Int} {T : Int → Int} {R : Int → Int} {L : Laws} (hδ : δ ≤ 840) (C : CT h R L) (hN : h 314 1 = N) (hT : h 315 = T) (B : BY T N) (h4 : R 2 = 4 → Q (vi (-1)) (HS h hl b)) (hQ : R 2 < 4 → (match rdP (kF T N) (vF T N) 301 0 st0 with | .inl e => (∀ h' : Nat → Int → Int, TcE (R 2) h h' → h' 2 7 = R 2 → h' 314 1 = 0 → h' 314 2 = 1 → h' 314 3 = e.1 → h' 314 4 = pF T N e.2 → Q (vi (-1)) (HS h' hl b)) | .inr st => (∀ h' : Nat → Int → Int, TcE (R 2) h h' → h' 2 7 = R 2 + 1 → h' 314 1 = 0 → h' 314 2 = 1 → h' 314 3 = 0 → h' 314 4 = -1 → DrI h' st → SCE h' h' (22 + 4 * (R 2).toNat) 316 → Q (vi (R 2)) (HS h' hl b)))) : WP G δ 0 0 MX8_text 0 [vr (1), vn] [] (HS h hl b) Q := by
  obtain ⟨⟨s0, s3, s4, s1, s2, s5⟩, ⟨t0, t1, t5, t6, t7⟩, ⟨g7, g8, g11, g10, g10x⟩⟩ := C.1.f
  have vn' := C.2.1.n
  have vw := C.2.1.w
  refine al_0 dX8_text_0 ?_
  refine g_X8_12 (2) dX8_text_1 rfl tt1 (rr8_0 tt1) (by omega) ?_
  refine g_X8_63 dX8_text_4 rfl tt2 ?_
  rw [g7]
  refine ic_4 dX8_text_7 ?_
  refine wp_icmp_lt 13 dX8_text_8 rfl (fun c8 => ?_) (fun c8 => ?_)
  · have hQ := hQ (by omega)
    refine al_0 dX8_text_13 ?_
    refine g_X8_22 (314) dX8_text_14 rfl tt1 (rr8_2 tt1) (by omega) ?_
    refine c_X8_66 dX8_text_17 rfl tt314 (Nat.le_of_ble_eq_true rfl) (by omega) ?_
    refine wX2_readTape (N := N) (T := T) (by omega) hN hT B ?_
    cases hr : rdP (kF T N) (vF T N) 301 0 st0 with
    | inl e =>
      rw [hr] at hQ
      intro h1 E1 z2 z3 z4
      refine pv_i ?_
      refine is_1 dX8_text_20 rfl (by decide) ?_
      refine al_0 dX8_text_21 ?_
      refine g_X8_22 (314) dX8_text_22 rfl tt1 (rr8_2 tt1) (by omega) ?_
      refine ic_0 dX8_text_25 ?_
      refine p_X8_55 dX8_text_26 rfl tt314 ?_
      refine il_1 dX8_text_29 ?_
      refine wp_if_ne 35 dX8_text_30 rfl (fun c30 => ?_) (fun c30 => ?_)
      · exact absurd rfl c30
      · refine ic_m1 dX8_text_33 ?_
        refine wp_ireti dX8_text_34 rfl ?_
        have q2 : h1 2 = h 2 := E1.1 2 (by decide)
        exact hQ _ ⟨fun o a c d => by rw [up_o' (by omega)]; exact E1.1 o (by simp; omega), fun j _ => by rw [up_o (by decide), q2], fun j a1 a2 a3 a4 a9 a10 => by rw [up_k a1]; exact E1.2 j a2 a3 a4 a9 a10⟩ (by rw [up_o (by decide), q2]; exact g7) up_s (by rw [up_k (by decide)]; exact z2) (by rw [up_k (by decide)]; exact z3) (by rw [up_k (by decide)]; exact z4)
    | inr st =>
      rw [hr] at hQ
      intro h1 E1 z2 z3 z4 D1
      have q2 : h1 2 = h 2 := E1.1 2 (by decide)
      have tq : ty TT (22 + 4 * (R 2).toNat) = some (.inl 3) := (tt_scripts (R 2).toNat (by omega)).1
      refine pv_i ?_
      refine is_1 dX8_text_20 rfl (by decide) ?_
      refine al_0 dX8_text_21 ?_
      refine g_X8_22 (314) dX8_text_22 rfl tt1 (rr8_2 tt1) (by omega) ?_
      refine ic_0 dX8_text_25 ?_
      refine p_X8_55 dX8_text_26 rfl tt314 ?_
      refine il_1 dX8_text_29 ?_
      refine wp_if_ne 35 dX8_text_30 rfl (fun c30 => ?_) (fun c30 => ?_)
      · refine al_0 dX8_text_35 ?_
        refine g_X8_12 (2) dX8_text_36 rfl tt1 (rr8_0 tt1) (by omega) ?_
        refine g_X8_70 (17) dX8_text_39 rfl tt2 (rr7_6 tt2) (by omega) ?_
        refine al_0 dX8_text_42 ?_
        refine g_X8_12 (2) dX8_text_43 rfl tt1 (rr8_0 tt1) (by omega) ?_
        refine g_X8_63 dX8_text_46 rfl tt2 ?_
        rw [up_o (by decide), q2, g7]
        refine wp_aaload (22 + 4 * (R 2).toNat) dX8_text_49 tt17 (Or.inl rfl) (by omega) (by omega) (rr17 (by omega) (by omega)) (by omega) ?_
        refine al_0 dX8_text_50 ?_
        refine g_X8_22 (314) dX8_text_51 rfl tt1 (rr8_2 tt1) (by omega) ?_
        refine g_X8_74 (316) dX8_text_54 rfl tt314 (rr2_5 tt314) (by omega) ?_
        refine c_X8_78 dX8_text_57 rfl tq (Nat.le_of_ble_eq_true rfl) (by omega) ?_
        refine wX3_copy (by omega) tq tt316 (by omega) ?_
        refine pv_n ?_
        refine al_0 dX8_text_60 ?_
        refine g_X8_12 (2) dX8_text_61 rfl tt1 (rr8_0 tt1) (by omega) ?_
        refine wp_dup dX8_text_64 rfl ?_
        refine g_X8_63 dX8_text_65 rfl tt2 ?_
        rw [scC_o (by omega), up_o (by decide), q2, g7]
        refine ic_1 dX8_text_68 ?_
        refine wp_iadd dX8_text_69 (r32 (by omega) (by omega)) ?_
        refine p_X8_63 dX8_text_70 rfl tt2 ?_
        refine al_0 dX8_text_73 ?_
        refine g_X8_12 (2) dX8_text_74 rfl tt1 (rr8_0 tt1) (by omega) ?_
        refine g_X8_63 dX8_text_77 rfl tt2 ?_
        rw [up_s]
        refine ic_1 dX8_text_80 ?_
        refine wp_isub dX8_text_81 (r32 (by omega) (by omega)) ?_
        refine wp_ireti dX8_text_82 rfl ?_
        have o3 : ∀ o : Nat, o ≠ 2 → (o < 22 + 4 * (R 2).toNat ∨ 22 + 4 * (R 2).toNat + 3 < o) → up (scC (up h1 314 1 0) (22 + 4 * (R 2).toNat) 316) 2 7 (R 2 + 1) o = up h1 314 1 0 o := fun o a c => by rw [up_o' a, scC_o (by omega)]
        have o4 : ∀ o : Nat, o ≠ 2 → o ≠ 314 → (o < 22 + 4 * (R 2).toNat ∨ 22 + 4 * (R 2).toNat + 3 < o) → up (scC (up h1 314 1 0) (22 + 4 * (R 2).toNat) 316) 2 7 (R 2 + 1) o = h1 o := fun o a e c => by rw [o3 o a c, up_o' e]
        have e6 := o4 316 (by decide) (by decide) (by omega)
        have e7 := o4 317 (by decide) (by decide) (by omega)
        have e8 := o4 318 (by decide) (by decide) (by omega)
        have e9 := o4 319 (by decide) (by decide) (by omega)
        have SE := scC_E (h := up h1 314 1 0) (o := 22 + 4 * (R 2).toNat) (q := 316)
        refine qv (hQ _ ⟨fun o a c d => ?_, fun j hj => ?_, fun j a1 a2 a3 a4 a9 a10 => ?_⟩ up_s ?_ ?_ ?_ ?_ ?_ ?_) (by omega)
        · rw [o4 o a (by omega) c]; exact E1.1 o (by simp; omega)
        · rw [up_k hj, scC_o (by omega), up_o (by decide), q2]
        · rw [o3 314 (by decide) (by omega), up_k a1]; exact E1.2 j a2 a3 a4 a9 a10
        · rw [o3 314 (by decide) (by omega), up_s]
        · rw [o3 314 (by decide) (by omega), up_k (by decide)]; exact z2
        · rw [o3 314 (by decide) (by omega), up_k (by decide)]; exact z3
        · rw [o3 314 (by decide) (by omega), up_k (by decide)]; exact z4
        · obtain ⟨d0, d1, d3, d4, d5⟩ := D1
          refine ⟨by rw [e6]; exact d0, d1.c (by rw [e6]) e9, by rw [e6]; exact d3, by rw [e6]; exact d4, fun q r hq => (d5 q r hq).c (by rw [e7]) (fun z _ _ => by rw [e8])⟩
        · have SF : SCE (up h1 314 1 0) (up (scC (up h1 314 1 0) (22 + 4 * (R 2).toNat) 316) 2 7 (R 2 + 1)) (22 + 4 * (R 2).toNat) 316 := SE.c (fun x x0 x1 => up_o' (by omega))
          exact SF.s (fun x x0 x1 => (o3 x (by omega) (by omega)).symm)
      · omega
  · refine ic_m1 dX8_text_11 ?_
    refine wp_ireti dX8_text_12 rfl ?_
    exact h4 (by omega)
