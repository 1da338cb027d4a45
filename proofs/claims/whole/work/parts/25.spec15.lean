def rPerson (R : Int → Int) (oil slip : Int) : Int → Int := ur (ur (ur (ur (ur R (25 + R 0) oil) (21 + R 0) slip) (13 + 2 * R 0) oil) (14 + 2 * R 0) 0) 0 (R 0 + 1)
def rDisp (R : Int → Int) (l : Int) : Int → Int := ur (ur R (29 + R 1) l) 1 (R 1 + 1)
section TELL
variable {h h' : Nat → Int → Int} {R R' : Int → Int} {L : Laws} {k x p v d l oil slip : Int}
theorem rPerson_at (v0 : 0 ≤ R 0) {j : Int} : rPerson R oil slip j = if j = 0 then R 0 + 1 else if j = 14 + 2 * R 0 then 0 else if j = 13 + 2 * R 0 then oil else if j = 21 + R 0 then slip else if j = 25 + R 0 then oil else R j := rfl
theorem rDisp_at {j : Int} : rDisp R l j = if j = 1 then R 1 + 1 else if j = 29 + R 1 then l else R j := rfl
theorem rPerson_V (V : RV R) (n : R 0 < 4) (o0 : 0 ≤ oil) (o1 : oil ≤ 99) (s0 : 0 ≤ slip) (s1 : slip ≤ 10) : RV (rPerson R oil slip) := by
  obtain ⟨⟨v0, v1, v2, v3, v4, v5, v6, v7⟩, S, q0, q1, q2, q3, q4, q5, q6⟩ := V
  obtain ⟨w0, w1, w2, w3, w4, w5, w6, w7, w8⟩ := S.now
  have A := fun j => rPerson_at (R := R) (oil := oil) (slip := slip) v0.1 (j := j)
  generalize rPerson R oil slip = R' at *
  have z0 : R' 0 = R 0 + 1 := by rw [A, if_pos rfl]
  have zz : ∀ j : Int, (j ≠ 0 ∧ j < 13) ∨ 28 < j → R' j = R j := fun j hj => by rw [A, if_neg (by omega), if_neg (by omega), if_neg (by omega), if_neg (by omega), if_neg (by omega)]
  have z1 := zz 1 (by omega); have z2 := zz 2 (by omega); have z3 := zz 3 (by omega); have z4 := zz 4 (by omega); have z5 := zz 5 (by omega); have z6 := zz 6 (by omega); have z7 := zz 7 (by omega)
  have z8 := zz 8 (by omega); have z9 := zz 9 (by omega); have z10 := zz 10 (by omega); have z11 := zz 11 (by omega); have z12 := zz 12 (by omega)
  refine ⟨⟨by omega, by omega, by omega, by omega, by omega, by omega, by omega, by omega⟩, SV.mk ⟨by omega, by omega, by omega, by omega, by omega, by omega, fun p p0 p1 => ?_, fun p p0 p1 => ?_, fun p p0 p1 => ?_⟩, fun p p0 p1 => ?_, fun p p0 p1 => ?_, fun p p0 p1 => ?_, fun p p0 p1 => ?_, fun p p0 p1 => ?_, fun p p0 p1 => ?_, fun p p0 p1 => ?_⟩
  · by_cases e : p = R 0
    · rw [A, if_neg (by omega), if_neg (by omega), if_pos (by omega)]; omega
    · rw [A, if_neg (by omega), if_neg (by omega), if_neg (by omega), if_neg (by omega), if_neg (by omega)]; exact w6 p p0 (by omega)
  · by_cases e : p = R 0
    · rw [A, if_neg (by omega), if_pos (by omega)]; omega
    · rw [A, if_neg (by omega), if_neg (by omega), if_neg (by omega), if_neg (by omega), if_neg (by omega)]; exact w7 p p0 (by omega)
  · rw [zz _ (by omega)]; exact w8 p p0 (by omega)
  · by_cases e : p = R 0
    · rw [A, if_neg (by omega), if_neg (by omega), if_neg (by omega), if_pos (by omega)]; omega
    · rw [A, if_neg (by omega), if_neg (by omega), if_neg (by omega), if_neg (by omega), if_neg (by omega)]; exact q0 p p0 (by omega)
  · by_cases e : p = R 0
    · rw [A, if_neg (by omega), if_neg (by omega), if_neg (by omega), if_neg (by omega), if_pos (by omega)]; omega
    · rw [A, if_neg (by omega), if_neg (by omega), if_neg (by omega), if_neg (by omega), if_neg (by omega)]; exact q1 p p0 (by omega)
  · rw [zz _ (by omega)]; exact q2 p p0 (by omega)
  · rw [zz _ (by omega)]; exact q3 p p0 (by omega)
  · rw [zz (43 + 2 * p) (by omega), zz (44 + 2 * p) (by omega), z0]; have := q4 p p0 (by omega); omega
  · rw [zz (59 + 3 * p) (by omega), zz (60 + 3 * p) (by omega), zz (61 + 3 * p) (by omega), z0, z1]; have := q5 p p0 (by omega); omega
  · obtain ⟨s, s'⟩ := q6 p p0 (by omega)
    exact ⟨s.cR (zz _ (by omega)) (fun k k0 k1 => zz _ (by omega)) (fun k k0 k1 => zz _ (by omega)), by rw [zz _ (by omega), z0]; omega⟩
theorem rPerson_P (P : TPic h 2 R) (V : RV R) (n : R 0 < 4) (H : h' = up (up (up (up (up h 8 (R 0) slip) 7 1 (R 0 + 1)) 4 (R 0) oil) 5 (R 0) 0) 3 0 (R 0 + 1)) : TPic h' 2 (rPerson R oil slip) := by
  have v := V.n
  have f := P.f
  have A := fun j => rPerson_at (R := R) (oil := oil) (slip := slip) v.1.1 (j := j)
  generalize rPerson R oil slip = R' at *
  have z0 : R' 0 = R 0 + 1 := by rw [A, if_pos rfl]
  have zz : ∀ j : Int, (j ≠ 0 ∧ j < 13) ∨ 28 < j → R' j = R j := fun j hj => by rw [A, if_neg (by omega), if_neg (by omega), if_neg (by omega), if_neg (by omega), if_neg (by omega)]
  have E : ∀ o, o ≠ 8 → o ≠ 7 → o ≠ 4 → o ≠ 5 → o ≠ 3 → h' o = h o := fun o a c d e g => by
    funext k; rw [H, up_o g, up_o e, up_o d, up_o c, up_o a]
  have E3 : ∀ k : Int, k ≠ 0 → h' 3 k = h 3 k := fun k hk => by rw [H, up_k hk, up_o (by decide), up_o (by decide), up_o (by decide), up_o (by decide)]
  have E30 : h' 3 0 = R 0 + 1 := by rw [H, up_s]
  have E4 : ∀ k : Int, h' 4 k = if k = R 0 then oil else h 4 k := fun k => by rw [H]; unfold up; simp
  have E5 : ∀ k : Int, h' 5 k = if k = R 0 then 0 else h 5 k := fun k => by rw [H]; unfold up; simp
  have E7 : h' 7 1 = R 0 + 1 := by rw [H]; unfold up; simp
  have E8 : ∀ k : Int, h' 8 k = if k = R 0 then slip else h 8 k := fun k => by rw [H]; unfold up; simp
  clear H
  obtain ⟨s0, s3, s4, s1, s2, s5, s6, s7, s8⟩ := P.1.now
  refine ⟨SPR.mk ⟨by omega, by rw [E3 _ (by decide), zz _ (by omega)]; exact s3, by rw [E3 _ (by decide), zz _ (by omega)]; exact s4, by rw [E3 _ (by decide), zz _ (by omega)]; exact s1, by rw [E3 _ (by decide), zz _ (by omega)]; exact s2, by rw [E3 _ (by decide), zz _ (by omega)]; exact s5, fun p p0 p1 => ?_, fun p p0 p1 => ?_, fun p p0 p1 => ?_⟩, ⟨?_, fun p p0 p1 => ?_⟩, ⟨?_, fun p p0 p1 => ?_⟩, ⟨?_, fun p p0 p1 => ?_⟩, ⟨?_, fun p p0 p1 => ?_⟩, ⟨?_, fun p p0 p1 => ?_⟩, ?_, fun j j0 j1 => ?_⟩
  · rw [z0] at p1
    rw [E4]
    by_cases e : p = R 0
    · rw [if_pos e, A, if_neg (by omega), if_neg (by omega), if_pos (by omega)]
    · rw [if_neg e, A, if_neg (by omega), if_neg (by omega), if_neg (by omega), if_neg (by omega), if_neg (by omega)]; exact s6 p p0 (by omega)
  · rw [z0] at p1
    rw [E5]
    by_cases e : p = R 0
    · rw [if_pos e, A, if_neg (by omega), if_pos (by omega)]
    · rw [if_neg e, A, if_neg (by omega), if_neg (by omega), if_neg (by omega), if_neg (by omega), if_neg (by omega)]; exact s7 p p0 (by omega)
  · rw [zz 12 (by omega)] at p1
    rw [E 6 (by decide) (by decide) (by decide) (by decide) (by decide), zz _ (by omega)]; exact s8 p p0 p1
  · show h' 7 1 = _; rw [z0]; exact E7
  · rw [z0] at p1
    show h' 8 p = R' (21 + p)
    rw [E8]
    by_cases e : p = R 0
    · rw [if_pos e, A, if_neg (by omega), if_neg (by omega), if_neg (by omega), if_pos (by omega)]
    · rw [if_neg e, A, if_neg (by omega), if_neg (by omega), if_neg (by omega), if_neg (by omega), if_neg (by omega)]; exact P.sl p p0 (by omega)
  · show h' 9 1 = _; rw [E 9 (by decide) (by decide) (by decide) (by decide) (by decide), zz 1 (by omega)]; exact f.2.1.2.1
  · rw [zz 1 (by omega)] at p1; show h' 10 p = R' (29 + p); rw [E 10 (by decide) (by decide) (by decide) (by decide) (by decide), zz _ (by omega)]; exact P.di p p0 (by omega)
  · show h' 11 1 = _; rw [E 11 (by decide) (by decide) (by decide) (by decide) (by decide), zz 5 (by omega)]; exact f.2.1.2.2.1
  · rw [zz 5 (by omega)] at p1; show h' 12 p = R' (37 + p); rw [E 12 (by decide) (by decide) (by decide) (by decide) (by decide), zz _ (by omega)]; exact P.st p p0 (by omega)
  · show h' 13 1 = _; rw [E 13 (by decide) (by decide) (by decide) (by decide) (by decide), zz 6 (by omega)]; exact f.2.1.2.2.2.1
  · rw [zz 6 (by omega)] at p1; show h' 14 p = R' (43 + 2 * p) * 2 + R' (44 + 2 * p); rw [E 14 (by decide) (by decide) (by decide) (by decide) (by decide), zz _ (by omega), zz _ (by omega)]; exact P.ve p p0 (by omega)
  · show h' 15 1 = _; rw [E 15 (by decide) (by decide) (by decide) (by decide) (by decide), zz 7 (by omega)]; exact f.2.1.2.2.2.2
  · rw [zz 7 (by omega)] at p1; show h' 16 p = (R' (59 + 3 * p) * 4 + R' (60 + 3 * p)) * 10 + R' (61 + 3 * p); rw [E 16 (by decide) (by decide) (by decide) (by decide) (by decide), zz _ (by omega), zz _ (by omega), zz _ (by omega)]; exact P.sa p p0 (by omega)
  · rw [E 2 (by decide) (by decide) (by decide) (by decide) (by decide), zz 2 (by omega), zz 3 (by omega), zz 4 (by omega)]; exact f.2.2
  · rw [zz 4 (by omega)] at j1
    rw [E 2 (by decide) (by decide) (by decide) (by decide) (by decide)]
    have s := P.2.2.2.2.2.2.2 j j0 (by omega)
    have sv := (V.sp j j0 (by omega)).1
    refine (s.c (fun o h0 h1 => E o (by omega) (by omega) (by omega) (by omega) (by omega))).cR (zz _ (by omega)) (fun k k0 k1 => zz _ (by omega)) (fun k k0 k1 => zz _ (by omega)) sv.2.1 ?_
    exact sv.2.2.2.2.2.2.2.2.2.2.2.1
theorem rPerson_T (t : TC R) (V : RV R) (n : R 0 < 4) : TC (rPerson R oil slip) := by
  have v := V.n
  have A := fun j => rPerson_at (R := R) (oil := oil) (slip := slip) v.1.1 (j := j)
  generalize rPerson R oil slip = R' at *
  have z0 : R' 0 = R 0 + 1 := by rw [A, if_pos rfl]
  have zz : ∀ j : Int, (j ≠ 0 ∧ j < 13) ∨ 28 < j → R' j = R j := fun j hj => by rw [A, if_neg (by omega), if_neg (by omega), if_neg (by omega), if_neg (by omega), if_neg (by omega)]
  intro j j0 j1
  rw [zz 4 (by omega)] at j1
  obtain ⟨a, c⟩ := t j j0 j1
  have sj := (V.sp j j0 j1).1
  unfold nxP nxO nxW at *
  rw [zz 4 (by omega), z0, zz (83 + 39 * j) (by omega)]
  by_cases q : j + 1 < R 4
  · simp only [if_pos q] at *
    have sj1 := (V.sp (j + 1) (by omega) q)
    rw [zz (83 + 39 * (j + 1)) (by omega)]
    refine ⟨a, fun p p0 p1 => ?_⟩
    rw [zz (89 + 39 * (j + 1) + 2 * p) (by have := sj.1; omega), zz (90 + 39 * (j + 1) + 2 * p) (by have := sj.1; omega)]
    have e : R' (25 + p) = R (25 + p) := by
      have := sj.1
      rw [A, if_neg (by omega), if_neg (by omega), if_neg (by omega), if_neg (by omega), if_neg (by have := sj1.2; omega)]
    rw [e]; exact c p p0 p1
  · simp only [if_neg q] at *
    refine ⟨by omega, fun p p0 p1 => ?_⟩
    have := sj.1
    by_cases e : p = R 0
    · subst e
      have e1 : R' (13 + 2 * R 0) = oil := by rw [A, if_neg (by omega), if_neg (by omega), if_pos rfl]
      have e2 : R' (14 + 2 * R 0) = 0 := by rw [A, if_neg (by omega), if_pos rfl]
      have e3 : R' (25 + R 0) = oil := by rw [A, if_neg (by omega), if_neg (by omega), if_neg (by omega), if_neg (by omega), if_pos rfl]
      rw [e1, e2, e3]; exact ⟨rfl, rfl⟩
    · have e1 : R' (13 + 2 * p) = R (13 + 2 * p) := by rw [A, if_neg (by omega), if_neg (by omega), if_neg (by omega), if_neg (by omega), if_neg (by omega)]
      have e2 : R' (14 + 2 * p) = R (14 + 2 * p) := by rw [A, if_neg (by omega), if_neg (by omega), if_neg (by omega), if_neg (by omega), if_neg (by omega)]
      have e3 : R' (25 + p) = R (25 + p) := by rw [A, if_neg (by omega), if_neg (by omega), if_neg (by omega), if_neg (by omega), if_neg (by omega)]
      rw [e1, e2, e3]; exact c p p0 (by omega)
theorem CT.person (C : CT h R L) (n : R 0 < 4) (o0 : 0 ≤ oil) (o1 : oil ≤ 99) (s0 : 0 ≤ slip) (s1 : slip ≤ 10) (H : h' = up (up (up (up (up h 8 (R 0) slip) 7 1 (R 0 + 1)) 4 (R 0) oil) 5 (R 0) 0) 3 0 (R 0 + 1)) : CT h' (rPerson R oil slip) L ∧ eqT h h' := by
  have E : eqT h h' := by
    rw [H]
    exact ((((eqT.rf.up (by omega)).up (by omega)).up (by omega)).up (by omega)).up (by omega)
  have v := C.2.1.n
  refine ⟨⟨rPerson_P C.1 C.2.1 n H, rPerson_V C.2.1 n o0 o1 s0 s1, ?_⟩, E⟩
  rw [rPerson_at v.1.1, if_neg (by decide), if_neg (by omega), if_neg (by omega), if_neg (by omega), if_neg (by omega)]
  exact C.2.2.cT v.2.2.1.2 E
end TELL

theorem wX7_drawYear {G : GT} {δ : Nat} {h hl : Nat → Int → Int} {b : Bool × Bool} {Q : V → Hp → Prop} {R : Int → Int} {L : Laws} (hδ : δ ≤ 1580) (C : CT h R L) (hQ : ∀ h', eqT h h' → CT h' (rYear L true R) L → Q vn (HS h' hl b)) : WP G δ 0 0 MX7_drawYear 0 [vr (2), vn, vn] [] (HS h hl b) Q := by
  have f := C.1.f
  have n := C.2.1.n
  have w := C.2.1.w
  obtain ⟨s0, s3, s4, s1, s2, s5, s6, s7, s8⟩ := C.1.1.now
  refine al_0 dX7_drawYear_0 ?_
  refine g_X7_12 (3) dX7_drawYear_1 rfl tt2 (rr7_0 tt2) (by omega) ?_
  refine g_X7_193 dX7_drawYear_4 rfl tt3 ?_
  rw [s4]
  refine is_1 dX7_drawYear_7 rfl (by decide) ?_
  refine al_0 dX7_drawYear_8 ?_
  refine g_X7_12 (3) dX7_drawYear_9 rfl tt2 (rr7_0 tt2) (by omega) ?_
  refine ic_2 dX7_drawYear_12 ?_
  refine c_X7_181 dX7_drawYear_13 rfl tt3 (Nat.le_of_ble_eq_true rfl) (by omega) ?_
  refine wX5_draw (by omega) (by omega) (by omega) ?_
  have V1 := rDraw_RV C.2.1
  have E1 : eqN h (up h 3 4 ((h 3 4 * 617 + 491) % 30869)) := eqX.rf.up (by decide)
  have S1 : SPR (up h 3 4 ((h 3 4 * 617 + 491) % 30869)) 3 (rDraw R) 0 8 1253 := by rw [s4]; exact C.1.1.xx
  have C1 := C.nw rDraw_N S1 E1 V1.2.1
  obtain ⟨h1, e1⟩ : ∃ h1, h1 = up h 3 4 ((h 3 4 * 617 + 491) % 30869) := ⟨_, rfl⟩
  rw [← e1] at C1 E1 S1 ⊢
  have r0 : h1 3 0 = R 0 := by rw [S1.now.1, rDraw_o (by decide)]
  have r1 : h1 9 1 = R 1 := by rw [E1 9 (by decide)]; exact f.2.1.2.1
  have rl : h1 3 1 = R 10 := by rw [S1.now.2.2.2.1, rDraw_o (by decide)]
  have d0 := rDraw_o (R := R) (j := 0) (by decide)
  have d1 := rDraw_o (R := R) (j := 1) (by decide)
  have d8 := rDraw_o (R := R) (j := 8) (by decide)
  have d10 := rDraw_o (R := R) (j := 10) (by decide)
  refine pv_i ?_
  refine wp_pop dX7_drawYear_16 rfl ?_
  refine il_1 dX7_drawYear_17 ?_
  refine bi_6 dX7_drawYear_18 ?_
  refine wp_idivN dX7_drawYear_20 (by omega) (by omega) ?_
  refine is_2 dX7_drawYear_21 rfl (by decide) ?_
  refine il_1 dX7_drawYear_22 ?_
  refine bi_6 dX7_drawYear_23 ?_
  refine wp_iremN dX7_drawYear_25 (by omega) (by omega) ?_
  rcases (show ((R 9 % 6) < 0 ∨ 3 < (R 9 % 6)) ∨ ((R 9 % 6) = 0) ∨ ((R 9 % 6) = 1) ∨ ((R 9 % 6) = 2) ∨ ((R 9 % 6) = 3) by omega) with c26 | c26 | c26 | c26 | c26
  · refine wp_tswD 142 dX7_drawYear_26 (by omega) rfl ?_
    refine al_0 dX7_drawYear_142 ?_
    refine ic_1 dX7_drawYear_143 ?_
    refine ic_0 dX7_drawYear_144 ?_
    refine c_X7_206 dX7_drawYear_145 rfl tt2 (Nat.le_of_ble_eq_true rfl) (by omega) ?_
    refine wX7_passNights (sB := false) (by omega) rfl (by omega) (by omega) C1 (fun h2 E2 C2 => ?_)
    have C2' : CT h2 (rYear L true R) L := by
      unfold rYear; rw [if_neg (by omega), if_neg (by omega), if_neg (by omega)]
      by_cases u : R 8 < 9999
      · rw [if_pos u]
        have e : rNts L false true (Int.toNat 1) (rDraw R) = rPass L true (rDraw R) := rNts_t (n := 0) (by omega)
        rw [e] at C2; exact C2
      · rw [if_neg u]
        have e : rNts L false true (Int.toNat 1) (rDraw R) = rDraw R := rNts_f (n := 0) (by omega)
        rw [e] at C2; exact C2
    refine pv_i ?_
    refine wp_pop dX7_drawYear_148 rfl ?_
    refine wp_vret dX7_drawYear_149 rfl ?_
    first
      | exact hQ h2 (E1.T.tr E2) C2'
      | (have l0 : 0 ≤ R 9 / 6 % 10 := by omega
         have Cs := C1.snuff (l := R 9 / 6 % 10) l0 (by omega)
         rw [d10] at Cs
         refine hQ _ (E1.T.up (by omega)) ?_
         unfold rYear; rw [if_neg (by omega), if_pos (by omega)]; exact Cs)
  · refine wp_tsw 56 dX7_drawYear_26 (by omega) (by omega) (30) (by rw [c26]; rfl) rfl ?_
    refine al_0 dX7_drawYear_56 ?_
    refine il_2 dX7_drawYear_57 ?_
    refine al_0 dX7_drawYear_58 ?_
    refine g_X7_27 (9) dX7_drawYear_59 rfl tt2 (rr7_2 tt2) (by omega) ?_
    refine g_X7_87 dX7_drawYear_62 rfl tt9 ?_
    rw [r1]
    refine c_X7_196 dX7_drawYear_65 rfl (Nat.le_of_ble_eq_true rfl) (by omega) ?_
    refine wX7_among (by omega) (by omega) ?_
    refine pv_i ?_
    refine il_1 dX7_drawYear_68 ?_
    refine al_0 dX7_drawYear_69 ?_
    refine g_X7_12 (3) dX7_drawYear_70 rfl tt2 (rr7_0 tt2) (by omega) ?_
    refine g_X7_80 dX7_drawYear_73 rfl tt3 ?_
    rw [r0]
    refine c_X7_196 dX7_drawYear_76 rfl (Nat.le_of_ble_eq_true rfl) (by omega) ?_
    refine wX7_among (by omega) (by omega) ?_
    refine pv_i ?_
    refine il_2 dX7_drawYear_79 ?_
    refine al_0 dX7_drawYear_80 ?_
    refine g_X7_12 (3) dX7_drawYear_81 rfl tt2 (rr7_0 tt2) (by omega) ?_
    refine g_X7_80 dX7_drawYear_84 rfl tt3 ?_
    rw [r0]
    refine c_X7_196 dX7_drawYear_87 rfl (Nat.le_of_ble_eq_true rfl) (by omega) ?_
    refine wX7_among (by omega) (by omega) ?_
    refine pv_i ?_
    refine c_X7_199 dX7_drawYear_90 rfl tt2 (Nat.le_of_ble_eq_true rfl) (by omega) ?_
    refine wX7_argueInYear (by omega) C1 (fun nc => ?_) (fun yc h2 E2 C2 => ?_)
    · refine pv_n ?_
      refine wp_goto 149 dX7_drawYear_93 rfl ?_
      refine wp_vret dX7_drawYear_149 rfl ?_
      refine hQ h1 E1.T ?_
      unfold rYear; rw [if_pos (by omega), if_neg (by unfold canArg at nc; rw [d0, d1] at nc; exact nc)]; exact C1
    have C2' : CT h2 (rYear L true R) L := by
      unfold rYear; rw [if_pos (by omega), if_pos (by unfold canArg at yc; rw [d0, d1] at yc; exact yc)]; exact C2
    refine pv_n ?_
    refine wp_goto 149 dX7_drawYear_93 rfl ?_
    refine wp_vret dX7_drawYear_149 rfl ?_
    first
      | exact hQ h2 (E1.T.tr E2) C2'
      | (have l0 : 0 ≤ R 9 / 6 % 10 := by omega
         have Cs := C1.snuff (l := R 9 / 6 % 10) l0 (by omega)
         rw [d10] at Cs
         refine hQ _ (E1.T.up (by omega)) ?_
         unfold rYear; rw [if_neg (by omega), if_pos (by omega)]; exact Cs)
  · refine wp_tsw 56 dX7_drawYear_26 (by omega) (by omega) (30) (by rw [c26]; rfl) rfl ?_
    refine al_0 dX7_drawYear_56 ?_
    refine il_2 dX7_drawYear_57 ?_
    refine al_0 dX7_drawYear_58 ?_
    refine g_X7_27 (9) dX7_drawYear_59 rfl tt2 (rr7_2 tt2) (by omega) ?_
    refine g_X7_87 dX7_drawYear_62 rfl tt9 ?_
    rw [r1]
    refine c_X7_196 dX7_drawYear_65 rfl (Nat.le_of_ble_eq_true rfl) (by omega) ?_
    refine wX7_among (by omega) (by omega) ?_
    refine pv_i ?_
    refine il_1 dX7_drawYear_68 ?_
    refine al_0 dX7_drawYear_69 ?_
    refine g_X7_12 (3) dX7_drawYear_70 rfl tt2 (rr7_0 tt2) (by omega) ?_
    refine g_X7_80 dX7_drawYear_73 rfl tt3 ?_
    rw [r0]
    refine c_X7_196 dX7_drawYear_76 rfl (Nat.le_of_ble_eq_true rfl) (by omega) ?_
    refine wX7_among (by omega) (by omega) ?_
    refine pv_i ?_
    refine il_2 dX7_drawYear_79 ?_
    refine al_0 dX7_drawYear_80 ?_
    refine g_X7_12 (3) dX7_drawYear_81 rfl tt2 (rr7_0 tt2) (by omega) ?_
    refine g_X7_80 dX7_drawYear_84 rfl tt3 ?_
    rw [r0]
    refine c_X7_196 dX7_drawYear_87 rfl (Nat.le_of_ble_eq_true rfl) (by omega) ?_
    refine wX7_among (by omega) (by omega) ?_
    refine pv_i ?_
    refine c_X7_199 dX7_drawYear_90 rfl tt2 (Nat.le_of_ble_eq_true rfl) (by omega) ?_
    refine wX7_argueInYear (by omega) C1 (fun nc => ?_) (fun yc h2 E2 C2 => ?_)
    · refine pv_n ?_
      refine wp_goto 149 dX7_drawYear_93 rfl ?_
      refine wp_vret dX7_drawYear_149 rfl ?_
      refine hQ h1 E1.T ?_
      unfold rYear; rw [if_pos (by omega), if_neg (by unfold canArg at nc; rw [d0, d1] at nc; exact nc)]; exact C1
    have C2' : CT h2 (rYear L true R) L := by
      unfold rYear; rw [if_pos (by omega), if_pos (by unfold canArg at yc; rw [d0, d1] at yc; exact yc)]; exact C2
    refine pv_n ?_
    refine wp_goto 149 dX7_drawYear_93 rfl ?_
    refine wp_vret dX7_drawYear_149 rfl ?_
    first
      | exact hQ h2 (E1.T.tr E2) C2'
      | (have l0 : 0 ≤ R 9 / 6 % 10 := by omega
         have Cs := C1.snuff (l := R 9 / 6 % 10) l0 (by omega)
         rw [d10] at Cs
         refine hQ _ (E1.T.up (by omega)) ?_
         unfold rYear; rw [if_neg (by omega), if_pos (by omega)]; exact Cs)
  · refine wp_tsw 96 dX7_drawYear_26 (by omega) (by omega) (70) (by rw [c26]; rfl) rfl ?_
    refine al_0 dX7_drawYear_96 ?_
    refine g_X7_12 (3) dX7_drawYear_97 rfl tt2 (rr7_0 tt2) (by omega) ?_
    refine wp_dup dX7_drawYear_100 rfl ?_
    refine g_X7_127 dX7_drawYear_101 rfl tt3 ?_
    rw [rl]
    refine ic_1 dX7_drawYear_104 ?_
    refine il_2 dX7_drawYear_105 ?_
    refine bi_10 dX7_drawYear_106 ?_
    refine wp_iremN dX7_drawYear_108 (by omega) (by omega) ?_
    refine wp_ishl dX7_drawYear_109 ?_
    refine ic_m1 dX7_drawYear_110 ?_
    refine wp_ixor dX7_drawYear_111 ?_
    refine wp_iand dX7_drawYear_112 ?_
    refine p_X7_127 dX7_drawYear_113 rfl tt3 ?_
    refine wp_goto 149 dX7_drawYear_116 rfl ?_
    refine wp_vret dX7_drawYear_149 rfl ?_
    first
      | exact hQ h2 (E1.T.tr E2) C2'
      | (have l0 : 0 ≤ R 9 / 6 % 10 := by omega
         have Cs := C1.snuff (l := R 9 / 6 % 10) l0 (by omega)
         rw [d10] at Cs
         refine hQ _ (E1.T.up (by omega)) ?_
         unfold rYear; rw [if_neg (by omega), if_pos (by omega)]; exact Cs)
  · refine wp_tsw 119 dX7_drawYear_26 (by omega) (by omega) (93) (by rw [c26]; rfl) rfl ?_
    refine al_0 dX7_drawYear_119 ?_
    refine il_1 dX7_drawYear_120 ?_
    refine al_0 dX7_drawYear_121 ?_
    refine g_X7_12 (3) dX7_drawYear_122 rfl tt2 (rr7_0 tt2) (by omega) ?_
    refine g_X7_80 dX7_drawYear_125 rfl tt3 ?_
    rw [r0]
    refine c_X7_196 dX7_drawYear_128 rfl (Nat.le_of_ble_eq_true rfl) (by omega) ?_
    refine wX7_among (by omega) (by omega) ?_
    refine pv_i ?_
    refine ic_1 dX7_drawYear_131 ?_
    refine il_2 dX7_drawYear_132 ?_
    refine ic_5 dX7_drawYear_133 ?_
    refine wp_iremN dX7_drawYear_134 (by omega) (by omega) ?_
    refine wp_iadd dX7_drawYear_135 (r32 (by omega) (by omega)) ?_
    refine c_X7_203 dX7_drawYear_136 rfl tt2 (Nat.le_of_ble_eq_true rfl) (by omega) ?_
    refine wX7_pourInYear (by omega) C1 (by omega) (by omega) (fun nc => ?_) (fun yc h2 E2 C2 => ?_)
    · refine pv_n ?_
      refine wp_goto 149 dX7_drawYear_139 rfl ?_
      refine wp_vret dX7_drawYear_149 rfl ?_
      refine hQ h1 E1.T ?_
      unfold rYear; rw [if_neg (by omega), if_neg (by omega), if_pos (by omega), if_neg (fun z => nc (by unfold canPr; rw [d0, rDraw_o (by omega)]; exact z))]; exact C1
    have C2' : CT h2 (rYear L true R) L := by
      unfold rYear; rw [if_neg (by omega), if_neg (by omega), if_pos (by omega), if_pos (by unfold canPr at yc; rw [d0] at yc; rw [rDraw_o (by omega)] at yc; exact yc)]; exact C2
    refine pv_n ?_
    refine wp_goto 149 dX7_drawYear_139 rfl ?_
    refine wp_vret dX7_drawYear_149 rfl ?_
    first
      | exact hQ h2 (E1.T.tr E2) C2'
      | (have l0 : 0 ≤ R 9 / 6 % 10 := by omega
         have Cs := C1.snuff (l := R 9 / 6 % 10) l0 (by omega)
         rw [d10] at Cs
         refine hQ _ (E1.T.up (by omega)) ?_
         unfold rYear; rw [if_neg (by omega), if_pos (by omega)]; exact Cs)
