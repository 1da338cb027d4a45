section TELLD
variable {h h' : Nat → Int → Int} {R R' : Int → Int} {L : Laws} {k x p v d l oil slip : Int}
/-- rows that differ in the disputes alone -/
theorem rDisp_V (V : RV R) (n : R 1 < 8) (l0 : 0 ≤ l) (l1 : l < 1024) : RV (rDisp R l) := by
  obtain ⟨⟨v0, v1, v2, v3, v4, v5, v6, v7⟩, S, q0, q1, q2, q3, q4, q5, q6⟩ := V
  have A := fun j => rDisp_at (R := R) (l := l) (j := j)
  generalize rDisp R l = R' at *
  have z1 : R' 1 = R 1 + 1 := by rw [A, if_pos rfl]
  have zz : ∀ j : Int, j ≠ 1 → (j < 29 ∨ 36 < j) → R' j = R j := fun j hj hk => by rw [A, if_neg hj, if_neg (by omega)]
  have z0 := zz 0 (by omega) (by omega); have z2 := zz 2 (by omega) (by omega); have z3 := zz 3 (by omega) (by omega); have z4 := zz 4 (by omega) (by omega); have z5 := zz 5 (by omega) (by omega); have z6 := zz 6 (by omega) (by omega); have z7 := zz 7 (by omega) (by omega)
  refine ⟨⟨by omega, by omega, by omega, by omega, by omega, by omega, by omega, by omega⟩, S.cR z0 (fun k k0 k1 => zz _ (by omega) (by omega)) (fun k k0 k1 => zz _ (by omega) (by omega)), fun p p0 p1 => ?_, fun p p0 p1 => ?_, fun p p0 p1 => ?_, fun p p0 p1 => ?_, fun p p0 p1 => ?_, fun p p0 p1 => ?_, fun p p0 p1 => ?_⟩
  · rw [zz (21 + p) (by omega) (by omega)]; exact q0 p p0 (by omega)
  · rw [zz (25 + p) (by omega) (by omega)]; exact q1 p p0 (by omega)
  · by_cases e : p = R 1
    · rw [A, if_neg (by omega), if_pos (by omega)]; omega
    · rw [A, if_neg (by omega), if_neg (by omega)]; exact q2 p p0 (by omega)
  · rw [zz (37 + p) (by omega) (by omega)]; exact q3 p p0 (by omega)
  · rw [zz (43 + 2 * p) (by omega) (by omega), zz (44 + 2 * p) (by omega) (by omega), z0]; exact q4 p p0 (by omega)
  · rw [zz (59 + 3 * p) (by omega) (by omega), zz (60 + 3 * p) (by omega) (by omega), zz (61 + 3 * p) (by omega) (by omega), z0, z1]; have := q5 p p0 (by omega); omega
  · obtain ⟨s, s'⟩ := q6 p p0 (by omega)
    exact ⟨s.cR (zz _ (by omega) (by omega)) (fun k k0 k1 => zz _ (by omega) (by omega)) (fun k k0 k1 => zz _ (by omega) (by omega)), by rw [zz (83 + 39 * p) (by omega) (by omega), z0]; exact s'⟩
theorem rDisp_P (P : TPic h 2 R) (V : RV R) (n : R 1 < 8) (H : h' = up (up h 10 (R 1) l) 9 1 (R 1 + 1)) : TPic h' 2 (rDisp R l) := by
  have v := V.n
  have f := P.f
  have A := fun j => rDisp_at (R := R) (l := l) (j := j)
  generalize rDisp R l = R' at *
  have z1 : R' 1 = R 1 + 1 := by rw [A, if_pos rfl]
  have zz : ∀ j : Int, j ≠ 1 → (j < 29 ∨ 36 < j) → R' j = R j := fun j hj hk => by rw [A, if_neg hj, if_neg (by omega)]
  have E : ∀ o, o ≠ 9 → o ≠ 10 → h' o = h o := fun o a c => by funext k; rw [H, up_o a, up_o c]
  have E9 : h' 9 1 = R 1 + 1 := by rw [H, up_s]
  have E10 : ∀ k : Int, h' 10 k = if k = R 1 then l else h 10 k := fun k => by rw [H]; unfold up; simp
  clear H
  have z0 := zz 0 (by omega) (by omega); have z2 := zz 2 (by omega) (by omega); have z3 := zz 3 (by omega) (by omega); have z4 := zz 4 (by omega) (by omega); have z5 := zz 5 (by omega) (by omega); have z6 := zz 6 (by omega) (by omega); have z7 := zz 7 (by omega) (by omega)
  refine ⟨?_, ⟨?_, fun p p0 p1 => ?_⟩, ⟨?_, fun p p0 p1 => ?_⟩, ⟨?_, fun p p0 p1 => ?_⟩, ⟨?_, fun p p0 p1 => ?_⟩, ⟨?_, fun p p0 p1 => ?_⟩, ?_, fun j j0 j1 => ?_⟩
  · exact (P.1.c (fun o h0 h1 => E o (by omega) (by omega))).cR z0 (fun k k0 k1 => zz _ (by omega) (by omega)) (fun k k0 k1 => zz _ (by omega) (by omega)) v.1.2 V.w.2.2.2.2.2
  · show h' 7 1 = _; rw [E 7 (by decide) (by decide), z0]; exact f.2.1.1
  · show h' 8 p = R' (21 + p); rw [E 8 (by decide) (by decide), zz (21 + p) (by omega) (by omega)]; exact P.sl p p0 (by omega)
  · show h' 9 1 = _; rw [z1]; exact E9
  · show h' 10 p = R' (29 + p)
    rw [E10]
    by_cases e : p = R 1
    · rw [if_pos e, A, if_neg (by omega), if_pos (by omega)]
    · rw [if_neg e, A, if_neg (by omega), if_neg (by omega)]; exact P.di p p0 (by omega)
  · show h' 11 1 = _; rw [E 11 (by decide) (by decide), z5]; exact f.2.1.2.2.1
  · show h' 12 p = R' (37 + p); rw [E 12 (by decide) (by decide), zz (37 + p) (by omega) (by omega)]; exact P.st p p0 (by omega)
  · show h' 13 1 = _; rw [E 13 (by decide) (by decide), z6]; exact f.2.1.2.2.2.1
  · show h' 14 p = R' (43 + 2 * p) * 2 + R' (44 + 2 * p); rw [E 14 (by decide) (by decide), zz (43 + 2 * p) (by omega) (by omega), zz (44 + 2 * p) (by omega) (by omega)]; exact P.ve p p0 (by omega)
  · show h' 15 1 = _; rw [E 15 (by decide) (by decide), z7]; exact f.2.1.2.2.2.2
  · show h' 16 p = (R' (59 + 3 * p) * 4 + R' (60 + 3 * p)) * 10 + R' (61 + 3 * p); rw [E 16 (by decide) (by decide), zz (59 + 3 * p) (by omega) (by omega), zz (60 + 3 * p) (by omega) (by omega), zz (61 + 3 * p) (by omega) (by omega)]; exact P.sa p p0 (by omega)
  · rw [E 2 (by decide) (by decide), z2, z3, z4]; exact f.2.2
  · rw [E 2 (by decide) (by decide)]
    have s := P.2.2.2.2.2.2.2 j j0 (by omega)
    have sv := (V.sp j j0 (by omega)).1
    refine (s.c (fun o h0 h1 => E o (by omega) (by omega))).cR (zz _ (by omega) (by omega)) (fun k k0 k1 => zz _ (by omega) (by omega)) (fun k k0 k1 => zz _ (by omega) (by omega)) sv.2.1 ?_
    exact sv.2.2.2.2.2.2.2.2.2.2.2.1
theorem TC.c (t : TC R) (V : RV R) (e0 : R' 0 = R 0) (e4 : R' 4 = R 4) (e : ∀ j : Int, (13 ≤ j ∧ j < 21) ∨ (25 ≤ j ∧ j < 29) ∨ (83 ≤ j ∧ j < 1253) → R' j = R j) : TC R' := by
  intro j j0 j1
  rw [e4] at j1
  obtain ⟨a, c⟩ := t j j0 j1
  have v4 := V.n
  have sj := V.sp j j0 j1
  have sj0 := sj.1.1
  unfold nxP nxO nxW at *
  rw [e4, e0, e (83 + 39 * j) (by omega)]
  by_cases q : j + 1 < R 4
  · simp only [if_pos q] at *
    have sk := (V.sp (j + 1) (by omega) q).1.2.1
    rw [e (83 + 39 * (j + 1)) (by omega)]
    refine ⟨a, fun p p0 p1 => ?_⟩
    rw [e (89 + 39 * (j + 1) + 2 * p) (by omega), e (90 + 39 * (j + 1) + 2 * p) (by omega), e (25 + p) (by omega)]
    exact c p p0 p1
  · simp only [if_neg q] at *
    refine ⟨a, fun p p0 p1 => ?_⟩
    rw [e (13 + 2 * p) (by omega), e (14 + 2 * p) (by omega), e (25 + p) (by omega)]
    exact c p p0 p1
theorem rDisp_T (t : TC R) (V : RV R) (n : R 1 < 8) : TC (rDisp R l) := by
  have v := V.n
  exact t.c V (by rw [rDisp_at, if_neg (by decide), if_neg (by omega)]) (by rw [rDisp_at, if_neg (by decide), if_neg (by omega)]) (fun j hj => by rw [rDisp_at, if_neg (by omega), if_neg (by omega)])
theorem CT.disp (C : CT h R L) (n : R 1 < 8) (l0 : 0 ≤ l) (l1 : l < 1024) (H : h' = up (up h 10 (R 1) l) 9 1 (R 1 + 1)) : CT h' (rDisp R l) L ∧ eqT h h' := by
  have E : eqT h h' := by rw [H]; exact (eqT.rf.up (by omega)).up (by omega)
  have v := C.2.1.n
  refine ⟨⟨rDisp_P C.1 C.2.1 n H, rDisp_V C.2.1 n l0 l1, ?_⟩, E⟩
  rw [rDisp_at, if_neg (by decide), if_neg (by omega)]
  exact C.2.2.cT v.2.2.1.2 E
end TELLD
def canTell (R : Int → Int) (oil slip : Int) : Prop := 0 ≤ oil ∧ oil ≤ 99 ∧ 0 ≤ slip ∧ slip ≤ 10 ∧ R 0 < 4
def canTellD (R : Int → Int) (l : Int) : Prop := 0 ≤ l ∧ l ≤ 1023 ∧ R 1 < 8
def lampsFr (lamp : Int) : Nat → Int
  | 0 => 0
  | n + 1 => bor (lampsFr lamp n) (shl 1 ((lamp + n) % 10))
theorem lampsFr_t : ∀ l : Nat, l < 10 → ∀ n : Nat, n < 11 → 0 ≤ lampsFr l n ∧ lampsFr l n ≤ 1023 := by decide +kernel

theorem wX7_tellPerson {G : GT} {δ : Nat} {h hl : Nat → Int → Int} {b : Bool × Bool} {Q : V → Hp → Prop} {p x : Int} {R : Int → Int} {L : Laws} (hδ : δ ≤ 1680) (C : CT h R L) (hQ : ¬ canTell R p x → Q (vi (-1)) (HS h hl b)) (hQ2 : canTell R p x → ∀ h', eqT h h' → CT h' (rPerson R p x) L → Q (vi (R 0)) (HS h' hl b)) : WP G δ 0 0 MX7_tellPerson 0 [vr (2), vi p, vi x, vn] [] (HS h hl b) Q := by
  have f := C.1.f
  have n := C.2.1.n
  have w := C.2.1.w
  obtain ⟨s0, s3, s4, s1, s2, s5, s6, s7, s8⟩ := C.1.1.now
  refine il_1 dX7_tellPerson_0 ?_
  refine wp_if_lt 31 dX7_tellPerson_1 rfl (fun c1 => ?_) (fun c1 => ?_)
  · refine ic_m1 dX7_tellPerson_31 ?_
    refine wp_ireti dX7_tellPerson_32 rfl ?_
    exact hQ (by unfold canTell; omega)
  · refine il_1 dX7_tellPerson_4 ?_
    refine bi_99 dX7_tellPerson_5 ?_
    refine wp_icmp_gt 31 dX7_tellPerson_7 rfl (fun c7 => ?_) (fun c7 => ?_)
    · refine ic_m1 dX7_tellPerson_31 ?_
      refine wp_ireti dX7_tellPerson_32 rfl ?_
      exact hQ (by unfold canTell; omega)
    · refine il_2 dX7_tellPerson_10 ?_
      refine wp_if_lt 31 dX7_tellPerson_11 rfl (fun c11 => ?_) (fun c11 => ?_)
      · refine ic_m1 dX7_tellPerson_31 ?_
        refine wp_ireti dX7_tellPerson_32 rfl ?_
        exact hQ (by unfold canTell; omega)
      · refine il_2 dX7_tellPerson_14 ?_
        refine bi_10 dX7_tellPerson_15 ?_
        refine wp_icmp_gt 31 dX7_tellPerson_17 rfl (fun c17 => ?_) (fun c17 => ?_)
        · refine ic_m1 dX7_tellPerson_31 ?_
          refine wp_ireti dX7_tellPerson_32 rfl ?_
          exact hQ (by unfold canTell; omega)
        · refine al_0 dX7_tellPerson_20 ?_
          refine g_X7_23 (7) dX7_tellPerson_21 rfl tt2 (rr7_1 tt2) (by omega) ?_
          refine il_2 dX7_tellPerson_24 ?_
          refine c_X7_97 dX7_tellPerson_25 rfl tt7 (Nat.le_of_ble_eq_true rfl) (by omega) ?_
          refine wX6_add (by omega) tt7 tt8 (by decide) (by omega) (by omega) (fun nc => ?_) (fun yc => ?_)
          · refine pv_i ?_
            refine wp_if_ne 33 dX7_tellPerson_28 rfl (fun c28 => absurd rfl c28) (fun c28 => ?_)
            refine ic_m1 dX7_tellPerson_31 ?_
            refine wp_ireti dX7_tellPerson_32 rfl ?_
            exact hQ (by unfold canTell; omega)
          rw [f.2.1.1] at yc ⊢
          refine pv_i ?_
          refine wp_if_ne 33 dX7_tellPerson_28 rfl (fun c28 => ?_) (fun c28 => ?_)
          · refine al_0 dX7_tellPerson_33 ?_
            refine g_X7_23 (7) dX7_tellPerson_34 rfl tt2 (rr7_1 tt2) (by omega) ?_
            refine g_X7_87 dX7_tellPerson_37 rfl tt7 ?_
            rw [up_s]
            refine ic_1 dX7_tellPerson_40 ?_
            refine wp_isub dX7_tellPerson_41 (r32 (by omega) (by omega)) ?_
            rw [show R 0 + 1 - 1 = R 0 by omega]
            refine is_3 dX7_tellPerson_42 rfl (by decide) ?_
            refine al_0 dX7_tellPerson_43 ?_
            refine g_X7_12 (3) dX7_tellPerson_44 rfl tt2 (rr7_0 tt2) (by omega) ?_
            refine g_X7_100 (4) dX7_tellPerson_47 rfl tt3 (rr5_6 tt3) (by omega) ?_
            refine il_3 dX7_tellPerson_50 ?_
            refine il_1 dX7_tellPerson_51 ?_
            refine wp_iastore dX7_tellPerson_52 tt4 (by omega) (by omega) ?_
            refine al_0 dX7_tellPerson_53 ?_
            refine g_X7_12 (3) dX7_tellPerson_54 rfl tt2 (rr7_0 tt2) (by omega) ?_
            refine g_X7_104 (5) dX7_tellPerson_57 rfl tt3 (rr5_7 tt3) (by omega) ?_
            refine il_3 dX7_tellPerson_60 ?_
            refine ic_0 dX7_tellPerson_61 ?_
            refine wp_iastore dX7_tellPerson_62 tt5 (by omega) (by omega) ?_
            refine al_0 dX7_tellPerson_63 ?_
            refine g_X7_12 (3) dX7_tellPerson_64 rfl tt2 (rr7_0 tt2) (by omega) ?_
            refine al_0 dX7_tellPerson_67 ?_
            refine g_X7_23 (7) dX7_tellPerson_68 rfl tt2 (rr7_1 tt2) (by omega) ?_
            refine g_X7_87 dX7_tellPerson_71 rfl tt7 ?_
            rw [show up (up (up (up h 8 (R 0) x) 7 1 (R 0 + 1)) 4 (R 0) p) 5 (R 0) 0 7 1 = R 0 + 1 by unfold up; simp]
            refine p_X7_80 dX7_tellPerson_74 rfl tt3 ?_
            refine il_3 dX7_tellPerson_77 ?_
            refine wp_ireti dX7_tellPerson_78 rfl ?_
            obtain ⟨C', E'⟩ := C.person (oil := p) (slip := x) (by omega) (by omega) (by omega) (by omega) (by omega) rfl
            exact hQ2 (by unfold canTell; omega) _ E' C'
          · exact absurd c28 (by decide)

theorem wX7_tellDispute {G : GT} {δ : Nat} {h hl : Nat → Int → Int} {b : Bool × Bool} {Q : V → Hp → Prop} {l : Int} {R : Int → Int} {L : Laws} (hδ : δ ≤ 1680) (C : CT h R L) (hQ : ¬ canTellD R l → Q (vi (-1)) (HS h hl b)) (hQ2 : canTellD R l → ∀ h', eqT h h' → CT h' (rDisp R l) L → Q (vi (R 1)) (HS h' hl b)) : WP G δ 0 0 MX7_tellDispute 0 [vr (2), vi l] [] (HS h hl b) Q := by
  have f := C.1.f
  have n := C.2.1.n
  have w := C.2.1.w
  obtain ⟨s0, s3, s4, s1, s2, s5, s6, s7, s8⟩ := C.1.1.now
  refine il_1 dX7_tellDispute_0 ?_
  refine c_X7_107 dX7_tellDispute_1 rfl (Nat.le_of_ble_eq_true rfl) (by omega) ?_
  refine wX8_areLamps (by omega) ?_
  refine pv_i ?_
  refine wp_if_eq 30 dX7_tellDispute_4 rfl (fun c4 => ?_) (fun c4 => ?_)
  · rw [b2i_0] at c4
    refine ic_m1 dX7_tellDispute_30 ?_
    refine wp_ireti dX7_tellDispute_31 rfl ?_
    first
      | exact hQ (by unfold canTellD; omega)
      | (obtain ⟨C', E'⟩ := C.disp (l := l) (by omega) (by omega) (by omega) rfl
         exact qv (hQ2 (by unfold canTellD; omega) _ E' C') (by omega))
  · rw [b2i_n0] at c4
    refine al_0 dX7_tellDispute_7 ?_
    refine g_X7_27 (9) dX7_tellDispute_8 rfl tt2 (rr7_2 tt2) (by omega) ?_
    refine il_1 dX7_tellDispute_11 ?_
    refine c_X7_97 dX7_tellDispute_12 rfl tt9 (Nat.le_of_ble_eq_true rfl) (by omega) ?_
    refine wX6_add (by omega) tt9 tt10 (by decide) (by omega) (by omega) (fun nc => ?_) (fun yc => ?_)
    · refine pv_i ?_
      refine wp_if_eq 30 dX7_tellDispute_15 rfl (fun c15 => ?_) (fun c15 => absurd rfl c15)
      refine ic_m1 dX7_tellDispute_30 ?_
      refine wp_ireti dX7_tellDispute_31 rfl ?_
      exact hQ (by unfold canTellD; omega)
    rw [f.2.1.2.1] at yc ⊢
    refine pv_i ?_
    refine wp_if_eq 30 dX7_tellDispute_15 rfl (fun c15 => ?_) (fun c15 => ?_)
    · exact absurd c15 (by decide)
    · refine al_0 dX7_tellDispute_18 ?_
      refine g_X7_27 (9) dX7_tellDispute_19 rfl tt2 (rr7_2 tt2) (by omega) ?_
      refine g_X7_87 dX7_tellDispute_22 rfl tt9 ?_
      rw [up_s]
      refine ic_1 dX7_tellDispute_25 ?_
      refine wp_isub dX7_tellDispute_26 (r32 (by omega) (by omega)) ?_
      refine wp_goto 31 dX7_tellDispute_27 rfl ?_
      refine wp_ireti dX7_tellDispute_31 rfl ?_
      first
        | exact hQ (by unfold canTellD; omega)
        | (obtain ⟨C', E'⟩ := C.disp (l := l) (by omega) (by omega) (by omega) rfl
           exact qv (hQ2 (by unfold canTellD; omega) _ E' C') (by omega))

theorem wX7_lampsFrom_4 {G : GT} {δ : Nat} {h hl : Nat → Int → Int} {b : Bool × Bool} {Q : V → Hp → Prop} {l m : Int} (hδ : δ ≤ 1700) (l0 : 0 ≤ l) (l1 : l < 10) (m0 : 0 ≤ m) (m1 : m < 10) : ∀ (n : Nat) (v : Int) (i : Int), ((m + 1 - i).toNat) < n → (0 ≤ i) → (i ≤ m + 1) → (v = lampsFr l i.toNat) → (Q (vi (lampsFr l (m + 1).toNat)) (HS h hl b)) → WP G δ 0 0 MX7_lampsFrom 4 [vi l, vi m, vi v, vi i] [] (HS h hl b) Q := by
  intro n
  induction n with
  | zero => intro v i hlt; exact absurd hlt (Nat.not_lt_zero _)
  | succ n ih =>
    intro v i hlt i0 i1 hv hQ
    refine il_3 dX7_lampsFrom_4 ?_
    refine il_1 dX7_lampsFrom_5 ?_
    refine wp_icmp_gt 32 dX7_lampsFrom_6 rfl (fun c6 => ?_) (fun c6 => ?_)
    · have e : i = m + 1 := by omega
      subst e
      refine il_2 dX7_lampsFrom_32 ?_
      refine wp_ireti dX7_lampsFrom_33 rfl ?_
      exact qv hQ hv.symm
    · refine il_3 dX7_lampsFrom_9 ?_
      refine bi_10 dX7_lampsFrom_10 ?_
      refine wp_icmp_ge 32 dX7_lampsFrom_12 rfl (fun c12 => ?_) (fun c12 => ?_)
      · omega
      · refine il_2 dX7_lampsFrom_15 ?_
        refine ic_1 dX7_lampsFrom_16 ?_
        refine il_0 dX7_lampsFrom_17 ?_
        refine il_3 dX7_lampsFrom_18 ?_
        refine wp_iadd dX7_lampsFrom_19 (r32 (by omega) (by omega)) ?_
        refine bi_10 dX7_lampsFrom_20 ?_
        refine wp_iremN dX7_lampsFrom_22 (by omega) (by omega) ?_
        refine wp_ishl dX7_lampsFrom_23 ?_
        refine wp_ior dX7_lampsFrom_24 ?_
        refine is_2 dX7_lampsFrom_25 rfl (by decide) ?_
        refine ii_3 dX7_lampsFrom_26 rfl (by decide) ⟨by decide, by decide⟩ (r32 (by omega) (by omega)) ?_
        refine wp_goto 4 dX7_lampsFrom_29 rfl ?_
        refine ih _ (i + 1) (by omega) (by omega) (by omega) ?_ hQ
        rw [show (i + 1).toNat = i.toNat + 1 by omega, hv, show lampsFr l (i.toNat + 1) = bor (lampsFr l i.toNat) (shl 1 ((l + (i.toNat : Int)) % 10)) from rfl, show ((i.toNat : Nat) : Int) = i by omega]

theorem wX7_lampsFrom {G : GT} {δ : Nat} {h hl : Nat → Int → Int} {b : Bool × Bool} {Q : V → Hp → Prop} {l m : Int} (hδ : δ ≤ 1700) (l0 : 0 ≤ l) (l1 : l < 10) (m0 : 0 ≤ m) (m1 : m < 10) (hQ : Q (vi (lampsFr l (m + 1).toNat)) (HS h hl b)) : WP G δ 0 0 MX7_lampsFrom 0 [vi l, vi m, vn, vn] [] (HS h hl b) Q := by
  refine ic_0 dX7_lampsFrom_0 ?_
  refine is_2 dX7_lampsFrom_1 rfl (by decide) ?_
  refine ic_0 dX7_lampsFrom_2 ?_
  refine is_3 dX7_lampsFrom_3 rfl (by decide) ?_
  exact wX7_lampsFrom_4 hδ l0 l1 m0 m1 _ 0 0 (Nat.lt_succ_self _) (by omega) (by omega) rfl hQ
