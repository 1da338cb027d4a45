section BACKS
variable {h h' : Nat → Int → Int} {R R' : Int → Int} {L : Laws} {k x p v d l : Int}
theorem rBack_at {j : Int} : rBack R j = if j = 4 then R 4 - 1 else if 8 ≤ j ∧ j < 21 then (if 13 ≤ j ∧ R (83 + 39 * (R 4 - 1)) ≤ (j - 13) / 2 ∧ (j - 13) / 2 < R 0 then (if (j - 13) % 2 = 0 then R (25 + (j - 13) / 2) else 0) else R (83 + 39 * (R 4 - 1) + 1 + (j - 8))) else if 1253 ≤ j ∧ j < 1278 then R (83 + 39 * (R 4 - 1) + 14 + (j - 1253)) else R j := rfl
theorem rBack_o {j : Int} (e : j ≠ 4) (q : j < 8 ∨ (20 < j ∧ j < 1253)) : rBack R j = R j := by
  rw [rBack_at, if_neg e, if_neg (by omega), if_neg (by omega)]
theorem rBack_4 : rBack R 4 = R 4 - 1 := if_pos rfl
theorem rBack_n {j : Int} (i : Int) (e : j = 7 + i) (a : 1 ≤ i) (c : i ≤ 5) : rBack R j = R (83 + 39 * (R 4 - 1) + i) := by
  rw [rBack_at, if_neg (by omega), if_pos (by omega), if_neg (by omega)]
  congr 1; omega
theorem rBack_p (p0 : 0 ≤ p) (p1 : p < 4) : rBack R (13 + 2 * p) = if R (83 + 39 * (R 4 - 1)) ≤ p ∧ p < R 0 then R (25 + p) else R (83 + 39 * (R 4 - 1) + 6 + 2 * p) := by
  rw [rBack_at, if_neg (by omega), if_pos (by omega)]
  have e1 : (13 + 2 * p - 13) / 2 = p := by omega
  have e2 : (13 + 2 * p - 13) % 2 = 0 := by omega
  rw [e1, if_pos e2]
  by_cases q : R (83 + 39 * (R 4 - 1)) ≤ p ∧ p < R 0
  · rw [if_pos q, if_pos ⟨by omega, q.1, q.2⟩]
  · rw [if_neg q, if_neg (fun z => q z.2)]; congr 1; omega
theorem rBack_w (p0 : 0 ≤ p) (p1 : p < 4) : rBack R (14 + 2 * p) = if R (83 + 39 * (R 4 - 1)) ≤ p ∧ p < R 0 then 0 else R (83 + 39 * (R 4 - 1) + 7 + 2 * p) := by
  rw [rBack_at, if_neg (by omega), if_pos (by omega)]
  have e1 : (14 + 2 * p - 13) / 2 = p := by omega
  have e2 : ¬ (14 + 2 * p - 13) % 2 = 0 := by omega
  rw [e1, if_neg e2]
  by_cases q : R (83 + 39 * (R 4 - 1)) ≤ p ∧ p < R 0
  · rw [if_pos q, if_pos ⟨by omega, q.1, q.2⟩]
  · rw [if_neg q, if_neg (fun z => q z.2)]; congr 1; omega
theorem rBack_k (k0 : 0 ≤ k) (k1 : k < 25) : rBack R (1253 + k) = R (83 + 39 * (R 4 - 1) + 14 + k) := by
  rw [rBack_at, if_neg (by omega), if_neg (by omega), if_pos (by omega)]; congr 1; omega
theorem rBack_N : nowEq (ur R 4 (R 4 - 1)) (rBack R) := fun j hj => by
  unfold ur
  by_cases e : j = 4
  · rw [if_pos e, e, rBack_4]
  · rw [if_neg e]; exact rBack_o e hj
theorem SVs {j : Int} (P : SV R (83 + 39 * j) (84 + 39 * j) (97 + 39 * j)) : (0 ≤ R (83 + 39 * j) ∧ R (83 + 39 * j) ≤ 4) ∧ (0 ≤ R (83 + 39 * j + 1) ∧ R (83 + 39 * j + 1) ≤ 9999) ∧ (0 ≤ R (83 + 39 * j + 2) ∧ R (83 + 39 * j + 2) < 30869) ∧ (0 ≤ R (83 + 39 * j + 3) ∧ R (83 + 39 * j + 3) < 1024) ∧ (0 ≤ R (83 + 39 * j + 4) ∧ R (83 + 39 * j + 4) ≤ 9) ∧ (0 ≤ R (83 + 39 * j + 5) ∧ R (83 + 39 * j + 5) ≤ 25) ∧
  (∀ p : Int, 0 ≤ p → p < R (83 + 39 * j) → 0 ≤ R (83 + 39 * j + 6 + 2 * p) ∧ R (83 + 39 * j + 6 + 2 * p) ≤ 99) ∧ (∀ p : Int, 0 ≤ p → p < R (83 + 39 * j) → 0 ≤ R (83 + 39 * j + 7 + 2 * p) ∧ R (83 + 39 * j + 7 + 2 * p) ≤ 9999) ∧ (∀ k : Int, 0 ≤ k → k < R (83 + 39 * j + 5) → 0 ≤ R (83 + 39 * j + 14 + k) ∧ R (83 + 39 * j + 14 + k) < 400000000) := by
  obtain ⟨q0, q0', q1, q1', q2, q2', q3, q3', q4, q4', q5, q5', q6, q7, q8⟩ := P
  have a1 : 84 + 39 * j = 83 + 39 * j + 1 := by omega
  have a2 : 84 + 39 * j + 1 = 83 + 39 * j + 2 := by omega
  have a3 : 84 + 39 * j + 2 = 83 + 39 * j + 3 := by omega
  have a4 : 84 + 39 * j + 3 = 83 + 39 * j + 4 := by omega
  have a5 : 84 + 39 * j + 4 = 83 + 39 * j + 5 := by omega
  rw [a2] at q2 q2'; rw [a3] at q3 q3'; rw [a4] at q4 q4'; rw [a5] at q5 q5' q8; rw [a1] at q1 q1'
  refine ⟨⟨q0, q0'⟩, ⟨q1, q1'⟩, ⟨q2, q2'⟩, ⟨q3, q3'⟩, ⟨q4, q4'⟩, ⟨q5, q5'⟩, fun p p0 p1 => ?_, fun p p0 p1 => ?_, fun k k0 k1 => ?_⟩
  · have := q6 p p0 p1; rwa [show 84 + 39 * j + 5 + 2 * p = 83 + 39 * j + 6 + 2 * p by omega] at this
  · have := q7 p p0 p1; rwa [show 84 + 39 * j + 6 + 2 * p = 83 + 39 * j + 7 + 2 * p by omega] at this
  · have := q8 k k0 k1; rwa [show 97 + 39 * j + k = 83 + 39 * j + 14 + k by omega] at this
theorem SPRs {j : Int} {o : Nat} (P : SPR h o R (83 + 39 * j) (84 + 39 * j) (97 + 39 * j)) : h o 0 = R (83 + 39 * j) ∧ h o 3 = R (83 + 39 * j + 1) ∧ h o 4 = R (83 + 39 * j + 2) ∧ h o 1 = R (83 + 39 * j + 3) ∧ h o 2 = R (83 + 39 * j + 4) ∧ h o 5 = R (83 + 39 * j + 5) ∧
  (∀ p : Int, 0 ≤ p → p < R (83 + 39 * j) → h (o + 1) p = R (83 + 39 * j + 6 + 2 * p)) ∧ (∀ p : Int, 0 ≤ p → p < R (83 + 39 * j) → h (o + 2) p = R (83 + 39 * j + 7 + 2 * p)) ∧ (∀ k : Int, 0 ≤ k → k < R (83 + 39 * j + 5) → h (o + 3) k = R (83 + 39 * j + 14 + k)) := by
  obtain ⟨q0, q1, q2, q3, q4, q5, q6, q7, q8⟩ := P
  rw [show 84 + 39 * j = 83 + 39 * j + 1 by omega] at q1
  rw [show 84 + 39 * j + 1 = 83 + 39 * j + 2 by omega] at q2
  rw [show 84 + 39 * j + 2 = 83 + 39 * j + 3 by omega] at q3
  rw [show 84 + 39 * j + 3 = 83 + 39 * j + 4 by omega] at q4
  rw [show 84 + 39 * j + 4 = 83 + 39 * j + 5 by omega] at q5 q8
  refine ⟨q0, q1, q2, q3, q4, q5, fun p p0 p1 => ?_, fun p p0 p1 => ?_, fun k k0 k1 => ?_⟩
  · rw [q6 p p0 p1]; congr 1; omega
  · rw [q7 p p0 p1]; congr 1; omega
  · rw [q8 k k0 k1]; congr 1; omega
theorem rBack_SV (V : RV R) (s : 0 < R 4) : SV (rBack R) 0 8 1253 := by
  have v0 := V.n.1
  obtain ⟨q0, q1, q2, q3, q4, q5, q6, q7, q8⟩ := SVs (V.sp (R 4 - 1) (by omega) (by omega)).1
  refine SV.mk ⟨?_, ?_, ?_, ?_, ?_, ?_, fun p p0 p1 => ?_, fun p p0 p1 => ?_, fun k k0 k1 => ?_⟩
  · rw [rBack_o (by decide) (by omega)]; exact v0
  · rw [rBack_n 1 (by decide) (by decide) (by decide)]; exact q1
  · rw [rBack_n 2 (by decide) (by decide) (by decide)]; exact q2
  · rw [rBack_n 3 (by decide) (by decide) (by decide)]; exact q3
  · rw [rBack_n 4 (by decide) (by decide) (by decide)]; exact q4
  · rw [rBack_n 5 (by decide) (by decide) (by decide)]; exact q5
  · rw [rBack_o (by decide) (by omega)] at p1
    rw [rBack_p p0 (by omega)]
    split
    · exact V.td p p0 p1
    · exact q6 p p0 (by omega)
  · rw [rBack_o (by decide) (by omega)] at p1
    rw [rBack_w p0 (by omega)]
    split
    · omega
    · exact q7 p p0 (by omega)
  · rw [rBack_n 5 (by decide) (by decide) (by decide)] at k1
    have k2 : k < R (83 + 39 * (R 4 - 1) + 5) := k1
    rw [rBack_k k0 (by omega)]
    exact q8 k k0 k2
theorem RV.u4 (V : RV R) (s : 0 < R 4) : RV (ur R 4 (R 4 - 1)) := by
  have v4 := V.n.2.2.2.2.1
  refine V.st4 (fun j a c => ur_n a) (by rw [ur_s]; omega) (fun j j0 j1 => ?_)
  rw [ur_s] at j1
  have := V.sp j j0 (by omega)
  rw [ur_n (by omega)]
  exact ⟨this.1.cR (ur_n (by omega)) (fun k k0 k1 => ur_n (by omega)) (fun k k0 k1 => ur_n (by omega)), this.2⟩
theorem rBack_V (V : RV R) (s : 0 < R 4) : RV (rBack R) := (V.u4 s).nw rBack_N (rBack_SV V s)
theorem rBack_T (t : TC R) (V : RV R) (s : 0 < R 4) : TC (rBack R) := by
  intro j j0 j1
  rw [rBack_4] at j1
  obtain ⟨a, c⟩ := t j j0 (by omega)
  have vn := V.n.1
  have sj := (V.sp j j0 (by omega)).1.1
  unfold nxP nxO nxW at *
  rw [rBack_4, rBack_o (j := 0) (by decide) (by omega), rBack_o (j := 83 + 39 * j) (by omega) (by have := V.n.2.2.2.2.1; omega)]
  rw [if_pos (by omega)] at a c
  have v4 := V.n.2.2.2.2.1
  have sp := (V.sp (j + 1) (by omega) (by omega)).1.2.1
  by_cases q : j + 1 < R 4 - 1
  · simp only [if_pos q]
    rw [rBack_o (j := 83 + 39 * (j + 1)) (by omega) (by omega)]
    refine ⟨a, fun p p0 p1 => ?_⟩
    have := c p p0 p1
    rw [if_pos (by omega), if_pos (by omega)] at this
    rw [rBack_o (by omega) (by omega), rBack_o (by omega) (by omega), rBack_o (by omega) (by omega)]
    exact this
  · simp only [if_neg q]
    have e : j + 1 = R 4 - 1 := by omega
    have l := (t (R 4 - 1) (by omega) (by omega)).1
    unfold nxP at l
    rw [if_neg (by omega), ← e] at l
    refine ⟨by omega, fun p p0 p1 => ?_⟩
    rw [rBack_p (by omega) (by omega), rBack_w (by omega) (by omega), rBack_o (j := 25 + p) (by omega) (by omega), ← e]
    by_cases w : R (83 + 39 * (j + 1)) ≤ p ∧ p < R 0
    · rw [if_pos w, if_pos w]; exact ⟨rfl, rfl⟩
    · rw [if_neg w, if_neg w]
      have := c p p0 (by omega)
      rw [if_pos (by omega), if_pos (by omega)] at this
      rw [show 83 + 39 * (j + 1) + 6 + 2 * p = 89 + 39 * (j + 1) + 2 * p by omega, show 83 + 39 * (j + 1) + 7 + 2 * p = 90 + 39 * (j + 1) + 2 * p by omega]
      exact this
theorem TPic.back (P : TPic h 2 R) (V : RV R) (t : TC R) (s : 0 < R 4) {o : Nat} (ho : o = 38 + 4 * ((h 2 10 + (R 4 - 1)) % 30).toNat) (H : h' = stR (up h 2 11 (R 4 - 1)) 3 o (up h 2 11 (R 4 - 1) o 0)) : TPic h' 2 (rBack R) ∧ eqT h h' := by
  have f := P.f
  have v4 := V.n.2.2.2.2.1
  have P1 : TPic (up h 2 11 (R 4 - 1)) 2 (ur R 4 (R 4 - 1)) := by
    refine P.st4 V (fun j a c => ur_n a) (fun q hq => by funext j; exact up_o (by omega)) (fun k k0 k1 => up_k k1) (by rw [up_s, ur_s]) (by rw [up_k (by decide)]; exact f.2.2.2.2.2) (fun j j0 j1 => ?_)
    rw [ur_s] at j1
    rw [up_k (by decide)]
    have sp := P.2.2.2.2.2.2.2 j j0 (by omega)
    have sv := (V.sp j j0 (by omega)).1
    refine (sp.c (fun q q0 q1 => by funext z; exact up_o (by omega))).cR (ur_n (by omega)) (fun k k0 k1 => ur_n (by omega)) (fun k k0 k1 => ur_n (by omega)) sv.2.1 ?_
    exact sv.2.2.2.2.2.2.2.2.2.2.2.1
  have V1 := V.u4 s
  have o38 : 38 ≤ o := by omega
  have so := SPRs (P.2.2.2.2.2.2.2 (R 4 - 1) (by omega) (by omega))
  rw [show 2 + 36 + 4 * ((h 2 10 + (R 4 - 1)) % 30).toNat = o by omega] at so
  obtain ⟨q0, q1, q2, q3, q4, q5, q6, q7, q8⟩ := so
  obtain ⟨m0, m1, m2, m3, m4, m5, m6, m7, m8⟩ := P.1.now
  have sv := SVs (V.sp (R 4 - 1) (by omega) (by omega)).1
  have U : ∀ z k, z ≠ 2 → up h 2 11 (R 4 - 1) z k = h z k := fun z k e => up_o e
  have E : eqN (up h 2 11 (R 4 - 1)) h' := fun z hz => by
    funext k
    rw [H]; unfold stR
    simp at hz
    rw [if_neg (by omega), if_neg (by omega), if_neg (by omega), if_neg (by omega)]
  have e0 : up h 2 11 (R 4 - 1) o 0 = R (83 + 39 * (R 4 - 1)) := by rw [U o 0 (by omega)]; exact q0
  rw [e0] at H
  have r0 : rBack R 0 = R 0 := rBack_o (by decide) (by omega)
  refine ⟨P1.nw V1 rBack_N (SPR.mk ⟨?_, ?_, ?_, ?_, ?_, ?_, fun p p0 p1 => ?_, fun p p0 p1 => ?_, fun k k0 k1 => ?_⟩) E, fun z hz => ?_⟩
  · rw [H, r0]; unfold stR; rw [if_neg (by omega), if_neg (by omega), if_neg (by omega), if_neg (by omega), U 3 0 (by decide)]; exact m0
  · rw [H, rBack_n 1 (by decide) (by decide) (by decide)]; unfold stR; rw [if_pos (by omega), U o 3 (by omega)]; exact q1
  · rw [H, rBack_n 2 (by decide) (by decide) (by decide)]; unfold stR; rw [if_pos (by omega), U o 4 (by omega)]; exact q2
  · rw [H, rBack_n 3 (by decide) (by decide) (by decide)]; unfold stR; rw [if_pos (by omega), U o 1 (by omega)]; exact q3
  · rw [H, rBack_n 4 (by decide) (by decide) (by decide)]; unfold stR; rw [if_pos (by omega), U o 2 (by omega)]; exact q4
  · rw [H, rBack_n 5 (by decide) (by decide) (by decide)]; unfold stR; rw [if_pos (by omega), U o 5 (by omega)]; exact q5
  · rw [r0] at p1
    have vn := V.n.1
    rw [H, rBack_p p0 (by omega)]; unfold stR; rw [if_neg (by omega)]
    by_cases w : p < R (83 + 39 * (R 4 - 1))
    · rw [if_pos (by omega), if_neg (by omega), U _ _ (by omega)]; exact q6 p p0 w
    · rw [if_neg (by omega), if_neg (by omega), if_neg (by omega), if_pos (by omega), U _ _ (by omega), m6 p p0 p1]
      have := (t (R 4 - 1) (by omega) (by omega)).2 p (by omega) (by unfold nxP; rw [if_neg (by omega)]; exact p1)
      unfold nxO at this
      rw [if_neg (by omega)] at this
      exact this.1
  · rw [r0] at p1
    have vn := V.n.1
    rw [H, rBack_w p0 (by omega)]; unfold stR; rw [if_neg (by omega), if_neg (by omega)]
    by_cases w : p < R (83 + 39 * (R 4 - 1))
    · rw [if_pos (by omega), if_neg (by omega), U _ _ (by omega)]; exact q7 p p0 w
    · rw [if_neg (by omega), if_neg (by omega), if_pos (by omega), U _ _ (by omega), m7 p p0 p1]
      have := (t (R 4 - 1) (by omega) (by omega)).2 p (by omega) (by unfold nxP; rw [if_neg (by omega)]; exact p1)
      unfold nxW at this
      rw [if_neg (by omega)] at this
      exact this.2
  · rw [rBack_n 5 (by decide) (by decide) (by decide)] at k1
    have k2 : k < R (83 + 39 * (R 4 - 1) + 5) := k1
    rw [H, rBack_k k0 (by omega)]; unfold stR; rw [if_neg (by omega), if_neg (by omega), if_neg (by omega), if_pos (by omega), U _ _ (by omega)]
    exact q8 k k0 k2
  · rw [E z (by simp; omega)]
    funext k; exact U z k (by omega)
end BACKS

theorem wX7_takeBack {G : GT} {δ : Nat} {h hl : Nat → Int → Int} {b : Bool × Bool} {Q : V → Hp → Prop} {R : Int → Int} {L : Laws} (hδ : δ ≤ 1680) (C : CT h R L) (t : TC R) (hQ : R 4 = 0 → Q (vi (-1)) (HS h hl b)) (hQ2 : 0 < R 4 → ∀ h', eqT h h' → CT h' (rBack R) L → Q (vi (R 4 - 1)) (HS h' hl b)) : WP G δ 0 0 MX7_takeBack 0 [vr (2)] [] (HS h hl b) Q := by
  have f := C.1.f
  have v4 := C.2.1.n
  have g10 := f.2.2.2.2.2
  have g11 := f.2.2.2.2.1
  refine al_0 dX7_takeBack_0 ?_
  refine g_X7_77 dX7_takeBack_1 rfl tt2 ?_
  rw [g11]
  refine wp_if_ne 9 dX7_takeBack_4 rfl (fun c4 => ?_) (fun c4 => ?_)
  · have s4 : 0 < R 4 := by omega
    have to := (tt_ahead ((h 2 10 + (R 4 - 1)) % 30).toNat (by omega)).1
    have so := (SPRs (C.1.2.2.2.2.2.2.2 (R 4 - 1) (by omega) (by omega))).1
    rw [show 2 + 36 + 4 * ((h 2 10 + (R 4 - 1)) % 30).toNat = 38 + 4 * ((h 2 10 + (R 4 - 1)) % 30).toNat by omega] at so
    have sv := (SVs (C.2.1.sp (R 4 - 1) (by omega) (by omega)).1).1
    refine al_0 dX7_takeBack_9 ?_
    refine wp_dup dX7_takeBack_10 rfl ?_
    refine g_X7_77 dX7_takeBack_11 rfl tt2 ?_
    rw [g11]
    refine ic_1 dX7_takeBack_14 ?_
    refine wp_isub dX7_takeBack_15 (r32 (by omega) (by omega)) ?_
    refine p_X7_77 dX7_takeBack_16 rfl tt2 ?_
    refine al_0 dX7_takeBack_19 ?_
    refine g_X7_12 (3) dX7_takeBack_20 rfl tt2 (rr7_0 tt2) (by omega) ?_
    refine al_0 dX7_takeBack_23 ?_
    refine g_X7_49 (18) dX7_takeBack_24 rfl tt2 (rr7_9 tt2) (by omega) ?_
    refine al_0 dX7_takeBack_27 ?_
    refine g_X7_74 dX7_takeBack_28 rfl tt2 ?_
    rw [up_k (o := 2) (q := 2) (k := 11) (j := 10) (by decide)]
    refine al_0 dX7_takeBack_31 ?_
    refine g_X7_77 dX7_takeBack_32 rfl tt2 ?_
    rw [up_s]
    refine wp_iadd dX7_takeBack_35 (r32 (by omega) (by omega)) ?_
    refine bi_30 dX7_takeBack_36 ?_
    refine wp_iremN dX7_takeBack_38 (by omega) (by omega) ?_
    refine wp_aaload (38 + 4 * ((h 2 10 + (R 4 - 1)) % 30).toNat) dX7_takeBack_39 tt18 (Or.inr rfl) (by omega) (by omega) (rr18 (by omega) (by omega)) (by omega) ?_
    refine c_X7_158 dX7_takeBack_40 rfl tt3 (Nat.le_of_ble_eq_true rfl) (by omega) ?_
    refine wX5_restore (by omega) tt3 to (by omega) (by rw [up_o (by omega)]; omega) (by rw [up_o (by omega)]; omega) ?_
    obtain ⟨P', E'⟩ := C.1.back C.2.1 t (by omega) rfl rfl
    obtain ⟨h', e'⟩ : ∃ h', h' = stR (up h 2 11 (R 4 - 1)) 3 (38 + 4 * ((h 2 10 + (R 4 - 1)) % 30).toNat) (up h 2 11 (R 4 - 1) (38 + 4 * ((h 2 10 + (R 4 - 1)) % 30).toNat) 0) := ⟨_, rfl⟩
    rw [← e'] at P' E' ⊢
    refine pv_n ?_
    refine al_0 dX7_takeBack_43 ?_
    refine g_X7_77 dX7_takeBack_44 rfl tt2 ?_
    have g' := P'.f.2.2.2.2.1
    rw [rBack_4] at g'
    rw [g']
    refine wp_ireti dX7_takeBack_47 rfl ?_
    exact hQ2 (by omega) _ E' ⟨P', rBack_V C.2.1 (by omega), by rw [rBack_o (by decide) (by omega)]; exact C.2.2.cT v4.2.2.1.2 E'⟩
  · refine ic_m1 dX7_takeBack_7 ?_
    refine wp_ireti dX7_takeBack_8 rfl ?_
    exact hQ (by omega)
