/-! rows that agree in their cells -/
def eqR (R R' : Int → Int) : Prop := ∀ k : Int, 0 ≤ k → k < 1278 → R' k = R k
section ROW
variable {R R' : Int → Int} {h : Nat → Int → Int}
theorem SV.e {a n b : Int} (S : SV R a n b) (e : eqR R R') (a0 : 0 ≤ a) (a1 : a < 1278) (n0 : 0 ≤ n) (n1 : n + 13 ≤ 1278) (b0 : 0 ≤ b) (b1 : b + 25 ≤ 1278) : SV R' a n b := by
  obtain ⟨s1, s2, s3, s4, s5, s6, s7, s8, s9, s10, s11, s12, s13, s14, s15⟩ := S
  have ea := e a a0 a1
  have e4 := e (n + 4) (by omega) (by omega)
  unfold SV
  rw [ea, e n n0 (by omega), e (n + 1) (by omega) (by omega), e (n + 2) (by omega) (by omega), e (n + 3) (by omega) (by omega), e4]
  refine ⟨s1, s2, s3, s4, s5, s6, s7, s8, s9, s10, s11, s12, fun p p0 p1 => ?_, fun p p0 p1 => ?_, fun k k0 k1 => ?_⟩
  · rw [e _ (by omega) (by omega)]; exact s13 p p0 p1
  · rw [e _ (by omega) (by omega)]; exact s14 p p0 p1
  · rw [e _ (by omega) (by omega)]; exact s15 k k0 k1
theorem RV.e (V : RV R) (e : eqR R R') : RV R' := by
  have n := V.n
  have e0 := e 0 (by omega) (by omega); have e1 := e 1 (by omega) (by omega); have e2 := e 2 (by omega) (by omega); have e3 := e 3 (by omega) (by omega)
  have e4 := e 4 (by omega) (by omega); have e5 := e 5 (by omega) (by omega); have e6 := e 6 (by omega) (by omega); have e7 := e 7 (by omega) (by omega)
  refine ⟨by unfold RVn; rw [e0, e1, e2, e3, e4, e5, e6, e7]; exact V.1, V.2.1.e e (by omega) (by omega) (by omega) (by omega) (by omega) (by omega), fun p p0 p1 => ?_, fun p p0 p1 => ?_, fun p p0 p1 => ?_, fun p p0 p1 => ?_, fun p p0 p1 => ?_, fun p p0 p1 => ?_, fun j j0 j1 => ?_⟩
  · rw [e0] at p1; rw [e _ (by omega) (by omega)]; exact V.sl p p0 p1
  · rw [e0] at p1; rw [e _ (by omega) (by omega)]; exact V.td p p0 p1
  · rw [e1] at p1; rw [e _ (by omega) (by omega)]; exact V.di p p0 p1
  · rw [e5] at p1; rw [e _ (by omega) (by omega)]; exact V.st p p0 p1
  · rw [e6] at p1; rw [e _ (by omega) (by omega), e0, e (44 + 2 * p) (by omega) (by omega)]; exact V.ve p p0 p1
  · rw [e7] at p1; rw [e _ (by omega) (by omega), e0, e1, e (60 + 3 * p) (by omega) (by omega), e (61 + 3 * p) (by omega) (by omega)]; exact V.sa p p0 p1
  · rw [e4] at j1
    have s := V.sp j j0 j1
    refine ⟨s.1.e e (by omega) (by omega) (by omega) (by omega) (by omega) (by omega), ?_⟩
    rw [e0, e _ (by omega) (by omega)]; exact s.2
theorem SPR.e {a n b : Int} {s : Nat} (P : SPR h s R a n b) (S : SV R a n b) (e : eqR R R') (a0 : 0 ≤ a) (a1 : a < 1278) (n0 : 0 ≤ n) (n1 : n + 13 ≤ 1278) (b0 : 0 ≤ b) (b1 : b + 25 ≤ 1278) : SPR h s R' a n b := by
  obtain ⟨s1, s2, s3, s4, s5, s6, s7, s8, s9, s10, s11, s12, s13, s14, s15⟩ := S
  obtain ⟨p1, p2, p3, p4, p5, p6, p7, p8, p9⟩ := P
  have ea := e a a0 a1
  have e4 := e (n + 4) (by omega) (by omega)
  unfold SPR
  rw [ea, e n n0 (by omega), e (n + 1) (by omega) (by omega), e (n + 2) (by omega) (by omega), e (n + 3) (by omega) (by omega), e4]
  refine ⟨p1, p2, p3, p4, p5, p6, fun p q0 q1 => ?_, fun p q0 q1 => ?_, fun k k0 k1 => ?_⟩
  · rw [e _ (by omega) (by omega)]; exact p7 p q0 q1
  · rw [e _ (by omega) (by omega)]; exact p8 p q0 q1
  · rw [e _ (by omega) (by omega)]; exact p9 k k0 k1
theorem TD.e {o : Nat} {n n' : Int} {f f' : Int → Int} (P : TD h o n f) (en : n' = n) (e : ∀ k : Int, 0 ≤ k → k < n → f' k = f k) : TD h o n' f' := by
  subst en
  exact ⟨P.1, fun k k0 k1 => by rw [e k k0 k1]; exact P.2 k k0 k1⟩
theorem TPic.e {t : Nat} (P : TPic h t R) (V : RV R) (e : eqR R R') : TPic h t R' := by
  have n := V.n
  have e0 := e 0 (by omega) (by omega); have e1 := e 1 (by omega) (by omega); have e2 := e 2 (by omega) (by omega); have e3 := e 3 (by omega) (by omega)
  have e4 := e 4 (by omega) (by omega); have e5 := e 5 (by omega) (by omega); have e6 := e 6 (by omega) (by omega); have e7 := e 7 (by omega) (by omega)
  obtain ⟨q1, q2, q3, q4, q5, q6, q7, q8⟩ := P
  refine ⟨q1.e V.2.1 e (by omega) (by omega) (by omega) (by omega) (by omega) (by omega), q2.e e0 (fun k k0 k1 => e _ (by omega) (by omega)), q3.e e1 (fun k k0 k1 => e _ (by omega) (by omega)), q4.e e5 (fun k k0 k1 => e _ (by omega) (by omega)),
    q5.e e6 (fun k k0 k1 => ?_), q6.e e7 (fun k k0 k1 => ?_), by rw [e2, e3, e4]; exact q7, fun j j0 j1 => ?_⟩
  · rw [e _ (by omega) (by omega), e (44 + 2 * k) (by omega) (by omega)]
  · rw [e _ (by omega) (by omega), e (60 + 3 * k) (by omega) (by omega), e (61 + 3 * k) (by omega) (by omega)]
  · rw [e4] at j1
    exact (q8 j j0 j1).e (V.sp j j0 j1).1 e (by omega) (by omega) (by omega) (by omega) (by omega) (by omega)
theorem TC.e (T : TC R) (V : RV R) (e : eqR R R') : TC R' := by
  have n := V.n
  have e0 := e 0 (by omega) (by omega); have e4 := e 4 (by omega) (by omega)
  intro j j0 j1
  rw [e4] at j1
  obtain ⟨a, c⟩ := T j j0 j1
  have s := V.sp j j0 j1
  have s1 := s.1.1
  have np : nxP R' j = nxP R j := by
    unfold nxP
    rw [e4, e0]
    by_cases z : j + 1 < R 4
    · rw [if_pos z, if_pos z, e _ (by omega) (by omega)]
    · rw [if_neg z, if_neg z]
  have nb : nxP R j ≤ 4 := by
    unfold nxP
    by_cases z : j + 1 < R 4
    · rw [if_pos z]; have := V.sp (j + 1) (by omega) z; omega
    · rw [if_neg z]; omega
  rw [e _ (by omega) (by omega), np]
  refine ⟨a, fun p p0 p1 => ?_⟩
  have g := c p p0 p1
  have o : nxO R' j p = nxO R j p := by
    unfold nxO
    rw [e4]
    by_cases z : j + 1 < R 4
    · rw [if_pos z, if_pos z, e _ (by omega) (by omega)]
    · rw [if_neg z, if_neg z, e _ (by omega) (by omega)]
  have w : nxW R' j p = nxW R j p := by
    unfold nxW
    rw [e4]
    by_cases z : j + 1 < R 4
    · rw [if_pos z, if_pos z, e _ (by omega) (by omega)]
    · rw [if_neg z, if_neg z, e _ (by omega) (by omega)]
  rw [o, w, e _ (by omega) (by omega)]
  exact g
/-- laws up to fewer texts -/
theorem LwM.le {T : Int → Int} {n m : Int} {L : Laws} (M : LwM T n L) (e : m ≤ n) : LwM T m L := fun i i0 i1 => M i i0 (by omega)
end ROW
