/-! steps kept and taken back -/
def rowN (R : Int → Int) (k : Int) : Int := if k = 0 then R 0 else if k < 14 then R (7 + k) else R (1239 + k)
def kpS (R : Int → Int) : Int := if R 4 = 30 then 29 else R 4
def rKeep (R : Int → Int) : Int → Int := fun j => if j = 4 then kpS R + 1 else if 83 + 39 * kpS R ≤ j ∧ j < 122 + 39 * kpS R then rowN R (j - (83 + 39 * kpS R)) else if R 4 = 30 ∧ 83 ≤ j ∧ j < 1214 then R (j + 39) else R j
def rBack (R : Int → Int) : Int → Int := fun j => if j = 4 then R 4 - 1 else if 8 ≤ j ∧ j < 21 then (if 13 ≤ j ∧ R (83 + 39 * (R 4 - 1)) ≤ (j - 13) / 2 ∧ (j - 13) / 2 < R 0 then (if (j - 13) % 2 = 0 then R (25 + (j - 13) / 2) else 0) else R (83 + 39 * (R 4 - 1) + 1 + (j - 8))) else if 1253 ≤ j ∧ j < 1278 then R (83 + 39 * (R 4 - 1) + 14 + (j - 1253)) else R j
def nxP (R : Int → Int) (j : Int) : Int := if j + 1 < R 4 then R (83 + 39 * (j + 1)) else R 0
def nxO (R : Int → Int) (j p : Int) : Int := if j + 1 < R 4 then R (89 + 39 * (j + 1) + 2 * p) else R (13 + 2 * p)
def nxW (R : Int → Int) (j p : Int) : Int := if j + 1 < R 4 then R (90 + 39 * (j + 1) + 2 * p) else R (14 + 2 * p)
/-- who was told between two states is, in the later one, as told -/
def TC (R : Int → Int) : Prop := ∀ j : Int, 0 ≤ j → j < R 4 → R (83 + 39 * j) ≤ nxP R j ∧ ∀ p : Int, R (83 + 39 * j) ≤ p → p < nxP R j → nxO R j p = R (25 + p) ∧ nxW R j p = 0
/-- a step has just been kept -/
def FR (R : Int → Int) : Prop := 1 ≤ R 4 ∧ R (83 + 39 * (R 4 - 1)) = R 0
section RING
variable {h h' : Nat → Int → Int} {R R' : Int → Int} {L : Laws} {k x p v d l : Int}
theorem TC.nw (t : TC R) (f : FR R) (V : RV R) (e : nowEq R R') : TC R' ∧ FR R' := by
  have v4 := V.n.2.2.2.2.1
  have e4 := e 4 (by omega); have e0 := e 0 (by omega)
  refine ⟨fun j j0 j1 => ?_, by unfold FR; rw [e4, e0, e _ (by have := f.1; omega)]; exact f⟩
  rw [e4] at j1
  obtain ⟨a, c⟩ := t j j0 j1
  unfold nxP nxO nxW at *
  rw [e4, e0, e (83 + 39 * j) (by omega)]
  by_cases q : j + 1 < R 4
  · simp only [if_pos q] at *
    have pp := (V.sp (j + 1) (by omega) q).1.2.1
    rw [e (83 + 39 * (j + 1)) (by omega)]
    refine ⟨a, fun p p0 p1 => ?_⟩
    have s0 := (V.sp j j0 j1).1.1
    rw [e (89 + 39 * (j + 1) + 2 * p) (by omega), e (90 + 39 * (j + 1) + 2 * p) (by omega), e (25 + p) (by omega)]
    exact c p p0 p1
  · simp only [if_neg q] at *
    have : j = R 4 - 1 := by omega
    subst this
    rw [f.2]
    exact ⟨by omega, fun p p0 p1 => by omega⟩
theorem rKeep_at {j : Int} : rKeep R j = if j = 4 then kpS R + 1 else if 83 + 39 * kpS R ≤ j ∧ j < 122 + 39 * kpS R then rowN R (j - (83 + 39 * kpS R)) else if R 4 = 30 ∧ 83 ≤ j ∧ j < 1214 then R (j + 39) else R j := rfl
theorem kpS_R (V : RV R) : 0 ≤ kpS R ∧ kpS R ≤ 29 := by
  have := V.n.2.2.2.2.1
  unfold kpS; split <;> omega
theorem rKeep_o (V : RV R) {j : Int} (e : j ≠ 4) (q : j < 83 ∨ 1253 ≤ j) : rKeep R j = R j := by
  have := kpS_R V
  rw [rKeep_at, if_neg e, if_neg (by omega), if_neg (by omega)]
theorem rKeep_4 : rKeep R 4 = kpS R + 1 := by rw [rKeep_at, if_pos rfl]
/-- the kept row's cells -/
theorem rKeep_n {k : Int} (k0 : 0 ≤ k) (k1 : k < 39) (V : RV R) : rKeep R (83 + 39 * kpS R + k) = rowN R k := by
  have := kpS_R V
  rw [rKeep_at, if_neg (by omega), if_pos (by omega)]
  congr 1; omega
/-- the elder rows' cells -/
theorem rKeep_e {j k : Int} (k0 : 0 ≤ k) (k1 : k < 39) (j0 : 0 ≤ j) (j1 : j < kpS R) (V : RV R) : rKeep R (83 + 39 * j + k) = if R 4 = 30 then R (83 + 39 * (j + 1) + k) else R (83 + 39 * j + k) := by
  have := kpS_R V
  rw [rKeep_at, if_neg (by omega), if_neg (by omega)]
  by_cases q : R 4 = 30
  · rw [if_pos (by omega), if_pos q]; congr 1; omega
  · rw [if_neg (by omega), if_neg q]
theorem SPR.cS {s : Nat} {a n b a' n' b' : Int} (P : SPR h s R a n b) (e0 : R' a' = R a) (e1 : ∀ k : Int, 0 ≤ k → k < 13 → R' (n' + k) = R (n + k)) (e2 : ∀ k : Int, 0 ≤ k → k < 25 → R' (b' + k) = R (b + k)) (a4 : R a ≤ 4) (n4 : R (n + 4) ≤ 25) : SPR h s R' a' n' b' := by
  obtain ⟨q0, q1, q2, q3, q4, q5, q6, q7, q8⟩ := P
  have m0 := e1 0 (by decide) (by decide)
  simp only [Int.add_zero] at m0
  refine ⟨by rw [e0]; exact q0, by rw [m0]; exact q1, by rw [e1 1 (by decide) (by decide)]; exact q2, by rw [e1 2 (by decide) (by decide)]; exact q3, by rw [e1 3 (by decide) (by decide)]; exact q4, by rw [e1 4 (by decide) (by decide)]; exact q5, fun p p0 p1 => ?_, fun p p0 p1 => ?_, fun k k0 k1 => ?_⟩
  · have := e1 (5 + 2 * p) (by omega) (by omega)
    rw [show n' + 5 + 2 * p = n' + (5 + 2 * p) by omega, this, q6 p p0 (by omega)]
    rw [show n + 5 + 2 * p = n + (5 + 2 * p) by omega]
  · have := e1 (6 + 2 * p) (by omega) (by omega)
    rw [show n' + 6 + 2 * p = n' + (6 + 2 * p) by omega, this, q7 p p0 (by omega)]
    rw [show n + 6 + 2 * p = n + (6 + 2 * p) by omega]
  · rw [e1 4 (by decide) (by decide)] at k1
    rw [e2 k k0 (by omega)]
    exact q8 k k0 k1
theorem SV.cS {a n b a' n' b' : Int} (P : SV R a n b) (e0 : R' a' = R a) (e1 : ∀ k : Int, 0 ≤ k → k < 13 → R' (n' + k) = R (n + k)) (e2 : ∀ k : Int, 0 ≤ k → k < 25 → R' (b' + k) = R (b + k)) : SV R' a' n' b' := by
  obtain ⟨q0, q0', q1, q1', q2, q2', q3, q3', q4, q4', q5, q5', q6, q7, q8⟩ := P
  have m0 := e1 0 (by decide) (by decide)
  simp only [Int.add_zero] at m0
  unfold SV
  rw [e0, m0, e1 1 (by decide) (by decide), e1 2 (by decide) (by decide), e1 3 (by decide) (by decide), e1 4 (by decide) (by decide)]
  refine ⟨q0, q0', q1, q1', q2, q2', q3, q3', q4, q4', q5, q5', fun p p0 p1 => ?_, fun p p0 p1 => ?_, fun k k0 k1 => ?_⟩
  · have := e1 (5 + 2 * p) (by omega) (by omega)
    rw [show n' + 5 + 2 * p = n' + (5 + 2 * p) by omega, this]
    have := q6 p p0 (by omega)
    rwa [show n + 5 + 2 * p = n + (5 + 2 * p) by omega] at this
  · have := e1 (6 + 2 * p) (by omega) (by omega)
    rw [show n' + 6 + 2 * p = n' + (6 + 2 * p) by omega, this]
    have := q7 p p0 (by omega)
    rwa [show n + 6 + 2 * p = n + (6 + 2 * p) by omega] at this
  · rw [e2 k k0 (by omega)]
    exact q8 k k0 k1
theorem rKeep_SV (V : RV R) (j : Int) (j0 : 0 ≤ j) (j1 : j < rKeep R 4) : SV (rKeep R) (83 + 39 * j) (84 + 39 * j) (97 + 39 * j) ∧ rKeep R (83 + 39 * j) ≤ R 0 := by
  rw [rKeep_4] at j1
  have ks := kpS_R V
  by_cases q : j = kpS R
  · subst q
    have z := rKeep_n (k := 0) (by decide) (by decide) V
    simp only [Int.add_zero] at z
    have z' : rKeep R (83 + 39 * kpS R) = R 0 := z
    refine ⟨V.2.1.cS z' (fun k k0 k1 => ?_) (fun k k0 k1 => ?_), by omega⟩
    · rw [show 84 + 39 * kpS R + k = 83 + 39 * kpS R + (1 + k) by omega, rKeep_n (by omega) (by omega) V]
      unfold rowN; rw [if_neg (by omega), if_pos (by omega)]; congr 1; omega
    · rw [show 97 + 39 * kpS R + k = 83 + 39 * kpS R + (14 + k) by omega, rKeep_n (by omega) (by omega) V]
      unfold rowN; rw [if_neg (by omega), if_neg (by omega)]; congr 1; omega
  · have z := rKeep_e (k := 0) (by decide) (by decide) j0 (by omega) V
    simp only [Int.add_zero] at z
    by_cases w : R 4 = 30
    · rw [if_pos w] at z
      have s := V.sp (j + 1) (by omega) (by unfold kpS at *; split at j1 <;> omega)
      refine ⟨s.1.cS z (fun k k0 k1 => ?_) (fun k k0 k1 => ?_), by rw [z]; exact s.2⟩
      · rw [show 84 + 39 * j + k = 83 + 39 * j + (1 + k) by omega, rKeep_e (by omega) (by omega) j0 (by omega) V, if_pos w]; congr 1; omega
      · rw [show 97 + 39 * j + k = 83 + 39 * j + (14 + k) by omega, rKeep_e (by omega) (by omega) j0 (by omega) V, if_pos w]; congr 1; omega
    · rw [if_neg w] at z
      have s := V.sp j j0 (by unfold kpS at *; split at j1 <;> omega)
      refine ⟨s.1.cS z (fun k k0 k1 => ?_) (fun k k0 k1 => ?_), by rw [z]; exact s.2⟩
      · rw [show 84 + 39 * j + k = 83 + 39 * j + (1 + k) by omega, rKeep_e (by omega) (by omega) j0 (by omega) V, if_neg w]
      · rw [show 97 + 39 * j + k = 83 + 39 * j + (14 + k) by omega, rKeep_e (by omega) (by omega) j0 (by omega) V, if_neg w]
/-- rows that differ in the steps alone -/
def stpEq (R R' : Int → Int) : Prop := ∀ j : Int, j ≠ 4 → (j < 83 ∨ 1253 ≤ j) → R' j = R j
theorem RV.st4 (V : RV R) (e : stpEq R R') (v : 0 ≤ R' 4 ∧ R' 4 ≤ 30) (s : ∀ j : Int, 0 ≤ j → j < R' 4 → SV R' (83 + 39 * j) (84 + 39 * j) (97 + 39 * j) ∧ R' (83 + 39 * j) ≤ R 0) : RV R' := by
  obtain ⟨⟨v0, v1, v2, v3, v4, v5, v6, v7⟩, S, q0, q1, q2, q3, q4, q5, q6⟩ := V
  have z0 := e 0 (by omega) (by omega); have z1 := e 1 (by omega) (by omega); have z2 := e 2 (by omega) (by omega); have z3 := e 3 (by omega) (by omega); have z5 := e 5 (by omega) (by omega); have z6 := e 6 (by omega) (by omega); have z7 := e 7 (by omega) (by omega)
  refine ⟨⟨by omega, by omega, by omega, by omega, v, by omega, by omega, by omega⟩, S.cR z0 (fun k k0 k1 => e _ (by omega) (by omega)) (fun k k0 k1 => e _ (by omega) (by omega)), fun p p0 p1 => ?_, fun p p0 p1 => ?_, fun p p0 p1 => ?_, fun p p0 p1 => ?_, fun p p0 p1 => ?_, fun p p0 p1 => ?_, fun p p0 p1 => ?_⟩
  · rw [e (21 + p) (by omega) (by omega)]; exact q0 p p0 (by omega)
  · rw [e (25 + p) (by omega) (by omega)]; exact q1 p p0 (by omega)
  · rw [e (29 + p) (by omega) (by omega)]; exact q2 p p0 (by omega)
  · rw [e (37 + p) (by omega) (by omega)]; exact q3 p p0 (by omega)
  · rw [e (43 + 2 * p) (by omega) (by omega), e (44 + 2 * p) (by omega) (by omega), z0]; exact q4 p p0 (by omega)
  · rw [e (59 + 3 * p) (by omega) (by omega), e (60 + 3 * p) (by omega) (by omega), e (61 + 3 * p) (by omega) (by omega), z0, z1]; exact q5 p p0 (by omega)
  · rw [z0]; exact s p p0 p1
theorem rKeep_E (V : RV R) : stpEq R (rKeep R) := fun _ a c => rKeep_o V a c
theorem rKeep_V (V : RV R) : RV (rKeep R) := V.st4 (rKeep_E V) (by rw [rKeep_4]; have := kpS_R V; omega) (rKeep_SV V)
theorem rKeep_F (V : RV R) : FR (rKeep R) := by
  have ks := kpS_R V
  refine ⟨by rw [rKeep_4]; omega, ?_⟩
  have z := rKeep_n (k := 0) (by decide) (by decide) V
  rw [rKeep_4, rKeep_o V (j := 0) (by decide) (by omega), show 83 + 39 * (kpS R + 1 - 1) = 83 + 39 * kpS R + 0 by omega]
  exact z
theorem rKeep_T (t : TC R) (V : RV R) : TC (rKeep R) := by
  intro j j0 j1
  have F := rKeep_F V
  have ks := kpS_R V
  have k4 := rKeep_4 (R := R)
  rw [k4] at j1
  unfold nxP nxO nxW
  rw [k4, rKeep_o V (j := 0) (by decide) (by omega)]
  by_cases q : j + 1 < kpS R + 1
  · simp only [if_pos q]
    have A : ∀ k, 0 ≤ k → k < 39 → rKeep R (83 + 39 * j + k) = if R 4 = 30 then R (83 + 39 * (j + 1) + k) else R (83 + 39 * j + k) := fun k k0 k1 => rKeep_e k0 k1 j0 (by omega) V
    have a0 := A 0 (by decide) (by decide)
    simp only [Int.add_zero] at a0
    obtain ⟨i, i1, ia, ib⟩ : ∃ i, i < R 4 ∧ 0 ≤ i ∧ (rKeep R (83 + 39 * j) = R (83 + 39 * i) ∧ (rKeep R (83 + 39 * (j + 1)) = nxP R i ∧ ∀ p : Int, 0 ≤ p → p < 4 → rKeep R (89 + 39 * (j + 1) + 2 * p) = nxO R i p ∧ rKeep R (90 + 39 * (j + 1) + 2 * p) = nxW R i p)) := by
      refine ⟨if R 4 = 30 then j + 1 else j, ?_, ?_, ?_, ?_⟩
      · unfold kpS at q ks; split at q <;> split <;> omega
      · split <;> omega
      · rw [a0]; split <;> rfl
      · by_cases w : j + 1 = kpS R
        · have N : ∀ k, 0 ≤ k → k < 39 → rKeep R (83 + 39 * (j + 1) + k) = rowN R k := fun k k0 k1 => by rw [w]; exact rKeep_n k0 k1 V
          have n0 := N 0 (by decide) (by decide)
          simp only [Int.add_zero] at n0
          have hi : ¬ (if R 4 = 30 then j + 1 else j) + 1 < R 4 := by unfold kpS at w; split at w <;> split <;> omega
          unfold nxP nxO nxW
          simp only [if_neg hi]
          refine ⟨n0, fun p p0 p1 => ⟨?_, ?_⟩⟩
          · rw [show 89 + 39 * (j + 1) + 2 * p = 83 + 39 * (j + 1) + (6 + 2 * p) by omega, N _ (by omega) (by omega)]
            unfold rowN; rw [if_neg (by omega), if_pos (by omega)]; congr 1; omega
          · rw [show 90 + 39 * (j + 1) + 2 * p = 83 + 39 * (j + 1) + (7 + 2 * p) by omega, N _ (by omega) (by omega)]
            unfold rowN; rw [if_neg (by omega), if_pos (by omega)]; congr 1; omega
        · have N : ∀ k, 0 ≤ k → k < 39 → rKeep R (83 + 39 * (j + 1) + k) = if R 4 = 30 then R (83 + 39 * (j + 1 + 1) + k) else R (83 + 39 * (j + 1) + k) := fun k k0 k1 => rKeep_e k0 k1 (by omega) (by omega) V
          have n0 := N 0 (by decide) (by decide)
          simp only [Int.add_zero] at n0
          have hi : (if R 4 = 30 then j + 1 else j) + 1 < R 4 := by unfold kpS at w q; split at q <;> split <;> omega
          unfold nxP nxO nxW
          simp only [if_pos hi]
          refine ⟨by rw [n0]; split <;> rfl, fun p p0 p1 => ⟨?_, ?_⟩⟩
          · rw [show 89 + 39 * (j + 1) + 2 * p = 83 + 39 * (j + 1) + (6 + 2 * p) by omega, N _ (by omega) (by omega)]
            split <;> congr 1 <;> omega
          · rw [show 90 + 39 * (j + 1) + 2 * p = 83 + 39 * (j + 1) + (7 + 2 * p) by omega, N _ (by omega) (by omega)]
            split <;> congr 1 <;> omega
    obtain ⟨e0, e1, e2⟩ := ib
    obtain ⟨c0, c1⟩ := t i ia i1
    rw [e0, e1]
    refine ⟨c0, fun p p0 p1 => ?_⟩
    have s0 := (V.sp i ia i1).1.1
    have np : nxP R i ≤ 4 := by
      unfold nxP; split
      · rename_i u; exact (V.sp (i + 1) (by omega) u).1.2.1
      · exact V.n.1.2
    rw [(e2 p (by omega) (by omega)).1, (e2 p (by omega) (by omega)).2, rKeep_o V (by omega) (by omega)]
    exact c1 p p0 p1
  · simp only [if_neg q]
    have : j = kpS R := by omega
    have z := F.2
    rw [k4, show kpS R + 1 - 1 = j by omega, rKeep_o V (j := 0) (by decide) (by omega)] at z
    rw [z]
    exact ⟨by omega, fun p p0 p1 => by omega⟩
end RING
