/-! telling: streets, verdicts, what is said, the text that rules -/
section TOLDS
variable {h h' : Nat → Int → Int} {R R' : Int → Int} {L : Laws} {l p q d f s x : Int} {o : Nat} {n : Int} {g g' : Int → Int}
theorem TD.nx (t : TD h o n g) (E : h' o = h o) (E1 : h' (o + 1) = h (o + 1)) (ef : ∀ k : Int, 0 ≤ k → k < n → g' k = g k) : TD h' o n g' :=
  ⟨by rw [E]; exact t.1, fun k k0 k1 => by rw [E1, ef k k0 k1]; exact t.2 k k0 k1⟩
theorem TD.ad (t : TD h o n g) (n0 : 0 ≤ n) (ef : ∀ k : Int, 0 ≤ k → k < n → g' k = g k) (el : g' n = x) : TD (up (up h (o + 1) n x) o 1 (n + 1)) o (n + 1) g' := by
  refine ⟨up_s, fun k k0 k1 => ?_⟩
  rw [up_o (by omega)]
  by_cases e : k = n
  · rw [e, up_s, el]
  · rw [up_k e, ef k k0 (by omega)]; exact t.2 k k0 (by omega)
theorem TD.cl : TD (up h o 1 0) o 0 g' := ⟨up_s, fun k k0 k1 => by omega⟩
def tlEq (R R' : Int → Int) : Prop := ∀ j : Int, j ≠ 3 → j ≠ 5 → j ≠ 6 → j ≠ 7 → (j < 37 ∨ 82 < j) → R' j = R j
theorem RV.tl (V : RV R) (e : tlEq R R') (n3 : -1 ≤ R' 3 ∧ R' 3 < R 2) (n5 : 0 ≤ R' 5 ∧ R' 5 ≤ 6) (n6 : 0 ≤ R' 6 ∧ R' 6 ≤ 8) (n7 : 0 ≤ R' 7 ∧ R' 7 ≤ 8)
    (a : ∀ k : Int, 0 ≤ k → k < R' 5 → 1 ≤ R' (37 + k) ∧ R' (37 + k) < 1024) (c : ∀ k : Int, 0 ≤ k → k < R' 6 → 0 ≤ R' (43 + 2 * k) ∧ R' (43 + 2 * k) < R 0 ∧ 0 ≤ R' (44 + 2 * k) ∧ R' (44 + 2 * k) ≤ 1)
    (g : ∀ k : Int, 0 ≤ k → k < R' 7 → 0 ≤ R' (59 + 3 * k) ∧ R' (59 + 3 * k) < R 1 ∧ 0 ≤ R' (60 + 3 * k) ∧ R' (60 + 3 * k) < R 0 ∧ 0 ≤ R' (61 + 3 * k) ∧ R' (61 + 3 * k) ≤ 9) : RV R' := by
  obtain ⟨⟨v0, v1, v2, v3, v4, v5, v6, v7⟩, S, q0, q1, q2, q3, q4, q5, q6⟩ := V
  have z0 := e 0 (by omega) (by omega) (by omega) (by omega) (by omega)
  have z1 := e 1 (by omega) (by omega) (by omega) (by omega) (by omega)
  have z2 := e 2 (by omega) (by omega) (by omega) (by omega) (by omega)
  have z4 := e 4 (by omega) (by omega) (by omega) (by omega) (by omega)
  refine ⟨⟨by omega, by omega, by omega, by omega, by omega, n5, n6, n7⟩, S.cR z0 (fun k k0 k1 => e _ (by omega) (by omega) (by omega) (by omega) (by omega)) (fun k k0 k1 => e _ (by omega) (by omega) (by omega) (by omega) (by omega)), fun p p0 p1 => ?_, fun p p0 p1 => ?_, fun p p0 p1 => ?_, a, fun p p0 p1 => ?_, fun p p0 p1 => ?_, fun p p0 p1 => ?_⟩
  · rw [e (21 + p) (by omega) (by omega) (by omega) (by omega) (by omega)]; exact q0 p p0 (by omega)
  · rw [e (25 + p) (by omega) (by omega) (by omega) (by omega) (by omega)]; exact q1 p p0 (by omega)
  · rw [e (29 + p) (by omega) (by omega) (by omega) (by omega) (by omega)]; exact q2 p p0 (by omega)
  · rw [z0]; exact c p p0 p1
  · rw [z0, z1]; exact g p p0 p1
  · obtain ⟨s, s'⟩ := q6 p p0 (by omega)
    exact ⟨s.cR (e _ (by omega) (by omega) (by omega) (by omega) (by omega)) (fun k k0 k1 => e _ (by omega) (by omega) (by omega) (by omega) (by omega)) (fun k k0 k1 => e _ (by omega) (by omega) (by omega) (by omega) (by omega)), by rw [e (83 + 39 * p) (by omega) (by omega) (by omega) (by omega) (by omega), z0]; exact s'⟩
theorem TPic.tl (P : TPic h 2 R) (V : RV R) (e : tlEq R R') (E : ∀ o, o ≠ 2 → (o < 11 ∨ 16 < o) → h' o = h o) (E2 : ∀ k : Int, k ≠ 8 → h' 2 k = h 2 k) (r : h' 2 8 = R' 3)
    (a : TD h' 11 (R' 5) (fun k => R' (37 + k))) (c : TD h' 13 (R' 6) (fun k => R' (43 + 2 * k) * 2 + R' (44 + 2 * k))) (g : TD h' 15 (R' 7) (fun k => (R' (59 + 3 * k) * 4 + R' (60 + 3 * k)) * 10 + R' (61 + 3 * k))) : TPic h' 2 R' := by
  have z0 := e 0 (by omega) (by omega) (by omega) (by omega) (by omega)
  have z1 := e 1 (by omega) (by omega) (by omega) (by omega) (by omega)
  have z2 := e 2 (by omega) (by omega) (by omega) (by omega) (by omega)
  have z4 := e 4 (by omega) (by omega) (by omega) (by omega) (by omega)
  have n := V.n
  have f := P.f
  refine ⟨?_, ⟨?_, fun p p0 p1 => ?_⟩, ⟨?_, fun p p0 p1 => ?_⟩, a, c, g, ?_, fun j j0 j1 => ?_⟩
  · exact (P.1.c (fun o h0 h1 => E o (by omega) (by omega))).cR z0 (fun k k0 k1 => e _ (by omega) (by omega) (by omega) (by omega) (by omega)) (fun k k0 k1 => e _ (by omega) (by omega) (by omega) (by omega) (by omega)) n.1.2 V.w.2.2.2.2.2
  · show h' 7 1 = _; rw [E 7 (by decide) (by omega), z0]; exact f.2.1.1
  · show h' 8 p = R' (21 + p); rw [E 8 (by decide) (by omega), e (21 + p) (by omega) (by omega) (by omega) (by omega) (by omega)]; exact P.sl p p0 (by omega)
  · show h' 9 1 = _; rw [E 9 (by decide) (by omega), z1]; exact f.2.1.2.1
  · show h' 10 p = R' (29 + p); rw [E 10 (by decide) (by omega), e (29 + p) (by omega) (by omega) (by omega) (by omega) (by omega)]; exact P.di p p0 (by omega)
  · rw [E2 7 (by decide), E2 11 (by decide), E2 10 (by decide), z2, z4]; exact ⟨f.2.2.1, r, f.2.2.2.2.1, f.2.2.2.2.2⟩
  · rw [E2 10 (by decide)]
    have s := P.2.2.2.2.2.2.2 j j0 (by omega)
    have v := (V.sp j j0 (by omega)).1
    refine (s.c (fun o h0 h1 => E o (by omega) (by omega))).cR (e _ (by omega) (by omega) (by omega) (by omega) (by omega)) (fun k k0 k1 => e _ (by omega) (by omega) (by omega) (by omega) (by omega)) (fun k k0 k1 => e _ (by omega) (by omega) (by omega) (by omega) (by omega)) v.2.1 ?_
    exact v.2.2.2.2.2.2.2.2.2.2.2.1
theorem TC.tl (t : TC R) (V : RV R) (e : tlEq R R') : TC R' := t.c V (e 0 (by omega) (by omega) (by omega) (by omega) (by omega)) (e 4 (by omega) (by omega) (by omega) (by omega) (by omega)) (fun j hj => e j (by omega) (by omega) (by omega) (by omega) (by omega))
theorem CT.tl (C : CT h R L) (e : tlEq R R') (V' : RV R') (P' : TPic h' 2 R') (E : eqT h h') : CT h' R' L := ⟨P', V', by rw [e 2 (by omega) (by omega) (by omega) (by omega) (by omega)]; exact C.2.2.cT C.2.1.n.2.2.1.2 E⟩
/-- the rows -/
def rStr (R : Int → Int) (l : Int) : Int → Int := ur (ur R (37 + R 5) l) 5 (R 5 + 1)
def rVer (R : Int → Int) (p s : Int) : Int → Int := ur (ur (ur R (43 + 2 * R 6) p) (43 + 2 * R 6 + 1) s) 6 (R 6 + 1)
def rSai (R : Int → Int) (d p f : Int) : Int → Int := ur (ur (ur (ur R (59 + 3 * R 7) d) (59 + 3 * R 7 + 1) p) (59 + 3 * R 7 + 2) f) 7 (R 7 + 1)
theorem e_by : tlEq R (ur R 3 x) := fun j a _ _ _ _ => ur_n a
theorem e_s0 : tlEq R (ur R 5 0) := fun j _ a _ _ _ => ur_n a
theorem e_v0 : tlEq R (ur R 6 0) := fun j _ _ a _ _ => ur_n a
theorem e_t0 : tlEq R (ur R 7 0) := fun j _ _ _ a _ => ur_n a
theorem e_s (V : RV R) (n : R 5 < 6) : tlEq R (rStr R l) := fun j _ a _ _ c => by have := V.n; unfold rStr; rw [ur_n a, ur_n (by omega)]
theorem e_v (V : RV R) (n : R 6 < 8) : tlEq R (rVer R p s) := fun j _ _ a _ c => by have := V.n; unfold rVer; rw [ur_n a, ur_n (by omega), ur_n (by omega)]
theorem e_t (V : RV R) (n : R 7 < 8) : tlEq R (rSai R d p f) := fun j _ _ _ a c => by have := V.n; unfold rSai; rw [ur_n a, ur_n (by omega), ur_n (by omega), ur_n (by omega)]
theorem v_by (V : RV R) (t0 : -1 ≤ x) (t1 : x < R 2) : RV (ur R 3 x) := by
  have n := V.n
  refine V.tl e_by (by rw [ur_s]; omega) (by rw [ur_n (by decide)]; omega) (by rw [ur_n (by decide)]; omega) (by rw [ur_n (by decide)]; omega) (fun k k0 k1 => ?_) (fun k k0 k1 => ?_) (fun k k0 k1 => ?_) <;> rw [ur_n (by decide)] at k1
  · rw [ur_n (by omega)]; exact V.st k k0 k1
  · rw [ur_n (by omega), ur_n (by omega)]; exact V.ve k k0 k1
  · rw [ur_n (by omega), ur_n (by omega), ur_n (by omega)]; exact V.sa k k0 k1
theorem v_s0 (V : RV R) : RV (ur R 5 0) := by
  have n := V.n
  refine V.tl e_s0 (by rw [ur_n (by decide)]; omega) (by rw [ur_s]; omega) (by rw [ur_n (by decide)]; omega) (by rw [ur_n (by decide)]; omega) (fun k k0 k1 => ?_) (fun k k0 k1 => ?_) (fun k k0 k1 => ?_)
  · rw [ur_s] at k1; omega
  · rw [ur_n (by decide)] at k1; rw [ur_n (by omega), ur_n (by omega)]; exact V.ve k k0 k1
  · rw [ur_n (by decide)] at k1; rw [ur_n (by omega), ur_n (by omega), ur_n (by omega)]; exact V.sa k k0 k1
theorem v_v0 (V : RV R) : RV (ur R 6 0) := by
  have n := V.n
  refine V.tl e_v0 (by rw [ur_n (by decide)]; omega) (by rw [ur_n (by decide)]; omega) (by rw [ur_s]; omega) (by rw [ur_n (by decide)]; omega) (fun k k0 k1 => ?_) (fun k k0 k1 => ?_) (fun k k0 k1 => ?_)
  · rw [ur_n (by decide)] at k1; rw [ur_n (by omega)]; exact V.st k k0 k1
  · rw [ur_s] at k1; omega
  · rw [ur_n (by decide)] at k1; rw [ur_n (by omega), ur_n (by omega), ur_n (by omega)]; exact V.sa k k0 k1
theorem v_t0 (V : RV R) : RV (ur R 7 0) := by
  have n := V.n
  refine V.tl e_t0 (by rw [ur_n (by decide)]; omega) (by rw [ur_n (by decide)]; omega) (by rw [ur_n (by decide)]; omega) (by rw [ur_s]; omega) (fun k k0 k1 => ?_) (fun k k0 k1 => ?_) (fun k k0 k1 => ?_)
  · rw [ur_n (by decide)] at k1; rw [ur_n (by omega)]; exact V.st k k0 k1
  · rw [ur_n (by decide)] at k1; rw [ur_n (by omega), ur_n (by omega)]; exact V.ve k k0 k1
  · rw [ur_s] at k1; omega
theorem rStr_at {j : Int} : rStr R l j = if j = 5 then R 5 + 1 else if j = 37 + R 5 then l else R j := rfl
theorem rVer_at {j : Int} : rVer R p s j = if j = 6 then R 6 + 1 else if j = 43 + 2 * R 6 + 1 then s else if j = 43 + 2 * R 6 then p else R j := rfl
theorem rSai_at {j : Int} : rSai R d p f j = if j = 7 then R 7 + 1 else if j = 59 + 3 * R 7 + 2 then f else if j = 59 + 3 * R 7 + 1 then p else if j = 59 + 3 * R 7 then d else R j := rfl
theorem v_s (V : RV R) (n5 : R 5 < 6) (l0 : 1 ≤ l) (l1 : l < 1024) : RV (rStr R l) := by
  have n := V.n
  have A := fun j => rStr_at (R := R) (l := l) (j := j)
  have e := e_s (l := l) V n5
  generalize rStr R l = R' at *
  have z3 : R' 3 = R 3 := by rw [A, if_neg (by omega), if_neg (by omega)]
  have z5 : R' 5 = R 5 + 1 := by rw [A, if_pos rfl]
  have z6 : R' 6 = R 6 := by rw [A, if_neg (by omega), if_neg (by omega)]
  have z7 : R' 7 = R 7 := by rw [A, if_neg (by omega), if_neg (by omega)]
  refine V.tl e (by omega) (by omega) (by omega) (by omega) (fun k k0 k1 => ?_) (fun k k0 k1 => ?_) (fun k k0 k1 => ?_)
  · by_cases q : k = R 5
    · rw [A, if_neg (by omega), if_pos (by omega)]; omega
    · rw [A, if_neg (by omega), if_neg (by omega)]; exact V.st k k0 (by omega)
  · rw [A, A, if_neg (by omega), if_neg (by omega), if_neg (by omega), if_neg (by omega)]; exact V.ve k k0 (by omega)
  · rw [A, A, A, if_neg (by omega), if_neg (by omega), if_neg (by omega), if_neg (by omega), if_neg (by omega), if_neg (by omega)]; exact V.sa k k0 (by omega)
theorem v_v (V : RV R) (n6 : R 6 < 8) (p0 : 0 ≤ p) (p1 : p < R 0) (s0 : 0 ≤ s) (s1 : s ≤ 1) : RV (rVer R p s) := by
  have n := V.n
  have A := fun j => rVer_at (R := R) (p := p) (s := s) (j := j)
  have e := e_v (p := p) (s := s) V n6
  generalize rVer R p s = R' at *
  have z3 : R' 3 = R 3 := by rw [A, if_neg (by omega), if_neg (by omega), if_neg (by omega)]
  have z5 : R' 5 = R 5 := by rw [A, if_neg (by omega), if_neg (by omega), if_neg (by omega)]
  have z6 : R' 6 = R 6 + 1 := by rw [A, if_pos rfl]
  have z7 : R' 7 = R 7 := by rw [A, if_neg (by omega), if_neg (by omega), if_neg (by omega)]
  refine V.tl e (by omega) (by omega) (by omega) (by omega) (fun k k0 k1 => ?_) (fun k k0 k1 => ?_) (fun k k0 k1 => ?_)
  · rw [A, if_neg (by omega), if_neg (by omega), if_neg (by omega)]; exact V.st k k0 (by omega)
  · by_cases q : k = R 6
    · have a : R' (43 + 2 * k) = p := by rw [A, if_neg (by omega), if_neg (by omega), if_pos (by omega)]
      have c : R' (44 + 2 * k) = s := by rw [A, if_neg (by omega), if_pos (by omega)]
      rw [a, c]; omega
    · rw [A, A, if_neg (by omega), if_neg (by omega), if_neg (by omega), if_neg (by omega), if_neg (by omega), if_neg (by omega)]; exact V.ve k k0 (by omega)
  · rw [A, A, A, if_neg (by omega), if_neg (by omega), if_neg (by omega), if_neg (by omega), if_neg (by omega), if_neg (by omega), if_neg (by omega), if_neg (by omega), if_neg (by omega)]; exact V.sa k k0 (by omega)
theorem v_t (V : RV R) (n7 : R 7 < 8) (d0 : 0 ≤ d) (d1 : d < R 1) (p0 : 0 ≤ p) (p1 : p < R 0) (f0 : 0 ≤ f) (f1 : f ≤ 9) : RV (rSai R d p f) := by
  have n := V.n
  have A := fun j => rSai_at (R := R) (d := d) (p := p) (f := f) (j := j)
  have e := e_t (d := d) (p := p) (f := f) V n7
  generalize rSai R d p f = R' at *
  have zz : ∀ j : Int, j ≠ 7 → j < 59 → R' j = R j := fun j a c => by rw [A, if_neg a, if_neg (by omega), if_neg (by omega), if_neg (by omega)]
  have z3 := zz 3 (by omega) (by omega); have z5 := zz 5 (by omega) (by omega); have z6 := zz 6 (by omega) (by omega)
  have z7 : R' 7 = R 7 + 1 := by rw [A, if_pos rfl]
  refine V.tl e (by omega) (by omega) (by omega) (by omega) (fun k k0 k1 => ?_) (fun k k0 k1 => ?_) (fun k k0 k1 => ?_)
  · rw [zz _ (by omega) (by omega)]; exact V.st k k0 (by omega)
  · rw [zz _ (by omega) (by omega), zz _ (by omega) (by omega)]; exact V.ve k k0 (by omega)
  · by_cases q : k = R 7
    · have a : R' (59 + 3 * k) = d := by rw [A, if_neg (by omega), if_neg (by omega), if_neg (by omega), if_pos (by omega)]
      have c : R' (60 + 3 * k) = p := by rw [A, if_neg (by omega), if_neg (by omega), if_pos (by omega)]
      have g : R' (61 + 3 * k) = f := by rw [A, if_neg (by omega), if_pos (by omega)]
      rw [a, c, g]; omega
    · have a : R' (59 + 3 * k) = R (59 + 3 * k) := by rw [A, if_neg (by omega), if_neg (by omega), if_neg (by omega), if_neg (by omega)]
      have c : R' (60 + 3 * k) = R (60 + 3 * k) := by rw [A, if_neg (by omega), if_neg (by omega), if_neg (by omega), if_neg (by omega)]
      have g : R' (61 + 3 * k) = R (61 + 3 * k) := by rw [A, if_neg (by omega), if_neg (by omega), if_neg (by omega), if_neg (by omega)]
      rw [a, c, g]; exact V.sa k k0 (by omega)
/-- the town's objects then -/
theorem CT.by (C : CT h R L) (t0 : -1 ≤ x) (t1 : x < R 2) : CT (up h 2 8 x) (ur R 3 x) L ∧ eqT h (up h 2 8 x) := by
  have E : eqT h (up h 2 8 x) := eqT.rf.up (by omega)
  have P := C.1
  have O : ∀ o, o ≠ 2 → (up h 2 8 x) o = h o := fun o a => by funext k; exact up_o a
  refine ⟨C.tl e_by (v_by C.2.1 t0 t1) (P.tl C.2.1 e_by (fun o a _ => O o a) (fun k a => up_k a) (by rw [up_s, ur_s]) ?_ ?_ ?_) E, E⟩
  · rw [ur_n (by decide)]; exact P.2.2.2.1.nx (O 11 (by decide)) (O 12 (by decide)) (fun k k0 k1 => ur_n (by omega))
  · rw [ur_n (by decide)]; exact P.2.2.2.2.1.nx (O 13 (by decide)) (O 14 (by decide)) (fun k k0 k1 => by rw [ur_n (by omega), ur_n (by omega)])
  · rw [ur_n (by decide)]; exact P.2.2.2.2.2.1.nx (O 15 (by decide)) (O 16 (by decide)) (fun k k0 k1 => by rw [ur_n (by omega), ur_n (by omega), ur_n (by omega)])
theorem CT.s0 (C : CT h R L) : CT (up h 11 1 0) (ur R 5 0) L ∧ eqT h (up h 11 1 0) := by
  have E : eqT h (up h 11 1 0) := eqT.rf.up (by omega)
  have P := C.1
  have O : ∀ o, o ≠ 11 → (up h 11 1 0) o = h o := fun o a => by funext k; exact up_o a
  refine ⟨C.tl e_s0 (v_s0 C.2.1) (P.tl C.2.1 e_s0 (fun o a c => O o (by omega)) (fun k a => up_o (by decide)) (by rw [up_o (by decide), ur_n (by decide)]; exact P.f.2.2.2.1) ?_ ?_ ?_) E, E⟩
  · rw [ur_s]; exact TD.cl
  · rw [ur_n (by decide)]; exact P.2.2.2.2.1.nx (O 13 (by decide)) (O 14 (by decide)) (fun k k0 k1 => by rw [ur_n (by omega), ur_n (by omega)])
  · rw [ur_n (by decide)]; exact P.2.2.2.2.2.1.nx (O 15 (by decide)) (O 16 (by decide)) (fun k k0 k1 => by rw [ur_n (by omega), ur_n (by omega), ur_n (by omega)])
theorem CT.v0 (C : CT h R L) : CT (up h 13 1 0) (ur R 6 0) L ∧ eqT h (up h 13 1 0) := by
  have E : eqT h (up h 13 1 0) := eqT.rf.up (by omega)
  have P := C.1
  have O : ∀ o, o ≠ 13 → (up h 13 1 0) o = h o := fun o a => by funext k; exact up_o a
  refine ⟨C.tl e_v0 (v_v0 C.2.1) (P.tl C.2.1 e_v0 (fun o a c => O o (by omega)) (fun k a => up_o (by decide)) (by rw [up_o (by decide), ur_n (by decide)]; exact P.f.2.2.2.1) ?_ ?_ ?_) E, E⟩
  · rw [ur_n (by decide)]; exact P.2.2.2.1.nx (O 11 (by decide)) (O 12 (by decide)) (fun k k0 k1 => ur_n (by omega))
  · rw [ur_s]; exact TD.cl
  · rw [ur_n (by decide)]; exact P.2.2.2.2.2.1.nx (O 15 (by decide)) (O 16 (by decide)) (fun k k0 k1 => by rw [ur_n (by omega), ur_n (by omega), ur_n (by omega)])
theorem CT.t0 (C : CT h R L) : CT (up h 15 1 0) (ur R 7 0) L ∧ eqT h (up h 15 1 0) := by
  have E : eqT h (up h 15 1 0) := eqT.rf.up (by omega)
  have P := C.1
  have O : ∀ o, o ≠ 15 → (up h 15 1 0) o = h o := fun o a => by funext k; exact up_o a
  refine ⟨C.tl e_t0 (v_t0 C.2.1) (P.tl C.2.1 e_t0 (fun o a c => O o (by omega)) (fun k a => up_o (by decide)) (by rw [up_o (by decide), ur_n (by decide)]; exact P.f.2.2.2.1) ?_ ?_ ?_) E, E⟩
  · rw [ur_n (by decide)]; exact P.2.2.2.1.nx (O 11 (by decide)) (O 12 (by decide)) (fun k k0 k1 => ur_n (by omega))
  · rw [ur_n (by decide)]; exact P.2.2.2.2.1.nx (O 13 (by decide)) (O 14 (by decide)) (fun k k0 k1 => by rw [ur_n (by omega), ur_n (by omega)])
  · rw [ur_s]; exact TD.cl
theorem CT.str (C : CT h R L) (n5 : R 5 < 6) (l0 : 1 ≤ l) (l1 : l < 1024) : CT (up (up h 12 (R 5) l) 11 1 (R 5 + 1)) (rStr R l) L ∧ eqT h (up (up h 12 (R 5) l) 11 1 (R 5 + 1)) := by
  have E : eqT h (up (up h 12 (R 5) l) 11 1 (R 5 + 1)) := (eqT.rf.up (by omega)).up (by omega)
  have P := C.1
  have n := C.2.1.n
  have e := e_s (l := l) C.2.1 n5
  have O : ∀ o, o ≠ 11 → o ≠ 12 → (up (up h 12 (R 5) l) 11 1 (R 5 + 1)) o = h o := fun o a c => by funext k; rw [up_o a, up_o c]
  have V' := v_s C.2.1 n5 l0 l1
  have A := fun j => rStr_at (R := R) (l := l) (j := j)
  generalize rStr R l = R' at *
  have z3 : R' 3 = R 3 := by rw [A, if_neg (by omega), if_neg (by omega)]
  have z5 : R' 5 = R 5 + 1 := by rw [A, if_pos rfl]
  have z6 : R' 6 = R 6 := by rw [A, if_neg (by omega), if_neg (by omega)]
  have z7 : R' 7 = R 7 := by rw [A, if_neg (by omega), if_neg (by omega)]
  refine ⟨C.tl e V' (P.tl C.2.1 e (fun o a c => O o (by omega) (by omega)) (fun k a => by rw [up_o (by decide), up_o (by decide)]) (by rw [up_o (by decide), up_o (by decide), z3]; exact P.f.2.2.2.1) ?_ ?_ ?_) E, E⟩
  · rw [z5]; exact TD.ad (o := 11) P.2.2.2.1 (by omega) (fun k k0 k1 => by rw [A, if_neg (by omega), if_neg (by omega)]) (by rw [A, if_neg (by omega), if_pos rfl])
  · rw [z6]; exact P.2.2.2.2.1.nx (O 13 (by decide) (by decide)) (O 14 (by decide) (by decide)) (fun k k0 k1 => by rw [A, A, if_neg (by omega), if_neg (by omega), if_neg (by omega), if_neg (by omega)])
  · rw [z7]; exact P.2.2.2.2.2.1.nx (O 15 (by decide) (by decide)) (O 16 (by decide) (by decide)) (fun k k0 k1 => by rw [A, A, A, if_neg (by omega), if_neg (by omega), if_neg (by omega), if_neg (by omega), if_neg (by omega), if_neg (by omega)])
theorem CT.v (C : CT h R L) (n6 : R 6 < 8) (p0 : 0 ≤ p) (p1 : p < R 0) (s0 : 0 ≤ s) (s1 : s ≤ 1) : CT (up (up h 14 (R 6) (p * 2 + s)) 13 1 (R 6 + 1)) (rVer R p s) L ∧ eqT h (up (up h 14 (R 6) (p * 2 + s)) 13 1 (R 6 + 1)) := by
  have E : eqT h (up (up h 14 (R 6) (p * 2 + s)) 13 1 (R 6 + 1)) := (eqT.rf.up (by omega)).up (by omega)
  have P := C.1
  have n := C.2.1.n
  have e := e_v (p := p) (s := s) C.2.1 n6
  have O : ∀ o, o ≠ 13 → o ≠ 14 → (up (up h 14 (R 6) (p * 2 + s)) 13 1 (R 6 + 1)) o = h o := fun o a c => by funext k; rw [up_o a, up_o c]
  have V' := v_v C.2.1 n6 p0 p1 s0 s1
  have A := fun j => rVer_at (R := R) (p := p) (s := s) (j := j)
  generalize rVer R p s = R' at *
  have zz : ∀ j : Int, j ≠ 6 → (j < 43 ∨ 58 < j) → R' j = R j := fun j a c => by rw [A, if_neg a, if_neg (by omega), if_neg (by omega)]
  have z3 := zz 3 (by omega) (by omega); have z5 := zz 5 (by omega) (by omega); have z7 := zz 7 (by omega) (by omega)
  have z6 : R' 6 = R 6 + 1 := by rw [A, if_pos rfl]
  refine ⟨C.tl e V' (P.tl C.2.1 e (fun o a c => O o (by omega) (by omega)) (fun k a => by rw [up_o (by decide), up_o (by decide)]) (by rw [up_o (by decide), up_o (by decide), z3]; exact P.f.2.2.2.1) ?_ ?_ ?_) E, E⟩
  · rw [z5]; exact P.2.2.2.1.nx (O 11 (by decide) (by decide)) (O 12 (by decide) (by decide)) (fun k k0 k1 => zz _ (by omega) (by omega))
  · rw [z6]; exact TD.ad (o := 13) P.2.2.2.2.1 (by omega) (fun k k0 k1 => by rw [A, A, if_neg (by omega), if_neg (by omega), if_neg (by omega), if_neg (by omega), if_neg (by omega), if_neg (by omega)]) (by rw [A, A, if_neg (by omega), if_neg (by omega), if_pos (by omega), if_neg (by omega), if_pos (by omega)])
  · rw [z7]; exact P.2.2.2.2.2.1.nx (O 15 (by decide) (by decide)) (O 16 (by decide) (by decide)) (fun k k0 k1 => by rw [zz _ (by omega) (by omega), zz _ (by omega) (by omega), zz _ (by omega) (by omega)])
theorem CT.t (C : CT h R L) (n7 : R 7 < 8) (d0 : 0 ≤ d) (d1 : d < R 1) (p0 : 0 ≤ p) (p1 : p < R 0) (f0 : 0 ≤ f) (f1 : f ≤ 9) : CT (up (up h 16 (R 7) ((d * 4 + p) * 10 + f)) 15 1 (R 7 + 1)) (rSai R d p f) L ∧ eqT h (up (up h 16 (R 7) ((d * 4 + p) * 10 + f)) 15 1 (R 7 + 1)) := by
  have E : eqT h (up (up h 16 (R 7) ((d * 4 + p) * 10 + f)) 15 1 (R 7 + 1)) := (eqT.rf.up (by omega)).up (by omega)
  have P := C.1
  have n := C.2.1.n
  have e := e_t (d := d) (p := p) (f := f) C.2.1 n7
  have O : ∀ o, o ≠ 15 → o ≠ 16 → (up (up h 16 (R 7) ((d * 4 + p) * 10 + f)) 15 1 (R 7 + 1)) o = h o := fun o a c => by funext k; rw [up_o a, up_o c]
  have V' := v_t C.2.1 n7 d0 d1 p0 p1 f0 f1
  have A := fun j => rSai_at (R := R) (d := d) (p := p) (f := f) (j := j)
  generalize rSai R d p f = R' at *
  have zz : ∀ j : Int, j ≠ 7 → j < 59 → R' j = R j := fun j a c => by rw [A, if_neg a, if_neg (by omega), if_neg (by omega), if_neg (by omega)]
  have z3 := zz 3 (by omega) (by omega); have z5 := zz 5 (by omega) (by omega); have z6 := zz 6 (by omega) (by omega)
  have z7 : R' 7 = R 7 + 1 := by rw [A, if_pos rfl]
  refine ⟨C.tl e V' (P.tl C.2.1 e (fun o a c => O o (by omega) (by omega)) (fun k a => by rw [up_o (by decide), up_o (by decide)]) (by rw [up_o (by decide), up_o (by decide), z3]; exact P.f.2.2.2.1) ?_ ?_ ?_) E, E⟩
  · rw [z5]; exact P.2.2.2.1.nx (O 11 (by decide) (by decide)) (O 12 (by decide) (by decide)) (fun k k0 k1 => zz _ (by omega) (by omega))
  · rw [z6]; exact P.2.2.2.2.1.nx (O 13 (by decide) (by decide)) (O 14 (by decide) (by decide)) (fun k k0 k1 => by rw [zz _ (by omega) (by omega), zz _ (by omega) (by omega)])
  · rw [z7]
    refine TD.ad (o := 15) P.2.2.2.2.2.1 (by omega) (fun k k0 k1 => ?_) ?_
    · have a : R' (59 + 3 * k) = R (59 + 3 * k) := by rw [A, if_neg (by omega), if_neg (by omega), if_neg (by omega), if_neg (by omega)]
      have c : R' (60 + 3 * k) = R (60 + 3 * k) := by rw [A, if_neg (by omega), if_neg (by omega), if_neg (by omega), if_neg (by omega)]
      have g : R' (61 + 3 * k) = R (61 + 3 * k) := by rw [A, if_neg (by omega), if_neg (by omega), if_neg (by omega), if_neg (by omega)]
      rw [a, c, g]
    · have a : R' (59 + 3 * R 7) = d := by rw [A, if_neg (by omega), if_neg (by omega), if_neg (by omega), if_pos (by omega)]
      have c : R' (60 + 3 * R 7) = p := by rw [A, if_neg (by omega), if_neg (by omega), if_pos (by omega)]
      have g : R' (61 + 3 * R 7) = f := by rw [A, if_neg (by omega), if_pos (by omega)]
      rw [a, c, g]
end TOLDS

/-! what each call makes of the row, and answers -/
def rStreet (R : Int → Int) (l : Int) : Int → Int := if l = -1 then ur R 5 0 else if 1 ≤ l ∧ l ≤ 1023 ∧ R 5 < 6 then rStr R l else R
def aStreet (R : Int → Int) (l : Int) : Int := if l = -1 then 0 else if 1 ≤ l ∧ l ≤ 1023 ∧ R 5 < 6 then R 5 + 1 else -2
def rVerd (R : Int → Int) (p s : Int) : Int → Int := if p = -1 then ur R 6 0 else if 0 ≤ p ∧ p < R 0 ∧ R 6 < 8 then rVer R p s else R
def aVerd (R : Int → Int) (p : Int) : Int := if p = -1 then 0 else if 0 ≤ p ∧ p < R 0 ∧ R 6 < 8 then R 6 + 1 else -2
def rSaid (R : Int → Int) (d p f : Int) : Int → Int := if d = -1 then ur R 7 0 else if (0 ≤ d ∧ d < R 1) ∧ (0 ≤ p ∧ p < R 0) ∧ (0 ≤ f ∧ f ≤ 9) ∧ R 7 < 8 then rSai R d p f else R
def aSaid (R : Int → Int) (d p f : Int) : Int := if d = -1 then 0 else if (0 ≤ d ∧ d < R 1) ∧ (0 ≤ p ∧ p < R 0) ∧ (0 ≤ f ∧ f ≤ 9) ∧ R 7 < 8 then R 7 + 1 else -2
def rBy (R : Int → Int) (t : Int) : Int → Int := if -1 ≤ t ∧ t < R 2 then ur R 3 t else R
def aBy (R : Int → Int) (t : Int) : Int := if -1 ≤ t ∧ t < R 2 then 1 else 0
def rPer (R : Int → Int) (x s : Int) : Int → Int := if 0 ≤ x ∧ x ≤ 99 ∧ 0 ≤ s ∧ s ≤ 10 ∧ R 0 < 4 then rPerson R x s else R
def aPer (R : Int → Int) (x s : Int) : Int := if 0 ≤ x ∧ x ≤ 99 ∧ 0 ≤ s ∧ s ≤ 10 ∧ R 0 < 4 then R 0 else -1
def rDis (R : Int → Int) (l : Int) : Int → Int := if 0 ≤ l ∧ l ≤ 1023 ∧ R 1 < 8 then rDisp R l else R
def aDis (R : Int → Int) (l : Int) : Int := if 0 ≤ l ∧ l ≤ 1023 ∧ R 1 < 8 then R 1 else -1
def rArgue (L : Laws) (R : Int → Int) (d p q : Int) : Int → Int := if (0 ≤ d ∧ d < R 1) ∧ (0 ≤ p ∧ p < R 0) ∧ (0 ≤ q ∧ q < R 0) ∧ p ≠ q then rArg L true (rKeep R) d p q else R
def aArgue (L : Laws) (R : Int → Int) (d p q : Int) : Int := if (0 ≤ d ∧ d < R 1) ∧ (0 ≤ p ∧ p < R 0) ∧ (0 ≤ q ∧ q < R 0) ∧ p ≠ q then loserV L (rKeep R) d p q else -1
def rPourH (R : Int → Int) (p x : Int) : Int → Int := if ((0 ≤ p ∧ p < R 0) ∧ 0 ≤ R (13 + 2 * p) + x ∧ R (13 + 2 * p) + x ≤ 99) ∧ x ≠ 0 ∧ -99 ≤ x ∧ x ≤ 99 then rPour (rKeep R) p x else R
def aPourH (R : Int → Int) (p x : Int) : Int := if ((0 ≤ p ∧ p < R 0) ∧ 0 ≤ R (13 + 2 * p) + x ∧ R (13 + 2 * p) + x ≤ 99) ∧ x ≠ 0 ∧ -99 ≤ x ∧ x ≤ 99 then 1 else 0
def rSnuffH (R : Int → Int) (l : Int) : Int → Int := if (0 ≤ l ∧ l < 10) ∧ tb (R 10) l = true then rSnuff (rKeep R) l else R
def aSnuffH (R : Int → Int) (l : Int) : Int := if (0 ≤ l ∧ l < 10) ∧ tb (R 10) l = true then 1 else 0
def rNight (L : Laws) (R : Int → Int) (n : Int) : Int → Int := if 1 ≤ n ∧ n ≤ 60 ∧ R 8 + n ≤ 9999 then rNts L true true n.toNat R else R
def aNight (L : Laws) (R : Int → Int) (n : Int) : Int := if 1 ≤ n ∧ n ≤ 60 ∧ R 8 + n ≤ 9999 then allOil R - allOil (rNts L true true n.toNat R) else -1
def rYears (L : Laws) (R : Int → Int) (s n : Int) : Int → Int := if 0 ≤ s ∧ s ≤ 9999 ∧ 1 ≤ n ∧ n ≤ 40 then rYrs L true n.toNat (ur (rKeep R) 9 (s * 2 + 367)) else R
def aYears (L : Laws) (R : Int → Int) (s n : Int) : Int := if 0 ≤ s ∧ s ≤ 9999 ∧ 1 ≤ n ∧ n ≤ 40 then rYrs L true n.toNat (ur (rKeep R) 9 (s * 2 + 367)) 8 else -1
def rUndo (R : Int → Int) : Int → Int := if R 4 = 0 then R else rBack R
def aUndo (R : Int → Int) : Int := if R 4 = 0 then -1 else R 4 - 1

theorem wX8_street {G : GT} {δ : Nat} {h hl : Nat → Int → Int} {b : Bool × Bool} {Q : V → Hp → Prop} {l : Int} {R : Int → Int} {L : Laws} (hδ : δ ≤ 1680) (C : CT h R L)  (hQ : ∀ h', eqT h h' → CT h' (rStreet R l) L → Q (vi (aStreet R l)) (HS h' hl b)) : WP G δ 0 0 MX8_street 0 [vr (1), vi l] [] (HS h hl b) Q := by
  obtain ⟨⟨s0, s3, s4, s1, s2, s5⟩, ⟨t0, t1, t5, t6, t7⟩, ⟨g7, g8, g11, g10, g10x⟩⟩ := C.1.f
  have vn' := C.2.1.n
  have vw := C.2.1.w
  refine il_1 dX8_street_0 ?_
  refine ic_m1 dX8_street_1 ?_
  refine wp_icmp_ne 17 dX8_street_2 rfl (fun c2 => ?_) (fun c2 => ?_)
  · refine il_1 dX8_street_17 ?_
    refine c_X8_207 dX8_street_18 rfl (Nat.le_of_ble_eq_true rfl) (by omega) ?_
    refine wX8_areLamps (by omega) ?_
    refine pv_i ?_
    refine wp_if_eq 28 dX8_street_21 rfl (fun c21 => ?_) (fun c21 => ?_)
    · rw [b2i_0] at c21
      refine bi_m2 dX8_street_28 ?_
      refine wp_ireti dX8_street_30 rfl ?_
      have e1 : rStreet R l = R := by unfold rStreet; rw [if_neg (by omega), if_neg (by omega)]
      rw [e1] at hQ
      exact qv (hQ h eqT.rf C) (by unfold aStreet; rw [if_neg (by omega), if_neg (by omega)])
    · rw [b2i_n0] at c21
      refine il_1 dX8_street_24 ?_
      refine wp_if_ne 31 dX8_street_25 rfl (fun c25 => ?_) (fun c25 => ?_)
      · refine al_0 dX8_street_31 ?_
        refine g_X8_12 (2) dX8_street_32 rfl tt1 (rr8_0 tt1) (by omega) ?_
        refine g_X8_240 (11) dX8_street_35 rfl tt2 (rr7_3 tt2) (by omega) ?_
        refine il_1 dX8_street_38 ?_
        refine c_X8_246 dX8_street_39 rfl tt11 (Nat.le_of_ble_eq_true rfl) (by omega) ?_
        refine wX6_add (by omega) tt11 tt12 (by decide) (by omega) (by omega) (fun nc => ?_) (fun yc => ?_)
        · refine pv_i ?_
          refine wp_if_eq 58 dX8_street_42 rfl (fun _ => ?_) (fun c => absurd rfl c)
          refine bi_m2 dX8_street_58 ?_
          refine wp_ireti dX8_street_60 rfl ?_
          have e1 : rStreet R l = R := by unfold rStreet; rw [if_neg (by omega), if_neg (by omega)]
          rw [e1] at hQ
          exact qv (hQ h eqT.rf C) (by unfold aStreet; rw [if_neg (by omega), if_neg (by omega)])
        rw [t5] at yc ⊢
        refine pv_i ?_
        refine wp_if_eq 58 dX8_street_42 rfl (fun c42 => ?_) (fun c42 => ?_)
        · exact absurd c42 (by decide)
        · refine al_0 dX8_street_45 ?_
          refine g_X8_12 (2) dX8_street_46 rfl tt1 (rr8_0 tt1) (by omega) ?_
          refine g_X8_240 (11) dX8_street_49 rfl tt2 (rr7_3 tt2) (by omega) ?_
          refine g_X8_249 dX8_street_52 rfl tt11 ?_
          rw [up_s]
          refine wp_goto 60 dX8_street_55 rfl ?_
          refine wp_ireti dX8_street_60 rfl ?_
          obtain ⟨C', E'⟩ := C.str (l := l) (by omega) (by omega) (by omega)
          have e1 : rStreet R l = rStr R l := by unfold rStreet; rw [if_neg (by omega), if_pos (by omega)]
          rw [e1] at hQ
          exact qv (hQ _ E' C') (by unfold aStreet; rw [if_neg (by omega), if_pos (by omega)])
      · refine bi_m2 dX8_street_28 ?_
        refine wp_ireti dX8_street_30 rfl ?_
        have e1 : rStreet R l = R := by unfold rStreet; rw [if_neg (by omega), if_neg (by omega)]
        rw [e1] at hQ
        exact qv (hQ h eqT.rf C) (by unfold aStreet; rw [if_neg (by omega), if_neg (by omega)])
  · refine al_0 dX8_street_5 ?_
    refine g_X8_12 (2) dX8_street_6 rfl tt1 (rr8_0 tt1) (by omega) ?_
    refine g_X8_240 (11) dX8_street_9 rfl tt2 (rr7_3 tt2) (by omega) ?_
    refine c_X8_243 dX8_street_12 rfl tt11 (Nat.le_of_ble_eq_true rfl) (by omega) ?_
    refine wX6_clear (by omega) tt11 ?_
    refine pv_n ?_
    refine ic_0 dX8_street_15 ?_
    refine wp_ireti dX8_street_16 rfl ?_
    obtain ⟨C', E'⟩ := C.s0
    have e1 : rStreet R l = ur R 5 0 := by unfold rStreet; rw [if_pos c2]
    rw [e1] at hQ
    exact qv (hQ _ E' C') (by unfold aStreet; rw [if_pos c2])

theorem wX9_street {G : GT} {δ : Nat} {h hl : Nat → Int → Int} {b : Bool × Bool} {Q : V → Hp → Prop} {l : Int} {R : Int → Int} {L : Laws} (hδ : δ ≤ 1660) (M : MT h R L)  (hQ : ∀ h' hl', eqM h h' → MT h' (rStreet R l) L → Q (vi (aStreet R l)) (HS h' hl' b)) : WP G δ 0 0 MX9_street 0 [vr (336), vi l] [] (HS h hl b) Q := by
  have m := M.1
  have V := M.2.1
  have vn' := V.n
  have vw := V.w
  refine il_1 dX9_street_0 ?_
  refine ic_m1 dX9_street_1 ?_
  refine wp_icmp_ne 14 dX9_street_2 rfl (fun c2 => ?_) (fun c2 => ?_)
  · refine il_1 dX9_street_14 ?_
    refine c_X9_81 dX9_street_15 rfl (Nat.le_of_ble_eq_true rfl) (by omega) ?_
    refine wX9_isPattern (by omega) ?_
    refine pv_i ?_
    refine wp_if_eq 36 dX9_street_18 rfl (fun c18 => ?_) (fun c18 => ?_)
    · rw [b2i_0] at c18
      refine bi_m2 dX9_street_36 ?_
      refine wp_ireti dX9_street_38 rfl ?_
      have e1 : rStreet R l = R := by unfold rStreet; rw [if_neg (by omega), if_neg (by omega)]
      rw [e1] at hQ
      exact qv (hQ h hl eqM.rf M) (by unfold aStreet; rw [if_neg (by omega), if_neg (by omega)])
    · rw [b2i_n0] at c18
      refine il_1 dX9_street_21 ?_
      refine wp_if_eq 36 dX9_street_22 rfl (fun c22 => ?_) (fun c22 => ?_)
      · refine bi_m2 dX9_street_36 ?_
        refine wp_ireti dX9_street_38 rfl ?_
        have e1 : rStreet R l = R := by unfold rStreet; rw [if_neg (by omega), if_neg (by omega)]
        rw [e1] at hQ
        exact qv (hQ h hl eqM.rf M) (by unfold aStreet; rw [if_neg (by omega), if_neg (by omega)])
      · refine al_0 dX9_street_25 ?_
        refine g_X9_7 (337) dX9_street_26 rfl tt336 (rr9_0 tt336) (by omega) ?_
        refine ic_5 dX9_street_29 ?_
        refine wp_iaload dX9_street_30 tt337 (by omega) (by omega) ?_
        first | rw [m2] | rw [m1] | rw [m] | rw [sw_s] | skip
        refine bi_6 dX9_street_31 ?_
        refine wp_icmp_ne 39 dX9_street_33 rfl (fun c33 => ?_) (fun c33 => ?_)
        · refine al_0 dX9_street_39 ?_
          refine g_X9_7 (337) dX9_street_40 rfl tt336 (rr9_0 tt336) (by omega) ?_
          refine bi_37 dX9_street_43 ?_
          refine al_0 dX9_street_45 ?_
          refine g_X9_7 (337) dX9_street_46 rfl tt336 (rr9_0 tt336) (by omega) ?_
          refine ic_5 dX9_street_49 ?_
          refine wp_iaload dX9_street_50 tt337 (by omega) (by omega) ?_
          first | rw [m2] | rw [m1] | rw [m] | rw [sw_s] | skip
          refine wp_iadd dX9_street_51 (r32 (by omega) (by omega)) ?_
          refine il_1 dX9_street_52 ?_
          refine wp_iastore dX9_street_53 tt337 (by omega) (by omega) ?_
          refine al_0 dX9_street_54 ?_
          refine g_X9_7 (337) dX9_street_55 rfl tt336 (rr9_0 tt336) (by omega) ?_
          refine ic_5 dX9_street_58 ?_
          refine wp_dup2 dX9_street_59 rfl rfl ?_
          refine wp_iaload dX9_street_60 tt337 (by omega) (by omega) ?_
          rw [up_k (by omega), m]
          refine ic_1 dX9_street_61 ?_
          refine wp_iadd dX9_street_62 (r32 (by omega) (by omega)) ?_
          refine wp_iastore dX9_street_63 tt337 (by omega) (by omega) ?_
          refine al_0 dX9_street_64 ?_
          refine g_X9_7 (337) dX9_street_65 rfl tt336 (rr9_0 tt336) (by omega) ?_
          refine ic_5 dX9_street_68 ?_
          refine wp_iaload dX9_street_69 tt337 (by omega) (by omega) ?_
          rw [up_s]
          refine wp_ireti dX9_street_70 rfl ?_
          have e1 : rStreet R l = rStr R l := by unfold rStreet; rw [if_neg (by omega), if_pos (by omega)]
          rw [e1] at hQ
          exact qv (hQ _ hl ((eqM.rf.up (by omega)).up (by omega)) (M.nx ((eqM.rf.up (by omega)).up (by omega)) (by rw [up_ur, up_ur, m]; rfl) (v_s V (by omega) (by omega) (by omega)) (e_s V (by omega) 2 (by omega) (by omega) (by omega) (by omega) (by omega)))) (by unfold aStreet; rw [if_neg (by omega), if_pos (by omega)])
        · refine bi_m2 dX9_street_36 ?_
          refine wp_ireti dX9_street_38 rfl ?_
          have e1 : rStreet R l = R := by unfold rStreet; rw [if_neg (by omega), if_neg (by omega)]
          rw [e1] at hQ
          exact qv (hQ h hl eqM.rf M) (by unfold aStreet; rw [if_neg (by omega), if_neg (by omega)])
  · refine al_0 dX9_street_5 ?_
    refine g_X9_7 (337) dX9_street_6 rfl tt336 (rr9_0 tt336) (by omega) ?_
    refine ic_5 dX9_street_9 ?_
    refine ic_0 dX9_street_10 ?_
    refine wp_iastore dX9_street_11 tt337 (by omega) (by omega) ?_
    refine ic_0 dX9_street_12 ?_
    refine wp_ireti dX9_street_13 rfl ?_
    have e1 : rStreet R l = ur R 5 0 := by unfold rStreet; rw [if_pos c2]
    rw [e1] at hQ
    exact qv (hQ _ hl (eqM.rf.up (by omega)) (M.nx (eqM.rf.up (by omega)) (by rw [up_ur, m]) (v_s0 V) (ur_n (by decide)))) (by unfold aStreet; rw [if_pos c2])

theorem wX8_verdict {G : GT} {δ : Nat} {h hl : Nat → Int → Int} {b : Bool × Bool} {Q : V → Hp → Prop} {p s : Int} {R : Int → Int} {L : Laws} (hδ : δ ≤ 1680) (C : CT h R L) (s0 : s = 0 ∨ s = 1) (hQ : ∀ h', eqT h h' → CT h' (rVerd R p s) L → Q (vi (aVerd R p)) (HS h' hl b)) : WP G δ 0 0 MX8_verdict 0 [vr (1), vi p, vi s] [] (HS h hl b) Q := by
  obtain ⟨⟨s0, s3, s4, s1, s2, s5⟩, ⟨t0, t1, t5, t6, t7⟩, ⟨g7, g8, g11, g10, g10x⟩⟩ := C.1.f
  have vn' := C.2.1.n
  have vw := C.2.1.w
  refine il_1 dX8_verdict_0 ?_
  refine ic_m1 dX8_verdict_1 ?_
  refine wp_icmp_ne 17 dX8_verdict_2 rfl (fun c2 => ?_) (fun c2 => ?_)
  · refine al_0 dX8_verdict_17 ?_
    refine g_X8_12 (2) dX8_verdict_18 rfl tt1 (rr8_0 tt1) (by omega) ?_
    refine il_1 dX8_verdict_21 ?_
    refine c_X8_145 dX8_verdict_22 rfl tt2 (Nat.le_of_ble_eq_true rfl) (by omega) ?_
    refine wX7_hasPerson (by omega) ?_
    rw [s0]
    refine pv_i ?_
    refine wp_if_ne 31 dX8_verdict_25 rfl (fun c25 => ?_) (fun c25 => ?_)
    · rw [b2i_n0] at c25
      refine al_0 dX8_verdict_31 ?_
      refine g_X8_12 (2) dX8_verdict_32 rfl tt1 (rr8_0 tt1) (by omega) ?_
      refine g_X8_280 (13) dX8_verdict_35 rfl tt2 (rr7_4 tt2) (by omega) ?_
      refine il_1 dX8_verdict_38 ?_
      refine ic_2 dX8_verdict_39 ?_
      refine wp_imul dX8_verdict_40 (r32 (by omega) (by omega)) ?_
      refine il_2 dX8_verdict_41 ?_
      refine wp_if_eq 49 dX8_verdict_42 rfl (fun c42 => ?_) (fun c42 => ?_)
      · refine ic_0 dX8_verdict_49 ?_
        refine wp_iadd dX8_verdict_50 (r32 (by omega) (by omega)) ?_
        refine c_X8_246 dX8_verdict_51 rfl tt13 (Nat.le_of_ble_eq_true rfl) (by omega) ?_
        first | rw [show p * 2 + 1 = p * 2 + s by omega] | rw [show p * 2 + 0 = p * 2 + s by omega]
        refine wX6_add (by omega) tt13 tt14 (by decide) (by omega) (by omega) (fun nc => ?_) (fun yc => ?_)
        · refine pv_i ?_
          refine wp_if_eq 70 dX8_verdict_54 rfl (fun _ => ?_) (fun c => absurd rfl c)
          refine bi_m2 dX8_verdict_70 ?_
          refine wp_ireti dX8_verdict_72 rfl ?_
          have e1 : rVerd R p s = R := by unfold rVerd; rw [if_neg (by omega), if_neg (by omega)]
          rw [e1] at hQ
          exact qv (hQ h eqT.rf C) (by unfold aVerd; rw [if_neg (by omega), if_neg (by omega)])
        rw [t6] at yc ⊢
        refine pv_i ?_
        refine wp_if_eq 70 dX8_verdict_54 rfl (fun c54 => ?_) (fun c54 => ?_)
        · exact absurd c54 (by decide)
        · refine al_0 dX8_verdict_57 ?_
          refine g_X8_12 (2) dX8_verdict_58 rfl tt1 (rr8_0 tt1) (by omega) ?_
          refine g_X8_280 (13) dX8_verdict_61 rfl tt2 (rr7_4 tt2) (by omega) ?_
          refine g_X8_249 dX8_verdict_64 rfl tt13 ?_
          rw [up_s]
          refine wp_goto 72 dX8_verdict_67 rfl ?_
          refine wp_ireti dX8_verdict_72 rfl ?_
          obtain ⟨C', E'⟩ := C.v (p := p) (s := s) (by omega) (by omega) (by omega) (by omega) (by omega)
          have e1 : rVerd R p s = rVer R p s := by unfold rVerd; rw [if_neg (by omega), if_pos (by omega)]
          rw [e1] at hQ
          exact qv (hQ _ E' C') (by unfold aVerd; rw [if_neg (by omega), if_pos (by omega)])
      · refine ic_1 dX8_verdict_45 ?_
        refine wp_goto 50 dX8_verdict_46 rfl ?_
        refine wp_iadd dX8_verdict_50 (r32 (by omega) (by omega)) ?_
        refine c_X8_246 dX8_verdict_51 rfl tt13 (Nat.le_of_ble_eq_true rfl) (by omega) ?_
        first | rw [show p * 2 + 1 = p * 2 + s by omega] | rw [show p * 2 + 0 = p * 2 + s by omega]
        refine wX6_add (by omega) tt13 tt14 (by decide) (by omega) (by omega) (fun nc => ?_) (fun yc => ?_)
        · refine pv_i ?_
          refine wp_if_eq 70 dX8_verdict_54 rfl (fun _ => ?_) (fun c => absurd rfl c)
          refine bi_m2 dX8_verdict_70 ?_
          refine wp_ireti dX8_verdict_72 rfl ?_
          have e1 : rVerd R p s = R := by unfold rVerd; rw [if_neg (by omega), if_neg (by omega)]
          rw [e1] at hQ
          exact qv (hQ h eqT.rf C) (by unfold aVerd; rw [if_neg (by omega), if_neg (by omega)])
        rw [t6] at yc ⊢
        refine pv_i ?_
        refine wp_if_eq 70 dX8_verdict_54 rfl (fun c54 => ?_) (fun c54 => ?_)
        · exact absurd c54 (by decide)
        · refine al_0 dX8_verdict_57 ?_
          refine g_X8_12 (2) dX8_verdict_58 rfl tt1 (rr8_0 tt1) (by omega) ?_
          refine g_X8_280 (13) dX8_verdict_61 rfl tt2 (rr7_4 tt2) (by omega) ?_
          refine g_X8_249 dX8_verdict_64 rfl tt13 ?_
          rw [up_s]
          refine wp_goto 72 dX8_verdict_67 rfl ?_
          refine wp_ireti dX8_verdict_72 rfl ?_
          obtain ⟨C', E'⟩ := C.v (p := p) (s := s) (by omega) (by omega) (by omega) (by omega) (by omega)
          have e1 : rVerd R p s = rVer R p s := by unfold rVerd; rw [if_neg (by omega), if_pos (by omega)]
          rw [e1] at hQ
          exact qv (hQ _ E' C') (by unfold aVerd; rw [if_neg (by omega), if_pos (by omega)])
    · rw [b2i_0] at c25
      refine bi_m2 dX8_verdict_28 ?_
      refine wp_ireti dX8_verdict_30 rfl ?_
      have e1 : rVerd R p s = R := by unfold rVerd; rw [if_neg (by omega), if_neg (by omega)]
      rw [e1] at hQ
      exact qv (hQ h eqT.rf C) (by unfold aVerd; rw [if_neg (by omega), if_neg (by omega)])
  · refine al_0 dX8_verdict_5 ?_
    refine g_X8_12 (2) dX8_verdict_6 rfl tt1 (rr8_0 tt1) (by omega) ?_
    refine g_X8_280 (13) dX8_verdict_9 rfl tt2 (rr7_4 tt2) (by omega) ?_
    refine c_X8_243 dX8_verdict_12 rfl tt13 (Nat.le_of_ble_eq_true rfl) (by omega) ?_
    refine wX6_clear (by omega) tt13 ?_
    refine pv_n ?_
    refine ic_0 dX8_verdict_15 ?_
    refine wp_ireti dX8_verdict_16 rfl ?_
    obtain ⟨C', E'⟩ := C.v0
    have e1 : rVerd R p s = ur R 6 0 := by unfold rVerd; rw [if_pos c2]
    rw [e1] at hQ
    exact qv (hQ _ E' C') (by unfold aVerd; rw [if_pos c2])

theorem wX9_verdict {G : GT} {δ : Nat} {h hl : Nat → Int → Int} {b : Bool × Bool} {Q : V → Hp → Prop} {p s : Int} {R : Int → Int} {L : Laws} (hδ : δ ≤ 1660) (M : MT h R L) (s0 : s = 0 ∨ s = 1) (hQ : ∀ h' hl', eqM h h' → MT h' (rVerd R p s) L → Q (vi (aVerd R p)) (HS h' hl' b)) : WP G δ 0 0 MX9_verdict 0 [vr (336), vi p, vi s] [] (HS h hl b) Q := by
  have m := M.1
  have V := M.2.1
  have vn' := V.n
  have vw := V.w
  refine il_1 dX9_verdict_0 ?_
  refine ic_m1 dX9_verdict_1 ?_
  refine wp_icmp_ne 15 dX9_verdict_2 rfl (fun c2 => ?_) (fun c2 => ?_)
  · refine al_0 dX9_verdict_15 ?_
    refine il_1 dX9_verdict_16 ?_
    refine c_X9_335 dX9_verdict_17 rfl tt336 (Nat.le_of_ble_eq_true rfl) (by omega) ?_
    refine wX9_isPerson (by omega) (by rw [m]; omega) (by rw [m]; omega) ?_
    rw [m]
    refine pv_i ?_
    refine wp_if_eq 35 dX9_verdict_20 rfl (fun c20 => ?_) (fun c20 => ?_)
    · rw [b2i_0] at c20
      refine bi_m2 dX9_verdict_35 ?_
      refine wp_ireti dX9_verdict_37 rfl ?_
      have e1 : rVerd R p s = R := by unfold rVerd; rw [if_neg (by omega), if_neg (by omega)]
      rw [e1] at hQ
      exact qv (hQ h hl eqM.rf M) (by unfold aVerd; rw [if_neg (by omega), if_neg (by omega)])
    · rw [b2i_n0] at c20
      refine al_0 dX9_verdict_23 ?_
      refine g_X9_7 (337) dX9_verdict_24 rfl tt336 (rr9_0 tt336) (by omega) ?_
      refine bi_6 dX9_verdict_27 ?_
      refine wp_iaload dX9_verdict_29 tt337 (by omega) (by omega) ?_
      first | rw [m2] | rw [m1] | rw [m] | rw [sw_s] | skip
      refine bi_8 dX9_verdict_30 ?_
      refine wp_icmp_ne 38 dX9_verdict_32 rfl (fun c32 => ?_) (fun c32 => ?_)
      · refine al_0 dX9_verdict_38 ?_
        refine g_X9_7 (337) dX9_verdict_39 rfl tt336 (rr9_0 tt336) (by omega) ?_
        refine bi_43 dX9_verdict_42 ?_
        refine ic_2 dX9_verdict_44 ?_
        refine al_0 dX9_verdict_45 ?_
        refine g_X9_7 (337) dX9_verdict_46 rfl tt336 (rr9_0 tt336) (by omega) ?_
        refine bi_6 dX9_verdict_49 ?_
        refine wp_iaload dX9_verdict_51 tt337 (by omega) (by omega) ?_
        first | rw [m2] | rw [m1] | rw [m] | rw [sw_s] | skip
        refine wp_imul dX9_verdict_52 (r32 (by omega) (by omega)) ?_
        refine wp_iadd dX9_verdict_53 (r32 (by omega) (by omega)) ?_
        refine il_1 dX9_verdict_54 ?_
        refine wp_iastore dX9_verdict_55 tt337 (by omega) (by omega) ?_
        refine al_0 dX9_verdict_56 ?_
        refine g_X9_7 (337) dX9_verdict_57 rfl tt336 (rr9_0 tt336) (by omega) ?_
        refine bi_43 dX9_verdict_60 ?_
        refine ic_2 dX9_verdict_62 ?_
        refine al_0 dX9_verdict_63 ?_
        refine g_X9_7 (337) dX9_verdict_64 rfl tt336 (rr9_0 tt336) (by omega) ?_
        refine bi_6 dX9_verdict_67 ?_
        refine wp_iaload dX9_verdict_69 tt337 (by omega) (by omega) ?_
        rw [up_k (by omega), m]
        refine wp_imul dX9_verdict_70 (r32 (by omega) (by omega)) ?_
        refine wp_iadd dX9_verdict_71 (r32 (by omega) (by omega)) ?_
        refine ic_1 dX9_verdict_72 ?_
        refine wp_iadd dX9_verdict_73 (r32 (by omega) (by omega)) ?_
        refine il_2 dX9_verdict_74 ?_
        refine wp_if_eq 82 dX9_verdict_75 rfl (fun c75 => ?_) (fun c75 => ?_)
        · refine ic_0 dX9_verdict_82 ?_
          refine wp_iastore dX9_verdict_83 tt337 (by omega) (by omega) ?_
          refine al_0 dX9_verdict_84 ?_
          refine g_X9_7 (337) dX9_verdict_85 rfl tt336 (rr9_0 tt336) (by omega) ?_
          refine bi_6 dX9_verdict_88 ?_
          refine wp_dup2 dX9_verdict_90 rfl rfl ?_
          refine wp_iaload dX9_verdict_91 tt337 (by omega) (by omega) ?_
          rw [up_k (by omega), up_k (by omega), m]
          refine ic_1 dX9_verdict_92 ?_
          refine wp_iadd dX9_verdict_93 (r32 (by omega) (by omega)) ?_
          refine wp_iastore dX9_verdict_94 tt337 (by omega) (by omega) ?_
          refine al_0 dX9_verdict_95 ?_
          refine g_X9_7 (337) dX9_verdict_96 rfl tt336 (rr9_0 tt336) (by omega) ?_
          refine bi_6 dX9_verdict_99 ?_
          refine wp_iaload dX9_verdict_101 tt337 (by omega) (by omega) ?_
          rw [up_s]
          refine wp_ireti dX9_verdict_102 rfl ?_
          have e1 : rVerd R p s = rVer R p s := by unfold rVerd; rw [if_neg (by omega), if_pos (by omega)]
          rw [e1] at hQ
          exact qv (hQ _ hl (((eqM.rf.up (by omega)).up (by omega)).up (by omega)) (M.nx (((eqM.rf.up (by omega)).up (by omega)).up (by omega)) (by rw [up_ur, up_ur, up_ur, m]; unfold rVer; first | rw [show s = 1 by omega] | rw [show s = 0 by omega]) (v_v V (by omega) (by omega) (by omega) (by omega) (by omega)) (e_v V (by omega) 2 (by omega) (by omega) (by omega) (by omega) (by omega)))) (by unfold aVerd; rw [if_neg (by omega), if_pos (by omega)])
        · refine ic_1 dX9_verdict_78 ?_
          refine wp_goto 83 dX9_verdict_79 rfl ?_
          refine wp_iastore dX9_verdict_83 tt337 (by omega) (by omega) ?_
          refine al_0 dX9_verdict_84 ?_
          refine g_X9_7 (337) dX9_verdict_85 rfl tt336 (rr9_0 tt336) (by omega) ?_
          refine bi_6 dX9_verdict_88 ?_
          refine wp_dup2 dX9_verdict_90 rfl rfl ?_
          refine wp_iaload dX9_verdict_91 tt337 (by omega) (by omega) ?_
          rw [up_k (by omega), up_k (by omega), m]
          refine ic_1 dX9_verdict_92 ?_
          refine wp_iadd dX9_verdict_93 (r32 (by omega) (by omega)) ?_
          refine wp_iastore dX9_verdict_94 tt337 (by omega) (by omega) ?_
          refine al_0 dX9_verdict_95 ?_
          refine g_X9_7 (337) dX9_verdict_96 rfl tt336 (rr9_0 tt336) (by omega) ?_
          refine bi_6 dX9_verdict_99 ?_
          refine wp_iaload dX9_verdict_101 tt337 (by omega) (by omega) ?_
          rw [up_s]
          refine wp_ireti dX9_verdict_102 rfl ?_
          have e1 : rVerd R p s = rVer R p s := by unfold rVerd; rw [if_neg (by omega), if_pos (by omega)]
          rw [e1] at hQ
          exact qv (hQ _ hl (((eqM.rf.up (by omega)).up (by omega)).up (by omega)) (M.nx (((eqM.rf.up (by omega)).up (by omega)).up (by omega)) (by rw [up_ur, up_ur, up_ur, m]; unfold rVer; first | rw [show s = 1 by omega] | rw [show s = 0 by omega]) (v_v V (by omega) (by omega) (by omega) (by omega) (by omega)) (e_v V (by omega) 2 (by omega) (by omega) (by omega) (by omega) (by omega)))) (by unfold aVerd; rw [if_neg (by omega), if_pos (by omega)])
      · refine bi_m2 dX9_verdict_35 ?_
        refine wp_ireti dX9_verdict_37 rfl ?_
        have e1 : rVerd R p s = R := by unfold rVerd; rw [if_neg (by omega), if_neg (by omega)]
        rw [e1] at hQ
        exact qv (hQ h hl eqM.rf M) (by unfold aVerd; rw [if_neg (by omega), if_neg (by omega)])
  · refine al_0 dX9_verdict_5 ?_
    refine g_X9_7 (337) dX9_verdict_6 rfl tt336 (rr9_0 tt336) (by omega) ?_
    refine bi_6 dX9_verdict_9 ?_
    refine ic_0 dX9_verdict_11 ?_
    refine wp_iastore dX9_verdict_12 tt337 (by omega) (by omega) ?_
    refine ic_0 dX9_verdict_13 ?_
    refine wp_ireti dX9_verdict_14 rfl ?_
    have e1 : rVerd R p s = ur R 6 0 := by unfold rVerd; rw [if_pos c2]
    rw [e1] at hQ
    exact qv (hQ _ hl (eqM.rf.up (by omega)) (M.nx (eqM.rf.up (by omega)) (by rw [up_ur, m]) (v_v0 V) (ur_n (by decide)))) (by unfold aVerd; rw [if_pos c2])

theorem wX8_said {G : GT} {δ : Nat} {h hl : Nat → Int → Int} {b : Bool × Bool} {Q : V → Hp → Prop} {d p f : Int} {R : Int → Int} {L : Laws} (hδ : δ ≤ 1680) (C : CT h R L)  (hQ : ∀ h', eqT h h' → CT h' (rSaid R d p f) L → Q (vi (aSaid R d p f)) (HS h' hl b)) : WP G δ 0 0 MX8_said 0 [vr (1), vi d, vi p, vi f, vn] [] (HS h hl b) Q := by
  obtain ⟨⟨s0, s3, s4, s1, s2, s5⟩, ⟨t0, t1, t5, t6, t7⟩, ⟨g7, g8, g11, g10, g10x⟩⟩ := C.1.f
  have vn' := C.2.1.n
  have vw := C.2.1.w
  refine il_1 dX8_said_0 ?_
  refine ic_m1 dX8_said_1 ?_
  refine wp_icmp_ne 17 dX8_said_2 rfl (fun c2 => ?_) (fun c2 => ?_)
  · refine al_0 dX8_said_17 ?_
    refine g_X8_12 (2) dX8_said_18 rfl tt1 (rr8_0 tt1) (by omega) ?_
    refine il_1 dX8_said_21 ?_
    refine c_X8_164 dX8_said_22 rfl tt2 (Nat.le_of_ble_eq_true rfl) (by omega) ?_
    refine wX7_hasDispute (by omega) ?_
    rw [t1]
    refine pv_i ?_
    refine wp_if_eq 49 dX8_said_25 rfl (fun c25 => ?_) (fun c25 => ?_)
    · rw [b2i_0] at c25
      refine bi_m2 dX8_said_49 ?_
      refine wp_ireti dX8_said_51 rfl ?_
      have e1 : rSaid R d p f = R := by unfold rSaid; rw [if_neg (by omega), if_neg (by omega)]
      rw [e1] at hQ
      exact qv (hQ h eqT.rf C) (by unfold aSaid; rw [if_neg (by omega), if_neg (by omega)])
    · rw [b2i_n0] at c25
      refine al_0 dX8_said_28 ?_
      refine g_X8_12 (2) dX8_said_29 rfl tt1 (rr8_0 tt1) (by omega) ?_
      refine il_2 dX8_said_32 ?_
      refine c_X8_145 dX8_said_33 rfl tt2 (Nat.le_of_ble_eq_true rfl) (by omega) ?_
      refine wX7_hasPerson (by omega) ?_
      rw [s0]
      refine pv_i ?_
      refine wp_if_eq 49 dX8_said_36 rfl (fun c36 => ?_) (fun c36 => ?_)
      · rw [b2i_0] at c36
        refine bi_m2 dX8_said_49 ?_
        refine wp_ireti dX8_said_51 rfl ?_
        have e1 : rSaid R d p f = R := by unfold rSaid; rw [if_neg (by omega), if_neg (by omega)]
        rw [e1] at hQ
        exact qv (hQ h eqT.rf C) (by unfold aSaid; rw [if_neg (by omega), if_neg (by omega)])
      · rw [b2i_n0] at c36
        refine il_3 dX8_said_39 ?_
        refine wp_if_lt 49 dX8_said_40 rfl (fun c40 => ?_) (fun c40 => ?_)
        · refine bi_m2 dX8_said_49 ?_
          refine wp_ireti dX8_said_51 rfl ?_
          have e1 : rSaid R d p f = R := by unfold rSaid; rw [if_neg (by omega), if_neg (by omega)]
          rw [e1] at hQ
          exact qv (hQ h eqT.rf C) (by unfold aSaid; rw [if_neg (by omega), if_neg (by omega)])
        · refine il_3 dX8_said_43 ?_
          refine bi_9 dX8_said_44 ?_
          refine wp_icmp_le 52 dX8_said_46 rfl (fun c46 => ?_) (fun c46 => ?_)
          · refine il_1 dX8_said_52 ?_
            refine ic_4 dX8_said_53 ?_
            refine wp_imul dX8_said_54 (r32 (by omega) (by omega)) ?_
            refine il_2 dX8_said_55 ?_
            refine wp_iadd dX8_said_56 (r32 (by omega) (by omega)) ?_
            refine bi_10 dX8_said_57 ?_
            refine wp_imul dX8_said_59 (r32 (by omega) (by omega)) ?_
            refine il_3 dX8_said_60 ?_
            refine wp_iadd dX8_said_61 (r32 (by omega) (by omega)) ?_
            refine is_4 dX8_said_62 rfl (by decide) ?_
            refine al_0 dX8_said_64 ?_
            refine g_X8_12 (2) dX8_said_65 rfl tt1 (rr8_0 tt1) (by omega) ?_
            refine g_X8_324 (15) dX8_said_68 rfl tt2 (rr7_5 tt2) (by omega) ?_
            refine il_4 dX8_said_71 ?_
            refine c_X8_246 dX8_said_73 rfl tt15 (Nat.le_of_ble_eq_true rfl) (by omega) ?_
            refine wX6_add (by omega) tt15 tt16 (by decide) (by omega) (by omega) (fun nc => ?_) (fun yc => ?_)
            · refine pv_i ?_
              refine wp_if_eq 92 dX8_said_76 rfl (fun _ => ?_) (fun c => absurd rfl c)
              refine bi_m2 dX8_said_92 ?_
              refine wp_ireti dX8_said_94 rfl ?_
              have e1 : rSaid R d p f = R := by unfold rSaid; rw [if_neg (by omega), if_neg (by omega)]
              rw [e1] at hQ
              exact qv (hQ h eqT.rf C) (by unfold aSaid; rw [if_neg (by omega), if_neg (by omega)])
            rw [t7] at yc ⊢
            refine pv_i ?_
            refine wp_if_eq 92 dX8_said_76 rfl (fun c76 => ?_) (fun c76 => ?_)
            · exact absurd c76 (by decide)
            · refine al_0 dX8_said_79 ?_
              refine g_X8_12 (2) dX8_said_80 rfl tt1 (rr8_0 tt1) (by omega) ?_
              refine g_X8_324 (15) dX8_said_83 rfl tt2 (rr7_5 tt2) (by omega) ?_
              refine g_X8_249 dX8_said_86 rfl tt15 ?_
              rw [up_s]
              refine wp_goto 94 dX8_said_89 rfl ?_
              refine wp_ireti dX8_said_94 rfl ?_
              obtain ⟨C', E'⟩ := C.t (d := d) (p := p) (f := f) (by omega) (by omega) (by omega) (by omega) (by omega) (by omega) (by omega)
              have e1 : rSaid R d p f = rSai R d p f := by unfold rSaid; rw [if_neg (by omega), if_pos (by omega)]
              rw [e1] at hQ
              exact qv (hQ _ E' C') (by unfold aSaid; rw [if_neg (by omega), if_pos (by omega)])
          · refine bi_m2 dX8_said_49 ?_
            refine wp_ireti dX8_said_51 rfl ?_
            have e1 : rSaid R d p f = R := by unfold rSaid; rw [if_neg (by omega), if_neg (by omega)]
            rw [e1] at hQ
            exact qv (hQ h eqT.rf C) (by unfold aSaid; rw [if_neg (by omega), if_neg (by omega)])
  · refine al_0 dX8_said_5 ?_
    refine g_X8_12 (2) dX8_said_6 rfl tt1 (rr8_0 tt1) (by omega) ?_
    refine g_X8_324 (15) dX8_said_9 rfl tt2 (rr7_5 tt2) (by omega) ?_
    refine c_X8_243 dX8_said_12 rfl tt15 (Nat.le_of_ble_eq_true rfl) (by omega) ?_
    refine wX6_clear (by omega) tt15 ?_
    refine pv_n ?_
    refine ic_0 dX8_said_15 ?_
    refine wp_ireti dX8_said_16 rfl ?_
    obtain ⟨C', E'⟩ := C.t0
    have e1 : rSaid R d p f = ur R 7 0 := by unfold rSaid; rw [if_pos c2]
    rw [e1] at hQ
    exact qv (hQ _ E' C') (by unfold aSaid; rw [if_pos c2])

theorem wX9_said {G : GT} {δ : Nat} {h hl : Nat → Int → Int} {b : Bool × Bool} {Q : V → Hp → Prop} {d p f : Int} {R : Int → Int} {L : Laws} (hδ : δ ≤ 1660) (M : MT h R L)  (hQ : ∀ h' hl', eqM h h' → MT h' (rSaid R d p f) L → Q (vi (aSaid R d p f)) (HS h' hl' b)) : WP G δ 0 0 MX9_said 0 [vr (336), vi d, vi p, vi f, vn] [] (HS h hl b) Q := by
  have m := M.1
  have V := M.2.1
  have vn' := V.n
  have vw := V.w
  refine il_1 dX9_said_0 ?_
  refine ic_m1 dX9_said_1 ?_
  refine wp_icmp_ne 15 dX9_said_2 rfl (fun c2 => ?_) (fun c2 => ?_)
  · refine al_0 dX9_said_15 ?_
    refine il_1 dX9_said_16 ?_
    refine c_X9_332 dX9_said_17 rfl tt336 (Nat.le_of_ble_eq_true rfl) (by omega) ?_
    refine wX9_isDispute (by omega) (by rw [m]; omega) (by rw [m]; omega) ?_
    rw [m]
    refine pv_i ?_
    refine wp_if_eq 53 dX9_said_20 rfl (fun c20 => ?_) (fun c20 => ?_)
    · rw [b2i_0] at c20
      refine bi_m2 dX9_said_53 ?_
      refine wp_ireti dX9_said_55 rfl ?_
      have e1 : rSaid R d p f = R := by unfold rSaid; rw [if_neg (by omega), if_neg (by omega)]
      rw [e1] at hQ
      exact qv (hQ h hl eqM.rf M) (by unfold aSaid; rw [if_neg (by omega), if_neg (by omega)])
    · rw [b2i_n0] at c20
      refine al_0 dX9_said_23 ?_
      refine il_2 dX9_said_24 ?_
      refine c_X9_335 dX9_said_25 rfl tt336 (Nat.le_of_ble_eq_true rfl) (by omega) ?_
      refine wX9_isPerson (by omega) (by rw [m]; omega) (by rw [m]; omega) ?_
      rw [m]
      refine pv_i ?_
      refine wp_if_eq 53 dX9_said_28 rfl (fun c28 => ?_) (fun c28 => ?_)
      · rw [b2i_0] at c28
        refine bi_m2 dX9_said_53 ?_
        refine wp_ireti dX9_said_55 rfl ?_
        have e1 : rSaid R d p f = R := by unfold rSaid; rw [if_neg (by omega), if_neg (by omega)]
        rw [e1] at hQ
        exact qv (hQ h hl eqM.rf M) (by unfold aSaid; rw [if_neg (by omega), if_neg (by omega)])
      · rw [b2i_n0] at c28
        refine il_3 dX9_said_31 ?_
        refine ic_0 dX9_said_32 ?_
        refine bi_9 dX9_said_33 ?_
        refine c_X9_69 dX9_said_35 rfl (Nat.le_of_ble_eq_true rfl) (by omega) ?_
        refine wX9_isIn (by omega) ?_
        refine pv_i ?_
        refine wp_if_eq 53 dX9_said_38 rfl (fun c38 => ?_) (fun c38 => ?_)
        · rw [b2i_0] at c38
          refine bi_m2 dX9_said_53 ?_
          refine wp_ireti dX9_said_55 rfl ?_
          have e1 : rSaid R d p f = R := by unfold rSaid; rw [if_neg (by omega), if_neg (by omega)]
          rw [e1] at hQ
          exact qv (hQ h hl eqM.rf M) (by unfold aSaid; rw [if_neg (by omega), if_neg (by omega)])
        · rw [b2i_n0] at c38
          refine al_0 dX9_said_41 ?_
          refine g_X9_7 (337) dX9_said_42 rfl tt336 (rr9_0 tt336) (by omega) ?_
          refine bi_7 dX9_said_45 ?_
          refine wp_iaload dX9_said_47 tt337 (by omega) (by omega) ?_
          first | rw [m2] | rw [m1] | rw [m] | rw [sw_s] | skip
          refine bi_8 dX9_said_48 ?_
          refine wp_icmp_ne 56 dX9_said_50 rfl (fun c50 => ?_) (fun c50 => ?_)
          · refine bi_59 dX9_said_56 ?_
            refine ic_3 dX9_said_58 ?_
            refine al_0 dX9_said_59 ?_
            refine g_X9_7 (337) dX9_said_60 rfl tt336 (rr9_0 tt336) (by omega) ?_
            refine bi_7 dX9_said_63 ?_
            refine wp_iaload dX9_said_65 tt337 (by omega) (by omega) ?_
            first | rw [m2] | rw [m1] | rw [m] | rw [sw_s] | skip
            refine wp_imul dX9_said_66 (r32 (by omega) (by omega)) ?_
            refine wp_iadd dX9_said_67 (r32 (by omega) (by omega)) ?_
            refine is_4 dX9_said_68 rfl (by decide) ?_
            refine al_0 dX9_said_70 ?_
            refine g_X9_7 (337) dX9_said_71 rfl tt336 (rr9_0 tt336) (by omega) ?_
            refine il_4 dX9_said_74 ?_
            refine il_1 dX9_said_76 ?_
            refine wp_iastore dX9_said_77 tt337 (by omega) (by omega) ?_
            refine al_0 dX9_said_78 ?_
            refine g_X9_7 (337) dX9_said_79 rfl tt336 (rr9_0 tt336) (by omega) ?_
            refine il_4 dX9_said_82 ?_
            refine ic_1 dX9_said_84 ?_
            refine wp_iadd dX9_said_85 (r32 (by omega) (by omega)) ?_
            refine il_2 dX9_said_86 ?_
            refine wp_iastore dX9_said_87 tt337 (by omega) (by omega) ?_
            refine al_0 dX9_said_88 ?_
            refine g_X9_7 (337) dX9_said_89 rfl tt336 (rr9_0 tt336) (by omega) ?_
            refine il_4 dX9_said_92 ?_
            refine ic_2 dX9_said_94 ?_
            refine wp_iadd dX9_said_95 (r32 (by omega) (by omega)) ?_
            refine il_3 dX9_said_96 ?_
            refine wp_iastore dX9_said_97 tt337 (by omega) (by omega) ?_
            refine al_0 dX9_said_98 ?_
            refine g_X9_7 (337) dX9_said_99 rfl tt336 (rr9_0 tt336) (by omega) ?_
            refine bi_7 dX9_said_102 ?_
            refine wp_dup2 dX9_said_104 rfl rfl ?_
            refine wp_iaload dX9_said_105 tt337 (by omega) (by omega) ?_
            rw [up_k (by omega), up_k (by omega), up_k (by omega), m]
            refine ic_1 dX9_said_106 ?_
            refine wp_iadd dX9_said_107 (r32 (by omega) (by omega)) ?_
            refine wp_iastore dX9_said_108 tt337 (by omega) (by omega) ?_
            refine al_0 dX9_said_109 ?_
            refine g_X9_7 (337) dX9_said_110 rfl tt336 (rr9_0 tt336) (by omega) ?_
            refine bi_7 dX9_said_113 ?_
            refine wp_iaload dX9_said_115 tt337 (by omega) (by omega) ?_
            rw [up_s]
            refine wp_ireti dX9_said_116 rfl ?_
            have e1 : rSaid R d p f = rSai R d p f := by unfold rSaid; rw [if_neg (by omega), if_pos (by omega)]
            rw [e1] at hQ
            exact qv (hQ _ hl ((((eqM.rf.up (by omega)).up (by omega)).up (by omega)).up (by omega)) (M.nx ((((eqM.rf.up (by omega)).up (by omega)).up (by omega)).up (by omega)) (by rw [up_ur, up_ur, up_ur, up_ur, m]; rfl) (v_t V (by omega) (by omega) (by omega) (by omega) (by omega) (by omega) (by omega)) (e_t V (by omega) 2 (by omega) (by omega) (by omega) (by omega) (by omega)))) (by unfold aSaid; rw [if_neg (by omega), if_pos (by omega)])
          · refine bi_m2 dX9_said_53 ?_
            refine wp_ireti dX9_said_55 rfl ?_
            have e1 : rSaid R d p f = R := by unfold rSaid; rw [if_neg (by omega), if_neg (by omega)]
            rw [e1] at hQ
            exact qv (hQ h hl eqM.rf M) (by unfold aSaid; rw [if_neg (by omega), if_neg (by omega)])
  · refine al_0 dX9_said_5 ?_
    refine g_X9_7 (337) dX9_said_6 rfl tt336 (rr9_0 tt336) (by omega) ?_
    refine bi_7 dX9_said_9 ?_
    refine ic_0 dX9_said_11 ?_
    refine wp_iastore dX9_said_12 tt337 (by omega) (by omega) ?_
    refine ic_0 dX9_said_13 ?_
    refine wp_ireti dX9_said_14 rfl ?_
    have e1 : rSaid R d p f = ur R 7 0 := by unfold rSaid; rw [if_pos c2]
    rw [e1] at hQ
    exact qv (hQ _ hl (eqM.rf.up (by omega)) (M.nx (eqM.rf.up (by omega)) (by rw [up_ur, m]) (v_t0 V) (ur_n (by decide)))) (by unfold aSaid; rw [if_pos c2])

theorem wX8_by {G : GT} {δ : Nat} {h hl : Nat → Int → Int} {b : Bool × Bool} {Q : V → Hp → Prop} {t : Int} {R : Int → Int} {L : Laws} (hδ : δ ≤ 1680) (C : CT h R L)  (hQ : ∀ h', eqT h h' → CT h' (rBy R t) L → Q (vi (aBy R t)) (HS h' hl b)) : WP G δ 0 0 MX8_by 0 [vr (1), vi t] [] (HS h hl b) Q := by
  obtain ⟨⟨s0, s3, s4, s1, s2, s5⟩, ⟨t0, t1, t5, t6, t7⟩, ⟨g7, g8, g11, g10, g10x⟩⟩ := C.1.f
  have vn' := C.2.1.n
  have vw := C.2.1.w
  refine il_1 dX8_by_0 ?_
  refine ic_m1 dX8_by_1 ?_
  refine wp_icmp_eq 18 dX8_by_2 rfl (fun c2 => ?_) (fun c2 => ?_)
  · refine al_0 dX8_by_18 ?_
    refine g_X8_12 (2) dX8_by_19 rfl tt1 (rr8_0 tt1) (by omega) ?_
    refine il_1 dX8_by_22 ?_
    refine p_X8_98 dX8_by_23 rfl tt2 ?_
    refine ic_1 dX8_by_26 ?_
    refine wp_iretz dX8_by_27 rfl (by omega) ?_
    obtain ⟨C', E'⟩ := C.by (x := t) (by omega) (by omega)
    have e1 : rBy R t = ur R 3 t := by unfold rBy; rw [if_pos (by omega)]
    rw [e1] at hQ
    exact qv (hQ _ E' C') (by unfold aBy; rw [if_pos (by omega)])
  · refine al_0 dX8_by_5 ?_
    refine g_X8_12 (2) dX8_by_6 rfl tt1 (rr8_0 tt1) (by omega) ?_
    refine il_1 dX8_by_9 ?_
    refine c_X8_94 dX8_by_10 rfl tt2 (Nat.le_of_ble_eq_true rfl) (by omega) ?_
    refine wX7_hasText (by omega) ?_
    rw [g7]
    refine pv_i ?_
    refine wp_if_ne 18 dX8_by_13 rfl (fun c13 => ?_) (fun c13 => ?_)
    · rw [b2i_n0] at c13
      refine al_0 dX8_by_18 ?_
      refine g_X8_12 (2) dX8_by_19 rfl tt1 (rr8_0 tt1) (by omega) ?_
      refine il_1 dX8_by_22 ?_
      refine p_X8_98 dX8_by_23 rfl tt2 ?_
      refine ic_1 dX8_by_26 ?_
      refine wp_iretz dX8_by_27 rfl (by omega) ?_
      obtain ⟨C', E'⟩ := C.by (x := t) (by omega) (by omega)
      have e1 : rBy R t = ur R 3 t := by unfold rBy; rw [if_pos (by omega)]
      rw [e1] at hQ
      exact qv (hQ _ E' C') (by unfold aBy; rw [if_pos (by omega)])
    · rw [b2i_0] at c13
      refine ic_0 dX8_by_16 ?_
      refine wp_iretz dX8_by_17 rfl (by omega) ?_
      have e1 : rBy R t = R := by unfold rBy; rw [if_neg (by omega)]
      rw [e1] at hQ
      exact qv (hQ h eqT.rf C) (by unfold aBy; rw [if_neg (by omega)])

theorem wX9_by {G : GT} {δ : Nat} {h hl : Nat → Int → Int} {b : Bool × Bool} {Q : V → Hp → Prop} {t : Int} {R : Int → Int} {L : Laws} (hδ : δ ≤ 1680) (M : MT h R L)  (hQ : ∀ h' hl', eqM h h' → MT h' (rBy R t) L → Q (vi (aBy R t)) (HS h' hl' b)) : WP G δ 0 0 MX9_by 0 [vr (336), vi t] [] (HS h hl b) Q := by
  have m := M.1
  have V := M.2.1
  have vn' := V.n
  have vw := V.w
  refine il_1 dX9_by_0 ?_
  refine ic_m1 dX9_by_1 ?_
  refine al_0 dX9_by_2 ?_
  refine g_X9_7 (337) dX9_by_3 rfl tt336 (rr9_0 tt336) (by omega) ?_
  refine ic_2 dX9_by_6 ?_
  refine wp_iaload dX9_by_7 tt337 (by omega) (by omega) ?_
  first | rw [m2] | rw [m1] | rw [m] | rw [sw_s] | skip
  refine ic_1 dX9_by_8 ?_
  refine wp_isub dX9_by_9 (r32 (by omega) (by omega)) ?_
  refine c_X9_69 dX9_by_10 rfl (Nat.le_of_ble_eq_true rfl) (by omega) ?_
  refine wX9_isIn (by omega) ?_
  refine pv_i ?_
  refine wp_if_ne 18 dX9_by_13 rfl (fun c13 => ?_) (fun c13 => ?_)
  · rw [b2i_n0] at c13
    refine al_0 dX9_by_18 ?_
    refine g_X9_7 (337) dX9_by_19 rfl tt336 (rr9_0 tt336) (by omega) ?_
    refine ic_3 dX9_by_22 ?_
    refine il_1 dX9_by_23 ?_
    refine wp_iastore dX9_by_24 tt337 (by omega) (by omega) ?_
    refine ic_1 dX9_by_25 ?_
    refine wp_iretz dX9_by_26 rfl (by omega) ?_
    have e1 : rBy R t = ur R 3 t := by unfold rBy; rw [if_pos (by omega)]
    rw [e1] at hQ
    exact qv (hQ _ hl (eqM.rf.up (by omega)) (M.nx (eqM.rf.up (by omega)) (by rw [up_ur, m]) (v_by V (by omega) (by omega)) (ur_n (by decide)))) (by unfold aBy; rw [if_pos (by omega)])
  · rw [b2i_0] at c13
    refine ic_0 dX9_by_16 ?_
    refine wp_iretz dX9_by_17 rfl (by omega) ?_
    have e1 : rBy R t = R := by unfold rBy; rw [if_neg (by omega)]
    rw [e1] at hQ
    exact qv (hQ h hl eqM.rf M) (by unfold aBy; rw [if_neg (by omega)])

theorem wX8_person {G : GT} {δ : Nat} {h hl : Nat → Int → Int} {b : Bool × Bool} {Q : V → Hp → Prop} {x s : Int} {R : Int → Int} {L : Laws} (hδ : δ ≤ 1660) (C : CT h R L)  (hQ : ∀ h', eqT h h' → CT h' (rPer R x s) L → Q (vi (aPer R x s)) (HS h' hl b)) : WP G δ 0 0 MX8_person 0 [vr (1), vi x, vi s] [] (HS h hl b) Q := by
  obtain ⟨⟨s0, s3, s4, s1, s2, s5⟩, ⟨t0, t1, t5, t6, t7⟩, ⟨g7, g8, g11, g10, g10x⟩⟩ := C.1.f
  have vn' := C.2.1.n
  have vw := C.2.1.w
  refine al_0 dX8_person_0 ?_
  refine g_X8_12 (2) dX8_person_1 rfl tt1 (rr8_0 tt1) (by omega) ?_
  refine il_1 dX8_person_4 ?_
  refine il_2 dX8_person_5 ?_
  refine c_X8_47 dX8_person_6 rfl tt2 (Nat.le_of_ble_eq_true rfl) (by omega) ?_
  refine wX7_tellPerson (by omega) C (fun nc => ?_) (fun yc h1 E1 C1 => ?_)
  · refine pv_i (wp_ireti dX8_person_9 rfl ?_)
    have e1 : rPer R x s = R := by unfold rPer; exact if_neg (by unfold canTell at nc; exact nc)
    rw [e1] at hQ
    exact qv (hQ h eqT.rf C) (by unfold aPer; exact if_neg (by unfold canTell at nc; exact nc))
  refine pv_i ?_
  refine wp_ireti dX8_person_9 rfl ?_
  have e1 : rPer R x s = rPerson R x s := by unfold rPer; exact if_pos (by unfold canTell at yc; exact yc)
  rw [e1] at hQ
  exact qv (hQ h1 E1 C1) (by unfold aPer; exact if_pos (by unfold canTell at yc; exact yc))

theorem wX8_dispute {G : GT} {δ : Nat} {h hl : Nat → Int → Int} {b : Bool × Bool} {Q : V → Hp → Prop} {l : Int} {R : Int → Int} {L : Laws} (hδ : δ ≤ 1660) (C : CT h R L)  (hQ : ∀ h', eqT h h' → CT h' (rDis R l) L → Q (vi (aDis R l)) (HS h' hl b)) : WP G δ 0 0 MX8_dispute 0 [vr (1), vi l] [] (HS h hl b) Q := by
  obtain ⟨⟨s0, s3, s4, s1, s2, s5⟩, ⟨t0, t1, t5, t6, t7⟩, ⟨g7, g8, g11, g10, g10x⟩⟩ := C.1.f
  have vn' := C.2.1.n
  have vw := C.2.1.w
  refine al_0 dX8_dispute_0 ?_
  refine g_X8_12 (2) dX8_dispute_1 rfl tt1 (rr8_0 tt1) (by omega) ?_
  refine il_1 dX8_dispute_4 ?_
  refine c_X8_51 dX8_dispute_5 rfl tt2 (Nat.le_of_ble_eq_true rfl) (by omega) ?_
  refine wX7_tellDispute (by omega) C (fun nc => ?_) (fun yc h1 E1 C1 => ?_)
  · refine pv_i (wp_ireti dX8_dispute_8 rfl ?_)
    have e1 : rDis R l = R := by unfold rDis; exact if_neg (by unfold canTellD at nc; exact nc)
    rw [e1] at hQ
    exact qv (hQ h eqT.rf C) (by unfold aDis; exact if_neg (by unfold canTellD at nc; exact nc))
  refine pv_i ?_
  refine wp_ireti dX8_dispute_8 rfl ?_
  have e1 : rDis R l = rDisp R l := by unfold rDis; exact if_pos (by unfold canTellD at yc; exact yc)
  rw [e1] at hQ
  exact qv (hQ h1 E1 C1) (by unfold aDis; exact if_pos (by unfold canTellD at yc; exact yc))

theorem wX8_argue {G : GT} {δ : Nat} {h hl : Nat → Int → Int} {b : Bool × Bool} {Q : V → Hp → Prop} {d p q : Int} {R : Int → Int} {L : Laws} (hδ : δ ≤ 1580) (C : CT h R L)  (hQ : ∀ h', eqT h h' → CT h' (rArgue L R d p q) L → Q (vi (aArgue L R d p q)) (HS h' hl b)) : WP G δ 0 0 MX8_argue 0 [vr (1), vi d, vi p, vi q] [] (HS h hl b) Q := by
  obtain ⟨⟨s0, s3, s4, s1, s2, s5⟩, ⟨t0, t1, t5, t6, t7⟩, ⟨g7, g8, g11, g10, g10x⟩⟩ := C.1.f
  have vn' := C.2.1.n
  have vw := C.2.1.w
  refine al_0 dX8_argue_0 ?_
  refine g_X8_12 (2) dX8_argue_1 rfl tt1 (rr8_0 tt1) (by omega) ?_
  refine il_1 dX8_argue_4 ?_
  refine il_2 dX8_argue_5 ?_
  refine il_3 dX8_argue_6 ?_
  refine c_X8_101 dX8_argue_7 rfl tt2 (Nat.le_of_ble_eq_true rfl) (by omega) ?_
  refine wX7_argueByHand (by omega) C (fun nc => ?_) (fun yc h1 E1 C1 => ?_)
  · refine pv_i (wp_ireti dX8_argue_10 rfl ?_)
    have e1 : rArgue L R d p q = R := by unfold rArgue; exact if_neg (by unfold canArg at nc; exact nc)
    rw [e1] at hQ
    exact qv (hQ h eqT.rf C) (by unfold aArgue; exact if_neg (by unfold canArg at nc; exact nc))
  refine pv_i ?_
  refine wp_ireti dX8_argue_10 rfl ?_
  have e1 : rArgue L R d p q = rArg L true (rKeep R) d p q := by unfold rArgue; exact if_pos (by unfold canArg at yc; exact yc)
  rw [e1] at hQ
  exact qv (hQ h1 E1 C1) (by unfold aArgue; exact if_pos (by unfold canArg at yc; exact yc))

theorem wX8_pour {G : GT} {δ : Nat} {h hl : Nat → Int → Int} {b : Bool × Bool} {Q : V → Hp → Prop} {p x : Int} {R : Int → Int} {L : Laws} (hδ : δ ≤ 1620) (C : CT h R L)  (hQ : ∀ h', eqT h h' → CT h' (rPourH R p x) L → Q (vi (aPourH R p x)) (HS h' hl b)) : WP G δ 0 0 MX8_pour 0 [vr (1), vi p, vi x] [] (HS h hl b) Q := by
  obtain ⟨⟨s0, s3, s4, s1, s2, s5⟩, ⟨t0, t1, t5, t6, t7⟩, ⟨g7, g8, g11, g10, g10x⟩⟩ := C.1.f
  have vn' := C.2.1.n
  have vw := C.2.1.w
  refine al_0 dX8_pour_0 ?_
  refine g_X8_12 (2) dX8_pour_1 rfl tt1 (rr8_0 tt1) (by omega) ?_
  refine il_1 dX8_pour_4 ?_
  refine il_2 dX8_pour_5 ?_
  refine c_X8_105 dX8_pour_6 rfl tt2 (Nat.le_of_ble_eq_true rfl) (by omega) ?_
  refine wX7_pourByHand (by omega) C (fun nc => ?_) (fun yc h1 E1 C1 => ?_)
  · refine pv_i (wp_iretz dX8_pour_9 rfl (by omega) ?_)
    have e1 : rPourH R p x = R := by unfold rPourH; exact if_neg (by unfold canPr at nc; exact nc)
    rw [e1] at hQ
    exact qv (hQ h eqT.rf C) (by unfold aPourH; exact if_neg (by unfold canPr at nc; exact nc))
  refine pv_i ?_
  refine wp_iretz dX8_pour_9 rfl (by omega) ?_
  have e1 : rPourH R p x = rPour (rKeep R) p x := by unfold rPourH; exact if_pos (by unfold canPr at yc; exact yc)
  rw [e1] at hQ
  exact qv (hQ h1 E1 C1) (by unfold aPourH; exact if_pos (by unfold canPr at yc; exact yc))

theorem wX8_snuff {G : GT} {δ : Nat} {h hl : Nat → Int → Int} {b : Bool × Bool} {Q : V → Hp → Prop} {l : Int} {R : Int → Int} {L : Laws} (hδ : δ ≤ 1620) (C : CT h R L)  (hQ : ∀ h', eqT h h' → CT h' (rSnuffH R l) L → Q (vi (aSnuffH R l)) (HS h' hl b)) : WP G δ 0 0 MX8_snuff 0 [vr (1), vi l] [] (HS h hl b) Q := by
  obtain ⟨⟨s0, s3, s4, s1, s2, s5⟩, ⟨t0, t1, t5, t6, t7⟩, ⟨g7, g8, g11, g10, g10x⟩⟩ := C.1.f
  have vn' := C.2.1.n
  have vw := C.2.1.w
  refine al_0 dX8_snuff_0 ?_
  refine g_X8_12 (2) dX8_snuff_1 rfl tt1 (rr8_0 tt1) (by omega) ?_
  refine il_1 dX8_snuff_4 ?_
  refine c_X8_109 dX8_snuff_5 rfl tt2 (Nat.le_of_ble_eq_true rfl) (by omega) ?_
  refine wX7_snuffByHand (by omega) C (fun nc => ?_) (fun yc h1 E1 C1 => ?_)
  · refine pv_i (wp_iretz dX8_snuff_8 rfl (by omega) ?_)
    have e1 : rSnuffH R l = R := by unfold rSnuffH; exact if_neg (by exact nc)
    rw [e1] at hQ
    exact qv (hQ h eqT.rf C) (by unfold aSnuffH; exact if_neg (by exact nc))
  refine pv_i ?_
  refine wp_iretz dX8_snuff_8 rfl (by omega) ?_
  have e1 : rSnuffH R l = rSnuff (rKeep R) l := by unfold rSnuffH; exact if_pos (by exact yc)
  rw [e1] at hQ
  exact qv (hQ h1 E1 C1) (by unfold aSnuffH; exact if_pos (by exact yc))

theorem wX8_undo {G : GT} {δ : Nat} {h hl : Nat → Int → Int} {b : Bool × Bool} {Q : V → Hp → Prop} {R : Int → Int} {L : Laws} (hδ : δ ≤ 1660) (C : CT h R L) (tc : TC R) (hQ : ∀ h', eqT h h' → CT h' (rUndo R) L → Q (vi (aUndo R)) (HS h' hl b)) : WP G δ 0 0 MX8_undo 0 [vr (1)] [] (HS h hl b) Q := by
  obtain ⟨⟨s0, s3, s4, s1, s2, s5⟩, ⟨t0, t1, t5, t6, t7⟩, ⟨g7, g8, g11, g10, g10x⟩⟩ := C.1.f
  have vn' := C.2.1.n
  have vw := C.2.1.w
  refine al_0 dX8_undo_0 ?_
  refine g_X8_12 (2) dX8_undo_1 rfl tt1 (rr8_0 tt1) (by omega) ?_
  refine c_X8_142 dX8_undo_4 rfl tt2 (Nat.le_of_ble_eq_true rfl) (by omega) ?_
  refine wX7_takeBack (by omega) C tc (fun nc => ?_) (fun yc h1 E1 C1 => ?_)
  · refine pv_i (wp_ireti dX8_undo_7 rfl ?_)
    have e1 : rUndo R = R := by unfold rUndo; exact if_pos nc
    rw [e1] at hQ
    exact qv (hQ h eqT.rf C) (by unfold aUndo; exact (if_pos nc))
  refine pv_i ?_
  refine wp_ireti dX8_undo_7 rfl ?_
  have e1 : rUndo R = rBack R := by unfold rUndo; exact if_neg (by omega)
  rw [e1] at hQ
  exact qv (hQ h1 E1 C1) (by unfold aUndo; exact if_neg (by omega))

theorem wX8_night {G : GT} {δ : Nat} {h hl : Nat → Int → Int} {b : Bool × Bool} {Q : V → Hp → Prop} {n : Int} {R : Int → Int} {L : Laws} (hδ : δ ≤ 1580) (C : CT h R L)  (hQ : ∀ h', eqT h h' → CT h' (rNight L R n) L → Q (vi (aNight L R n)) (HS h' hl b)) : WP G δ 0 0 MX8_night 0 [vr (1), vi n, vn] [] (HS h hl b) Q := by
  obtain ⟨⟨s0, s3, s4, s1, s2, s5⟩, ⟨t0, t1, t5, t6, t7⟩, ⟨g7, g8, g11, g10, g10x⟩⟩ := C.1.f
  have vn' := C.2.1.n
  have vw := C.2.1.w
  refine il_1 dX8_night_0 ?_
  refine ic_1 dX8_night_1 ?_
  refine wp_icmp_lt 29 dX8_night_2 rfl (fun c2 => ?_) (fun c2 => ?_)
  · refine ic_m1 dX8_night_29 ?_
    refine wp_ireti dX8_night_30 rfl ?_
    have e1 : rNight L R n = R := by unfold rNight; rw [if_neg (by omega)]
    rw [e1] at hQ
    exact qv (hQ h eqT.rf C) (by unfold aNight; rw [if_neg (by omega)])
  · refine il_1 dX8_night_5 ?_
    refine bi_60 dX8_night_6 ?_
    refine wp_icmp_gt 29 dX8_night_8 rfl (fun c8 => ?_) (fun c8 => ?_)
    · refine ic_m1 dX8_night_29 ?_
      refine wp_ireti dX8_night_30 rfl ?_
      have e1 : rNight L R n = R := by unfold rNight; rw [if_neg (by omega)]
      rw [e1] at hQ
      exact qv (hQ h eqT.rf C) (by unfold aNight; rw [if_neg (by omega)])
    · refine al_0 dX8_night_11 ?_
      refine g_X8_12 (2) dX8_night_12 rfl tt1 (rr8_0 tt1) (by omega) ?_
      refine g_X8_112 (3) dX8_night_15 rfl tt2 (rr7_0 tt2) (by omega) ?_
      refine g_X8_115 dX8_night_18 rfl tt3 ?_
      rw [s3]
      refine il_1 dX8_night_21 ?_
      refine wp_iadd dX8_night_22 (r32 (by omega) (by omega)) ?_
      refine si_9999 dX8_night_23 ?_
      refine wp_icmp_le 31 dX8_night_26 rfl (fun c26 => ?_) (fun c26 => ?_)
      · refine al_0 dX8_night_31 ?_
        refine g_X8_12 (2) dX8_night_32 rfl tt1 (rr8_0 tt1) (by omega) ?_
        refine g_X8_112 (3) dX8_night_35 rfl tt2 (rr7_0 tt2) (by omega) ?_
        refine c_X8_118 dX8_night_38 rfl tt3 (Nat.le_of_ble_eq_true rfl) (by omega) ?_
        refine wX5_oilOfAll (by omega) (by omega) (by omega) (fun j j0 j1 => by rw [C.1.oil j j0 (by omega)]; exact C.2.1.oil j j0 (by omega)) ?_
        rw [show sumN (h 4) (h 3 0).toNat = allOil R from by rw [s0]; exact sumN_c _ (fun j j0 j1 => C.1.oil j j0 (by omega))]
        refine pv_i ?_
        refine is_2 dX8_night_41 rfl (by decide) ?_
        refine al_0 dX8_night_42 ?_
        refine g_X8_12 (2) dX8_night_43 rfl tt1 (rr8_0 tt1) (by omega) ?_
        refine il_1 dX8_night_46 ?_
        refine ic_1 dX8_night_47 ?_
        refine c_X8_122 dX8_night_48 rfl tt2 (Nat.le_of_ble_eq_true rfl) (by omega) ?_
        refine wX7_passNights (sB := true) (by omega) rfl (by omega) (by omega) C (fun h1 E1 C1 => ?_)
        have z0 := C1.1.f.1.1
        have z1 := C1.2.1.n
        have a1 := allOil_R C.2.1.2.1
        have a2 := allOil_R C1.2.1.2.1
        refine pv_i ?_
        refine wp_pop dX8_night_51 rfl ?_
        refine il_2 dX8_night_52 ?_
        refine al_0 dX8_night_53 ?_
        refine g_X8_12 (2) dX8_night_54 rfl tt1 (rr8_0 tt1) (by omega) ?_
        refine g_X8_112 (3) dX8_night_57 rfl tt2 (rr7_0 tt2) (by omega) ?_
        refine c_X8_118 dX8_night_60 rfl tt3 (Nat.le_of_ble_eq_true rfl) (by omega) ?_
        refine wX5_oilOfAll (by omega) (by omega) (by omega) (fun j j0 j1 => by rw [C1.1.oil j j0 (by omega)]; exact C1.2.1.oil j j0 (by omega)) ?_
        rw [show sumN (h1 4) (h1 3 0).toNat = allOil (rNts L true true n.toNat R) from by rw [z0]; exact sumN_c _ (fun j j0 j1 => C1.1.oil j j0 (by omega))]
        refine pv_i ?_
        refine wp_isub dX8_night_63 (r32 (by omega) (by omega)) ?_
        refine wp_ireti dX8_night_64 rfl ?_
        have e1 : rNight L R n = rNts L true true n.toNat R := by unfold rNight; exact if_pos (by omega)
        rw [e1] at hQ
        exact qv (hQ h1 E1 C1) (by unfold aNight; exact if_pos (by omega))
      · refine ic_m1 dX8_night_29 ?_
        refine wp_ireti dX8_night_30 rfl ?_
        have e1 : rNight L R n = R := by unfold rNight; rw [if_neg (by omega)]
        rw [e1] at hQ
        exact qv (hQ h eqT.rf C) (by unfold aNight; rw [if_neg (by omega)])

theorem wX8_years_50 {G : GT} {δ : Nat} {hl : Nat → Int → Int} {b : Bool × Bool} {Q : V → Hp → Prop} {L : Laws} {n s : Int} (hδ : δ ≤ 1560) (n1 : n ≤ 40) :
    ∀ (m : Nat) (k : Int) (h : Nat → Int → Int) (R : Int → Int), (n - k).toNat = m → 0 ≤ k → k ≤ n → CT h R L →
      (∀ h', eqT h h' → CT h' (rYrs L true m R) L → Q (vi (rYrs L true m R 8)) (HS h' hl b)) → WP G δ 0 0 MX8_years 50 [vr 1, vi s, vi n, vi k] [] (HS h hl b) Q := by
  intro m0
  induction m0 with
  | zero =>
    intro k h R hm k0 k1 C hQ
    obtain ⟨⟨s0, s3, s4, s1, s2, s5⟩, ⟨t0, t1, t5, t6, t7⟩, ⟨g7, g8, g11, g10, g10x⟩⟩ := C.1.f
    have vn' := C.2.1.n
    have vw := C.2.1.w
    refine il_3 dX8_years_50 ?_
    refine il_2 dX8_years_51 ?_
    refine wp_icmp_ge 68 dX8_years_52 rfl (fun c52 => ?_) (fun c52 => ?_)
    · refine al_0 dX8_years_68 ?_
      refine g_X8_12 (2) dX8_years_69 rfl tt1 (rr8_0 tt1) (by omega) ?_
      refine g_X8_112 (3) dX8_years_72 rfl tt2 (rr7_0 tt2) (by omega) ?_
      refine g_X8_115 dX8_years_75 rfl tt3 ?_
      rw [s3]
      refine wp_ireti dX8_years_78 rfl ?_
      exact hQ h eqT.rf C
    · omega
  | succ m0 ih =>
    intro k h R hm k0 k1 C hQ
    refine il_3 dX8_years_50 ?_
    refine il_2 dX8_years_51 ?_
    refine wp_icmp_ge 68 dX8_years_52 rfl (fun c52 => ?_) (fun c52 => ?_)
    · omega
    · refine al_0 dX8_years_55 ?_
      refine g_X8_12 (2) dX8_years_56 rfl tt1 (rr8_0 tt1) (by omega) ?_
      refine c_X8_139 dX8_years_59 rfl tt2 (Nat.le_of_ble_eq_true rfl) (by omega) ?_
      refine wX7_drawYear (by omega) C (fun h1 E1 C1 => ?_)
      refine pv_n ?_
      refine ii_3 dX8_years_62 rfl (by decide) ⟨by decide, by decide⟩ (r32 (by omega) (by omega)) ?_
      refine wp_goto 50 dX8_years_65 rfl ?_
      refine ih (k + 1) h1 _ (by omega) (by omega) (by omega) C1 (fun h3 E3 C3 => ?_)
      exact hQ h3 (E1.tr E3) C3

theorem wX8_years {G : GT} {δ : Nat} {h hl : Nat → Int → Int} {b : Bool × Bool} {Q : V → Hp → Prop} {s n : Int} {R : Int → Int} {L : Laws} (hδ : δ ≤ 1560) (C : CT h R L)  (hQ : ∀ h', eqT h h' → CT h' (rYears L R s n) L → Q (vi (aYears L R s n)) (HS h' hl b)) : WP G δ 0 0 MX8_years 0 [vr (1), vi s, vi n, vn] [] (HS h hl b) Q := by
  obtain ⟨⟨s0, s3, s4, s1, s2, s5⟩, ⟨t0, t1, t5, t6, t7⟩, ⟨g7, g8, g11, g10, g10x⟩⟩ := C.1.f
  have vn' := C.2.1.n
  have vw := C.2.1.w
  refine il_1 dX8_years_0 ?_
  refine wp_if_lt 22 dX8_years_1 rfl (fun c1 => ?_) (fun c1 => ?_)
  · refine ic_m1 dX8_years_22 ?_
    refine wp_ireti dX8_years_23 rfl ?_
    have e1 : rYears L R s n = R := by unfold rYears; rw [if_neg (by omega)]
    rw [e1] at hQ
    exact qv (hQ h eqT.rf C) (by unfold aYears; rw [if_neg (by omega)])
  · refine il_1 dX8_years_4 ?_
    refine si_9999 dX8_years_5 ?_
    refine wp_icmp_gt 22 dX8_years_8 rfl (fun c8 => ?_) (fun c8 => ?_)
    · refine ic_m1 dX8_years_22 ?_
      refine wp_ireti dX8_years_23 rfl ?_
      have e1 : rYears L R s n = R := by unfold rYears; rw [if_neg (by omega)]
      rw [e1] at hQ
      exact qv (hQ h eqT.rf C) (by unfold aYears; rw [if_neg (by omega)])
    · refine il_2 dX8_years_11 ?_
      refine ic_1 dX8_years_12 ?_
      refine wp_icmp_lt 22 dX8_years_13 rfl (fun c13 => ?_) (fun c13 => ?_)
      · refine ic_m1 dX8_years_22 ?_
        refine wp_ireti dX8_years_23 rfl ?_
        have e1 : rYears L R s n = R := by unfold rYears; rw [if_neg (by omega)]
        rw [e1] at hQ
        exact qv (hQ h eqT.rf C) (by unfold aYears; rw [if_neg (by omega)])
      · refine il_2 dX8_years_16 ?_
        refine bi_40 dX8_years_17 ?_
        refine wp_icmp_le 24 dX8_years_19 rfl (fun c19 => ?_) (fun c19 => ?_)
        · refine al_0 dX8_years_24 ?_
          refine g_X8_12 (2) dX8_years_25 rfl tt1 (rr8_0 tt1) (by omega) ?_
          refine c_X8_133 dX8_years_28 rfl tt2 (Nat.le_of_ble_eq_true rfl) (by omega) ?_
          refine wX7_beginStep (by omega) C (fun h1 E1 C1 => ?_)
          refine pv_n ?_
          refine al_0 dX8_years_31 ?_
          refine g_X8_12 (2) dX8_years_32 rfl tt1 (rr8_0 tt1) (by omega) ?_
          refine g_X8_112 (3) dX8_years_35 rfl tt2 (rr7_0 tt2) (by omega) ?_
          refine il_1 dX8_years_38 ?_
          refine ic_2 dX8_years_39 ?_
          refine wp_imul dX8_years_40 (r32 (by omega) (by omega)) ?_
          refine si_367 dX8_years_41 ?_
          refine wp_iadd dX8_years_44 (r32 (by omega) (by omega)) ?_
          refine p_X8_136 dX8_years_45 rfl tt3 ?_
          refine ic_0 dX8_years_48 ?_
          refine is_3 dX8_years_49 rfl (by decide) ?_
          have Ex : nowEq (rKeep R) (ur (rKeep R) 9 (s * 2 + 367)) := nowEq.rf.ur (by omega)
          have C2 : CT (up h1 3 4 (s * 2 + 367)) (ur (rKeep R) 9 (s * 2 + 367)) L := C1.nw Ex C1.1.1.xx (eqX.rf.up (by decide)) (C1.2.1.2.1.xx (by omega) (by omega))
          refine wX8_years_50 (by omega) (by omega) n.toNat 0 _ _ (by omega) (by omega) (by omega) C2 (fun h3 E3 C3 => ?_)
          have e1 : rYears L R s n = rYrs L true n.toNat (ur (rKeep R) 9 (s * 2 + 367)) := by unfold rYears; exact if_pos (by omega)
          rw [e1] at hQ
          exact qv (hQ h3 ((E1.up (by omega)).tr E3) C3) (by unfold aYears; exact if_pos (by omega))
        · refine ic_m1 dX8_years_22 ?_
          refine wp_ireti dX8_years_23 rfl ?_
          have e1 : rYears L R s n = R := by unfold rYears; rw [if_neg (by omega)]
          rw [e1] at hQ
          exact qv (hQ h eqT.rf C) (by unfold aYears; rw [if_neg (by omega)])

theorem uX9_person {G : GT} {δ : Nat} {h hl : Nat → Int → Int} {b : Bool × Bool} {Q : V → Hp → Prop} {x s : Int} {R : Int → Int} {L : Laws} (hδ : δ ≤ 1680) (M : MT h R L)
  (hQ : ∀ h' hl', eqM h h' → MT h' (rPer R x s) L → Q (vi (aPer R x s)) (HS h' hl' b)) : WP G δ 0 0 MX9_person 0 [vr (336), vi x, vi s, vn] [] (HS h hl b) Q := by
  refine wX9_person hδ M (fun nc => ?_) (fun yc h1 E1 M1 => ?_)
  · have e1 : rPer R x s = R := by unfold rPer; exact if_neg (by unfold canTell at nc; exact nc)
    rw [e1] at hQ
    exact qv (hQ h hl eqM.rf M) (by unfold aPer; exact if_neg (by unfold canTell at nc; exact nc))
  · have e1 : rPer R x s = rPerson R x s := by unfold rPer; exact if_pos (by unfold canTell at yc; exact yc)
    rw [e1] at hQ
    exact qv (hQ h1 hl E1 M1) (by unfold aPer; exact if_pos (by unfold canTell at yc; exact yc))

theorem uX9_dispute {G : GT} {δ : Nat} {h hl : Nat → Int → Int} {b : Bool × Bool} {Q : V → Hp → Prop} {l : Int} {R : Int → Int} {L : Laws} (hδ : δ ≤ 1660) (M : MT h R L)
  (hQ : ∀ h' hl', eqM h h' → MT h' (rDis R l) L → Q (vi (aDis R l)) (HS h' hl' b)) : WP G δ 0 0 MX9_dispute 0 [vr (336), vi l] [] (HS h hl b) Q := by
  refine wX9_dispute hδ M (fun nc => ?_) (fun yc h1 E1 M1 => ?_)
  · have e1 : rDis R l = R := by unfold rDis; exact if_neg (by unfold canTellD at nc; exact nc)
    rw [e1] at hQ
    exact qv (hQ h hl eqM.rf M) (by unfold aDis; exact if_neg (by unfold canTellD at nc; exact nc))
  · have e1 : rDis R l = rDisp R l := by unfold rDis; exact if_pos (by unfold canTellD at yc; exact yc)
    rw [e1] at hQ
    exact qv (hQ h1 hl E1 M1) (by unfold aDis; exact if_pos (by unfold canTellD at yc; exact yc))

theorem uX9_argue {G : GT} {δ : Nat} {h hl : Nat → Int → Int} {b : Bool × Bool} {Q : V → Hp → Prop} {d p q : Int} {R : Int → Int} {L : Laws} (hδ : δ ≤ 1580) (M : MT h R L) (hw : h 336 23 = 1)
  (hQ : ∀ h' hl', eqM h h' → MT h' (rArgue L R d p q) L → Q (vi (aArgue L R d p q)) (HS h' hl' b)) : WP G δ 0 0 MX9_argue 0 [vr (336), vi d, vi p, vi q] [] (HS h hl b) Q := by
  refine wX9_argue (wB := true) hδ M hw (fun nc => ?_) (fun yc h1 hl1 E1 M1 => ?_)
  · have e1 : rArgue L R d p q = R := by unfold rArgue; exact if_neg (by unfold canArg at nc; exact nc)
    rw [e1] at hQ
    exact qv (hQ h hl eqM.rf M) (by unfold aArgue; exact if_neg (by unfold canArg at nc; exact nc))
  · have e1 : rArgue L R d p q = rArg L true (rKeep R) d p q := by unfold rArgue; exact if_pos (by unfold canArg at yc; exact yc)
    rw [e1] at hQ
    exact qv (hQ h1 hl1 E1 M1) (by unfold aArgue; exact if_pos (by unfold canArg at yc; exact yc))

theorem uX9_pour {G : GT} {δ : Nat} {h hl : Nat → Int → Int} {b : Bool × Bool} {Q : V → Hp → Prop} {p x : Int} {R : Int → Int} {L : Laws} (hδ : δ ≤ 1640) (M : MT h R L) (hw : h 336 23 = 1)
  (hQ : ∀ h' hl', eqM h h' → MT h' (rPourH R p x) L → Q (vi (aPourH R p x)) (HS h' hl' b)) : WP G δ 0 0 MX9_pour 0 [vr (336), vi p, vi x] [] (HS h hl b) Q := by
  refine wX9_pour (wB := true) hδ M hw (fun nc => ?_) (fun yc h1 E1 M1 => ?_)
  · have e1 : rPourH R p x = R := by unfold rPourH; exact if_neg (by unfold canPr at nc; exact nc)
    rw [e1] at hQ
    exact qv (hQ h hl eqM.rf M) (by unfold aPourH; exact if_neg (by unfold canPr at nc; exact nc))
  · have e1 : rPourH R p x = rPour (rKeep R) p x := by unfold rPourH; exact if_pos (by unfold canPr at yc; exact yc)
    rw [e1] at hQ
    exact qv (hQ h1 hl E1 M1) (by unfold aPourH; exact if_pos (by unfold canPr at yc; exact yc))

theorem uX9_snuff {G : GT} {δ : Nat} {h hl : Nat → Int → Int} {b : Bool × Bool} {Q : V → Hp → Prop} {l : Int} {R : Int → Int} {L : Laws} (hδ : δ ≤ 1660) (M : MT h R L) (hw : h 336 23 = 1)
  (hQ : ∀ h' hl', eqM h h' → MT h' (rSnuffH R l) L → Q (vi (aSnuffH R l)) (HS h' hl' b)) : WP G δ 0 0 MX9_snuff 0 [vr (336), vi l] [] (HS h hl b) Q := by
  refine wX9_snuff (wB := true) hδ M hw (fun nc => ?_) (fun yc h1 E1 M1 => ?_)
  · have e1 : rSnuffH R l = R := by unfold rSnuffH; exact if_neg (by exact nc)
    rw [e1] at hQ
    exact qv (hQ h hl eqM.rf M) (by unfold aSnuffH; exact if_neg (by exact nc))
  · have e1 : rSnuffH R l = rSnuff (rKeep R) l := by unfold rSnuffH; exact if_pos (by exact yc)
    rw [e1] at hQ
    exact qv (hQ h1 hl E1 M1) (by unfold aSnuffH; exact if_pos (by exact yc))

theorem uX9_night {G : GT} {δ : Nat} {h hl : Nat → Int → Int} {b : Bool × Bool} {Q : V → Hp → Prop} {n : Int} {R : Int → Int} {L : Laws} (hδ : δ ≤ 1540) (M : MT h R L) (hw : h 336 23 = 1)
  (hQ : ∀ h' hl', eqM h h' → MT h' (rNight L R n) L → Q (vi (aNight L R n)) (HS h' hl' b)) : WP G δ 0 0 MX9_night 0 [vr (336), vi n] [] (HS h hl b) Q := by
  refine wX9_night (wB := true) hδ M hw (fun nc => ?_) (fun yc h1 hl1 E1 M1 => ?_)
  · have e1 : rNight L R n = R := by unfold rNight; exact if_neg (by exact nc)
    rw [e1] at hQ
    exact qv (hQ h hl eqM.rf M) (by unfold aNight; exact if_neg (by exact nc))
  · have e1 : rNight L R n = rNts L true true n.toNat R := by unfold rNight; exact if_pos (by exact yc)
    rw [e1] at hQ
    exact qv (hQ h1 hl1 E1 M1) (by unfold aNight; exact if_pos (by exact yc))

theorem uX9_years {G : GT} {δ : Nat} {h hl : Nat → Int → Int} {b : Bool × Bool} {Q : V → Hp → Prop} {s n : Int} {R : Int → Int} {L : Laws} (hδ : δ ≤ 1540) (M : MT h R L) (hw : h 336 23 = 1)
  (hQ : ∀ h' hl', eqM h h' → MT h' (rYears L R s n) L → Q (vi (aYears L R s n)) (HS h' hl' b)) : WP G δ 0 0 MX9_years 0 [vr (336), vi s, vi n, vn, vn] [] (HS h hl b) Q := by
  refine wX9_years (wB := true) hδ M hw (fun nc => ?_) (fun yc h1 hl1 E1 M1 => ?_)
  · have e1 : rYears L R s n = R := by unfold rYears; exact if_neg (by exact nc)
    rw [e1] at hQ
    exact qv (hQ h hl eqM.rf M) (by unfold aYears; exact if_neg (by exact nc))
  · have e1 : rYears L R s n = rYrs L true n.toNat (ur (rKeep R) 9 (s * 2 + 367)) := by unfold rYears; exact if_pos (by exact yc)
    rw [e1] at hQ
    exact qv (hQ h1 hl1 E1 M1) (by unfold aYears; exact if_pos (by exact yc))

theorem uX9_undo {G : GT} {δ : Nat} {h hl : Nat → Int → Int} {b : Bool × Bool} {Q : V → Hp → Prop} {R : Int → Int} {L : Laws} (hδ : δ ≤ 1680) (M : MT h R L)
  (hQ : ∀ h' hl', eqM h h' → MT h' (rUndo R) L → Q (vi (aUndo R)) (HS h' hl' b)) : WP G δ 0 0 MX9_undo 0 [vr (336), vn, vn] [] (HS h hl b) Q := by
  refine wX9_undo hδ M.1 M.2.1 (fun nc => ?_) (fun yc h1 E1 r1 => ?_)
  · have e1 : rUndo R = R := by unfold rUndo; exact if_pos nc
    rw [e1] at hQ
    exact qv (hQ h hl eqM.rf M) (by unfold aUndo; exact (if_pos nc))
  · have e1 : rUndo R = rBack R := by unfold rUndo; exact if_neg (by omega)
    rw [e1] at hQ
    exact qv (hQ h1 hl (eqM.of E1 (by simp)) (M.nx (eqM.of E1 (by simp)) r1 (rBack_V M.2.1 yc) (rBack_o (by decide) (by decide)))) (by unfold aUndo; exact if_neg (by omega))
