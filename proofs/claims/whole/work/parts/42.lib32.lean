/-! how many patterns are reached -/
def cntM (P : Nat → Bool) : Nat → Nat
  | 0 => 0
  | n + 1 => cntM P n + if P n then 1 else 0
theorem cntM_i {P : Int → Bool} : ∀ n : Nat, cntN P n = ((cntM (fun i => P i) n : Nat) : Int)
  | 0 => rfl
  | n + 1 => by
    show cntN P n + _ = ((cntM (fun i => P i) n + _ : Nat) : Int)
    rw [cntM_i n]
    by_cases e : P n = true
    · simp [e]
    · simp [e]
theorem cntM_add {P : Nat → Bool} {a : Nat} : ∀ b : Nat, cntM P (a + b) = cntM P a + cntM (fun i => P (a + i)) b
  | 0 => rfl
  | b + 1 => by
    show cntM P (a + b) + _ = cntM P a + (cntM (fun i => P (a + i)) b + _)
    rw [cntM_add b]; exact Nat.add_assoc _ _ _
theorem cntM_c {P Q : Nat → Bool} : ∀ n : Nat, (∀ i, i < n → P i = Q i) → cntM P n = cntM Q n
  | 0, _ => rfl
  | n + 1, h => by
    show cntM P n + _ = cntM Q n + _
    rw [cntM_c n (fun i hi => h i (by omega)), h n (by omega)]
theorem xor_hi {k a c : Nat} (ha : a < 2 ^ k) (hc : c < 2 ^ k) : (2 ^ k + a) ^^^ c = 2 ^ k + (a ^^^ c) := by
  have hx : a ^^^ c < 2 ^ k := Nat.xor_lt_two_pow ha hc
  apply Nat.eq_of_testBit_eq
  intro j
  rw [Nat.testBit_xor]
  rcases (show j < k ∨ j = k ∨ k < j by omega) with e | e | e
  · rw [Nat.testBit_two_pow_add_gt e, Nat.testBit_two_pow_add_gt e, Nat.testBit_xor]
  · subst e
    rw [Nat.testBit_two_pow_add_eq, Nat.testBit_two_pow_add_eq, Nat.testBit_lt_two_pow ha, Nat.testBit_lt_two_pow hc, Nat.testBit_lt_two_pow hx]; rfl
  · have p : 2 ^ (k + 1) ≤ 2 ^ j := Nat.pow_le_pow_right (by decide) (by omega)
    rw [Nat.pow_succ] at p
    rw [Nat.testBit_lt_two_pow (show 2 ^ k + a < 2 ^ j by omega), Nat.testBit_lt_two_pow (show c < 2 ^ j by omega), Nat.testBit_lt_two_pow (show 2 ^ k + (a ^^^ c) < 2 ^ j by omega)]; rfl
theorem cntM_xor : ∀ (k : Nat) (P : Nat → Bool) (x : Nat), x < 2 ^ k → cntM (fun p => P (p ^^^ x)) (2 ^ k) = cntM P (2 ^ k)
  | 0, P, x, h => by
    have : x = 0 := by simpa using h
    subst this
    rfl
  | k + 1, P, x, h => by
    have q : (2 ^ (k + 1) : Nat) = 2 ^ k + 2 ^ k := by rw [Nat.pow_succ]; omega
    rw [q, cntM_add, cntM_add]
    by_cases e : x < 2 ^ k
    · rw [cntM_xor k P x e]
      have z : cntM (fun i => P ((2 ^ k + i) ^^^ x)) (2 ^ k) = cntM (fun i => (fun j => P (2 ^ k + j)) (i ^^^ x)) (2 ^ k) := cntM_c _ (fun i hi => by rw [xor_hi hi e])
      rw [z, cntM_xor k (fun j => P (2 ^ k + j)) x e]
    · obtain ⟨y, ey⟩ : ∃ y, x = 2 ^ k + y := ⟨x - 2 ^ k, by omega⟩
      have hy : y < 2 ^ k := by omega
      have a : cntM (fun p => P (p ^^^ x)) (2 ^ k) = cntM (fun i => (fun j => P (2 ^ k + j)) (i ^^^ y)) (2 ^ k) := cntM_c _ (fun i hi => by rw [ey, Nat.xor_comm, xor_hi hy hi, Nat.xor_comm])
      have c : cntM (fun i => P ((2 ^ k + i) ^^^ x)) (2 ^ k) = cntM (fun i => P (i ^^^ y)) (2 ^ k) := cntM_c _ (fun i hi => by
        have hxy : i ^^^ y < 2 ^ k := Nat.xor_lt_two_pow hi hy
        have z : (2 ^ k + i) ^^^ x = i ^^^ y := by
          rw [ey]
          have s1 : (2 ^ k + y) = (2 ^ k + 0) ^^^ y := by rw [xor_hi (by omega) hy, Nat.zero_xor]
          rw [s1, ← Nat.xor_assoc, Nat.xor_comm (2 ^ k + i) (2 ^ k + 0), Nat.xor_assoc]
          rw [xor_hi hi hy]
          have s2 : (2 ^ k + (i ^^^ y)) = (2 ^ k + 0) ^^^ (i ^^^ y) := by rw [xor_hi (by omega) hxy, Nat.zero_xor]
          rw [s2, ← Nat.xor_assoc, Nat.xor_self, Nat.zero_xor]
        rw [z])
      rw [a, c, cntM_xor k (fun j => P (2 ^ k + j)) y hy, cntM_xor k P y hy]
      omega
theorem cnt_xor {P : Int → Bool} {x : Int} (x0 : 0 ≤ x) (x1 : x < 1024) : cntN (fun p => P (bxor p x)) 1024 = cntN P 1024 := by
  rw [cntM_i, cntM_i]
  have e : cntM (fun i => P (bxor (i : Int) x)) 1024 = cntM (fun p => (fun j : Nat => P j) (p ^^^ x.toNat)) (2 ^ 10) := cntM_c _ (fun i hi => by rw [bxor_nn (by omega) (by omega) x0 (by omega)]; rfl)
  rw [e, cntM_xor 10 (fun j : Nat => P j) x.toNat (by omega)]
section SPAN
variable {R : Int → Int} {D : Int → Int} {d : Nat} {p q : Int}
def spB (D : Int → Int) (d : Nat) (p : Int) : Bool := anyN (fun s => tuM D s d == p) (2 ^ d)
theorem spB_iff : spB D d p = true ↔ ∃ s : Nat, s < 2 ^ d ∧ tuM D s d = p := by
  unfold spB
  rw [anyN_iff]
  constructor
  · rintro ⟨s, a, b, c⟩
    obtain ⟨k, rfl⟩ := Int.eq_ofNat_of_zero_le a
    exact ⟨k, by omega, eq_of_beq c⟩
  · rintro ⟨s, a, c⟩
    exact ⟨s, by omega, by omega, by rw [c]; exact beq_self_eq_true _⟩
theorem tuM_Rd (r : ∀ i : Int, 0 ≤ i → i < 8 → 0 ≤ D i ∧ D i < 1024) (d8 : d ≤ 8) (s : Int) : 0 ≤ tuM D s d ∧ tuM D s d < 1024 := tuM_R d (fun i a c => r i a (by omega))
theorem spB_s (r : ∀ i : Int, 0 ≤ i → i < 8 → 0 ≤ D i ∧ D i < 1024) (d8 : d < 8) (p0 : 0 ≤ p) (p1 : p < 1024) : spB D (d + 1) p = true ↔ spB D d p = true ∨ spB D d (bxor p (D d)) = true := by
  have rd := r d (by omega) (by omega)
  have q2 : (2 ^ (d + 1) : Nat) = 2 ^ d * 2 := Nat.pow_succ _ _
  rw [spB_iff, spB_iff, spB_iff]
  constructor
  · rintro ⟨s, a, c⟩
    by_cases e : s < 2 ^ d
    · rw [tuM_keep e (tuM_Rd r (by omega) s)] at c
      exact Or.inl ⟨s, e, c⟩
    · obtain ⟨y, ey⟩ : ∃ y, s = 2 ^ d + y := ⟨s - 2 ^ d, by omega⟩
      subst ey
      have t := tuM_Rd r (show d ≤ 8 by omega) (y : Int)
      rw [tuM_more (by omega)] at c
      exact Or.inr ⟨y, by omega, (bx_iff t.1 t.2 rd.1 rd.2 p0 p1).mp c⟩
  · rintro (⟨s, a, c⟩ | ⟨s, a, c⟩)
    · exact ⟨s, by omega, by rw [tuM_keep a (tuM_Rd r (by omega) s)]; exact c⟩
    · have t := tuM_Rd r (show d ≤ 8 by omega) (s : Int)
      exact ⟨2 ^ d + s, by omega, by rw [tuM_more a]; exact (bx_iff t.1 t.2 rd.1 rd.2 p0 p1).mpr c⟩
theorem spB_x (r : ∀ i : Int, 0 ≤ i → i < 8 → 0 ≤ D i ∧ D i < 1024) : ∀ d : Nat, d ≤ 8 → ∀ p q : Int, 0 ≤ p → p < 1024 → 0 ≤ q → q < 1024 → spB D d p = true → spB D d q = true → spB D d (bxor p q) = true
  | 0, _, p, q, p0, p1, q0, q1, hp, hq => by
    obtain ⟨s, a, c⟩ := spB_iff.mp hp
    obtain ⟨s', a', c'⟩ := spB_iff.mp hq
    refine spB_iff.mpr ⟨0, by omega, ?_⟩
    rw [← c, ← c']
    show (0 : Int) = bxor 0 0
    exact bxor_s.symm
  | d + 1, h, p, q, p0, p1, q0, q1, hp, hq => by
    have rd := r d (by omega) (by omega)
    have x := bxor_lt p0 p1 q0 q1
    have xp := bxor_lt p0 p1 rd.1 rd.2
    have xq := bxor_lt q0 q1 rd.1 rd.2
    rw [spB_s r (by omega) x.1 x.2]
    rw [spB_s r (by omega) p0 p1] at hp
    rw [spB_s r (by omega) q0 q1] at hq
    have ih := spB_x r d (by omega)
    rcases hp with hp | hp <;> rcases hq with hq | hq
    · exact Or.inl (ih p q p0 p1 q0 q1 hp hq)
    · right; rw [bxor_as]; exact ih _ _ p0 p1 xq.1 xq.2 hp hq
    · right
      have z := ih _ _ xp.1 xp.2 q0 q1 hp hq
      rw [bxor_as, bxor_comm (D d) q, ← bxor_as] at z
      exact z
    · left
      have z := ih _ _ xp.1 xp.2 xq.1 xq.2 hp hq
      rw [bxor_as, bxor_comm (D d) (bxor q (D d)), bxor_as, bxor_s, bxor_z q0 (by omega)] at z
      exact z
theorem cnt_or {P Q : Int → Bool} : ∀ n : Nat, (∀ i : Int, 0 ≤ i → i < n → ¬ (P i = true ∧ Q i = true)) → cntN (fun i => P i || Q i) n = cntN P n + cntN Q n
  | 0, _ => rfl
  | n + 1, h => by
    have z := h n (by omega) (by omega)
    show cntN (fun i => P i || Q i) n + _ = (cntN P n + _) + (cntN Q n + _)
    rw [cnt_or n (fun i a c => h i a (by omega))]
    cases a : P (n : Int) <;> cases c : Q (n : Int) <;> simp_all <;> omega
theorem spB_0 : cntN (spB D 0) 1024 = 1 := by
  have e : cntN (spB D 0) 1024 = cntN (fun p => p == 0) 1024 := cntN_c _ (fun i a c => by
    show anyN (fun s => tuM D s 0 == i) 1 = (i == 0)
    unfold anyN tuM anyN
    rw [Bool.false_or]
    by_cases q : i = 0
    · subst q; rfl
    · rw [show ((0 : Int) == i) = false by simpa using fun z => q z.symm, show (i == (0 : Int)) = false by simpa using q])
  rw [e]; decide +kernel
theorem spB_cnt (r : ∀ i : Int, 0 ≤ i → i < 8 → 0 ≤ D i ∧ D i < 1024) (d8 : d < 8) : cntN (spB D (d + 1)) 1024 = if spB D d (D d) = true then cntN (spB D d) 1024 else 2 * cntN (spB D d) 1024 := by
  have rd := r d (by omega) (by omega)
  by_cases q : spB D d (D d) = true
  · rw [if_pos q]
    refine cntN_c _ (fun p p0 p1 => ?_)
    have x := bxor_lt p0 (show p < 1024 by omega) rd.1 rd.2
    have a := spB_s r d8 p0 (show p < 1024 by omega)
    by_cases z : spB D d p = true
    · rw [z]; exact a.mpr (Or.inl z)
    · have : ¬ spB D d (bxor p (D d)) = true := fun y => z (by
        have := spB_x r d (by omega) _ _ x.1 x.2 rd.1 rd.2 y q
        rw [bxor_as, bxor_s, bxor_z p0 (by omega)] at this
        exact this)
      have w : ¬ spB D (d + 1) p = true := fun y => by rcases a.mp y with h | h; exact z h; exact this h
      rw [Bool.not_eq_true] at z w
      rw [z, w]
  · rw [if_neg q]
    have e : cntN (spB D (d + 1)) 1024 = cntN (fun p => spB D d p || spB D d (bxor p (D d))) 1024 := cntN_c _ (fun p p0 p1 => by
      have a := spB_s r d8 p0 (show p < 1024 by omega)
      rw [← Bool.or_eq_true] at a
      exact Bool.eq_iff_iff.mpr a)
    rw [e, cnt_or _ (fun p p0 p1 => ?_), cnt_xor (P := spB D d) rd.1 rd.2]
    · omega
    · rintro ⟨a, c⟩
      have x := bxor_lt p0 (show p < 1024 by omega) rd.1 rd.2
      have y := spB_x r d (by omega) _ _ p0 (by omega) x.1 x.2 a c
      rw [← bxor_as, bxor_s, bxor_z0 rd.1 (by omega)] at y
      exact q y
theorem sub_up : ∀ d : Nat, d < 8 → ∀ B : Nat, B < 2 ^ d → ∀ s : Nat, s < 2 ^ d → band (s : Int) (bxor (B : Int) (-1)) = 0 → band (s : Int) (bxor (bor (B : Int) (shl 1 (d : Int))) (-1)) = 0 ∧ band ((2 ^ d + s : Nat) : Int) (bxor (bor (B : Int) (shl 1 (d : Int))) (-1)) = 0 := by decide +kernel
theorem pc_up : ∀ d : Nat, d < 8 → ∀ B : Nat, B < 2 ^ d → pc (bor (B : Int) (shl 1 (d : Int))) = pc (B : Int) + 1 := by decide +kernel
theorem tuM_ext {s : Nat} (r : ∀ i : Int, 0 ≤ i → i < 8 → 0 ≤ D i ∧ D i < 1024) : ∀ n : Nat, d ≤ n → n ≤ 8 → s < 2 ^ d → tuM D s n = tuM D s d
  | 0, a, _, _ => by have : d = 0 := by omega
                     subst this; rfl
  | n + 1, a, c, h => by
    by_cases e : d = n + 1
    · subst e; rfl
    · have p : 2 ^ d ≤ 2 ^ n := Nat.pow_le_pow_right (by decide) (by omega)
      rw [tuM_keep (by omega) (tuM_Rd r (by omega) s), tuM_ext r n (by omega) (by omega) h]
/-- the disputes' lamps, with none beyond -/
def DZ (R : Int → Int) : Int → Int := fun i => if 0 ≤ i ∧ i < R 1 then R (29 + i) else 0
theorem DZ_R (V : RV R) : ∀ i : Int, 0 ≤ i → i < 8 → 0 ≤ DZ R i ∧ DZ R i < 1024 := fun i a c => by
  unfold DZ; split
  · exact V.di i a (by omega)
  · omega
theorem tT_z (V : RV R) {s : Int} : tT R s = tuM (DZ R) s (R 1).toNat := tuM_c _ (fun i a c => by have := V.n; unfold DZ; rw [if_pos (by omega)])
theorem span_b (V : RV R) : ∀ d : Nat, (d : Int) ≤ R 1 → (∀ p : Int, 0 ≤ p → p < 1024 → spB (DZ R) d p = true → ∃ s : Nat, s < 2 ^ d ∧ band (s : Int) (bxor (basN R d) (-1)) = 0 ∧ tuM (DZ R) s d = p) ∧ cntN (spB (DZ R) d) 1024 = shl 1 (pc (basN R d)) ∧ pc (basN R d) ≤ d
  | 0, _ => by
    refine ⟨fun p p0 p1 h => ?_, ?_, ?_⟩
    · obtain ⟨s, a, c⟩ := spB_iff.mp h
      have : s = 0 := by simpa using a
      subst this
      exact ⟨0, by omega, by show band (0 : Int) (bxor 0 (-1)) = 0; decide +kernel, c⟩
    · rw [spB_0]; show (1 : Int) = shl 1 (pc 0); decide +kernel
    · show pc (0 : Int) ≤ 0; decide +kernel
  | d + 1, h => by
    have n := V.n
    obtain ⟨i1, i2, i3⟩ := span_b V d (by omega)
    have r := DZ_R V
    have rd := r d (by omega) (by omega)
    have nn := nS_e V
    have br := basN_R (R := R) d (by omega)
    have q2 : (2 ^ (d + 1) : Nat) = 2 ^ d * 2 := Nat.pow_succ _ _
    have md : 2 ^ d ≤ 2 ^ (R 1).toNat := Nat.pow_le_pow_right (by decide) (by omega)
    have t2 := two_R d (by omega)
    have eD : DZ R d = R (29 + (d : Int)) := by unfold DZ; rw [if_pos (by omega)]
    obtain ⟨B, eB⟩ := Int.eq_ofNat_of_zero_le br.1
    have key : anyN (suP R (basN R d) (R (29 + (d : Int)))) (nS R).toNat = true ↔ spB (DZ R) d (DZ R d) = true := by
      rw [anyN_iff]
      constructor
      · rintro ⟨s, a, c, e⟩
        obtain ⟨k, rfl⟩ := Int.eq_ofNat_of_zero_le a
        unfold suP at e
        rw [Bool.and_eq_true] at e
        have e1 := eq_of_beq e.1
        have e2 : tT R k = R (29 + (d : Int)) := eq_of_beq e.2
        have l := sub_le B (by omega) k (by omega) (by rw [← eB]; exact e1)
        rw [tT_z V, tuM_ext r (R 1).toNat (show d ≤ (R 1).toNat by omega) (by omega) (by omega)] at e2
        exact spB_iff.mpr ⟨k, by omega, by rw [e2, eD]⟩
      · intro e
        obtain ⟨s, a, c, f⟩ := i1 _ rd.1 rd.2 e
        refine ⟨s, by omega, by omega, ?_⟩
        unfold suP
        rw [c, tT_z V, tuM_ext r (R 1).toNat (show d ≤ (R 1).toNat by omega) (by omega) a, f, eD]
        simp
    have cn := spB_cnt r (show d < 8 by omega)
    unfold basN
    by_cases z : anyN (suP R (basN R d) (R (29 + (d : Int)))) (nS R).toNat = true
    · rw [if_pos z, cn, if_pos (key.mp z)]
      refine ⟨fun p p0 p1 hp => ?_, i2, by omega⟩
      have x := bxor_lt p0 p1 rd.1 rd.2
      have hp' : spB (DZ R) d p = true := by
        rcases (spB_s r (by omega) p0 p1).mp hp with y | y
        · exact y
        · have w := spB_x r d (by omega) _ _ x.1 x.2 rd.1 rd.2 y (key.mp z)
          rw [bxor_as, bxor_s, bxor_z p0 (by omega)] at w
          exact w
      obtain ⟨s, a, c, e⟩ := i1 p p0 p1 hp'
      exact ⟨s, by omega, c, by rw [tuM_keep a (tuM_Rd r (by omega) s)]; exact e⟩
    · rw [if_neg z, cn, if_neg (fun y => z (key.mpr y))]
      have pu := pc_up d (by omega) B (by omega)
      rw [← eB] at pu
      refine ⟨fun p p0 p1 hp => ?_, ?_, by omega⟩
      · rcases (spB_s r (by omega) p0 p1).mp hp with y | y
        · obtain ⟨s, a, c, e⟩ := i1 p p0 p1 y
          have su := sub_up d (by omega) B (by omega) s a (by rw [← eB]; exact c)
          rw [← eB] at su
          exact ⟨s, by omega, su.1, by rw [tuM_keep a (tuM_Rd r (by omega) s)]; exact e⟩
        · have x := bxor_lt p0 p1 rd.1 rd.2
          obtain ⟨s, a, c, e⟩ := i1 _ x.1 x.2 y
          have su := sub_up d (by omega) B (by omega) s a (by rw [← eB]; exact c)
          rw [← eB] at su
          have t := tuM_Rd r (show d ≤ 8 by omega) (s : Int)
          exact ⟨2 ^ d + s, by omega, su.2, by rw [tuM_more a]; exact (bx_iff t.1 t.2 rd.1 rd.2 p0 p1).mpr e⟩
      · rw [i2, pu]
        have pr := pc_R (x := basN R d)
        obtain ⟨k, ek⟩ := Int.eq_ofNat_of_zero_le pr.1
        rw [ek, show (k : Int) + 1 = ((k + 1 : Nat) : Int) by omega, shl_2 k (by omega), shl_2 (k + 1) (by omega), Nat.pow_succ]
        omega
theorem reach_n (V : RV R) : cntN (reP R) 1024 = shl 1 (pc (aBasis R)) := by
  have n := V.n
  have w := V.w
  have nn := nS_e V
  have s := (span_b V (R 1).toNat (by omega)).2.1
  rw [show aBasis R = basN R (R 1).toNat from rfl, ← s, ← cnt_xor (P := spB (DZ R) (R 1).toNat) w.2.2.1.1 w.2.2.1.2]
  refine cntN_c _ (fun p p0 p1 => ?_)
  have x := bxor_lt p0 (show p < 1024 by omega) w.2.2.1.1 w.2.2.1.2
  refine Bool.eq_iff_iff.mpr ?_
  rw [reP_iff V, spB_iff]
  constructor
  · rintro ⟨t, a, c, e⟩
    obtain ⟨k, rfl⟩ := Int.eq_ofNat_of_zero_le a
    have tr := tT_R V (k : Int)
    refine ⟨k, by omega, ?_⟩
    rw [← tT_z V]
    unfold brT at e
    rw [bxor_comm] at e
    exact (bx_iff tr.1 tr.2 w.2.2.1.1 w.2.2.1.2 p0 (by omega)).mp e
  · rintro ⟨k, a, e⟩
    have tr := tT_R V (k : Int)
    refine ⟨k, by omega, by omega, ?_⟩
    rw [← tT_z V] at e
    unfold brT
    rw [bxor_comm]
    exact (bx_iff tr.1 tr.2 w.2.2.1.1 w.2.2.1.2 p0 (by omega)).mpr e
end SPAN
