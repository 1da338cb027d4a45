/-! what is reached -/
def brT (R : Int → Int) (s : Int) : Int := bxor (R 10) (tT R s)
def reP (R : Int → Int) (p : Int) : Bool := anyN (fun s => brT R s == p) (nSn R)
section REACH
variable {R : Int → Int}
theorem brT_R (V : RV R) (s : Int) : 0 ≤ brT R s ∧ brT R s < 1024 := by
  have w := V.w
  have t := tT_R V s
  exact bxor_lt w.2.2.1.1 w.2.2.1.2 t.1 t.2
theorem nSn_i (V : RV R) : ((nSn R : Nat) : Int) = nS R := Int.toNat_of_nonneg (by have := nS_e V; omega)
theorem reP_iff (V : RV R) {p : Int} : reP R p = true ↔ ∃ s : Int, 0 ≤ s ∧ s < nS R ∧ brT R s = p := by
  unfold reP
  rw [anyN_iff, nSn_i V]
  constructor
  · rintro ⟨s, a, b, c⟩; exact ⟨s, a, b, eq_of_beq c⟩
  · rintro ⟨s, a, b, c⟩; exact ⟨s, a, b, by rw [c]; exact beq_self_eq_true _⟩
theorem anyN_s {P : Int → Bool} {p : Int} (h : 0 ≤ p) : anyN P (p + 1).toNat = (anyN P p.toNat || P p) := by
  obtain ⟨n, rfl⟩ := Int.eq_ofNat_of_zero_le h
  rfl
/-- the fewest and most -/
def flN (R : Int → Int) : Nat → Int
  | 0 => 10
  | n + 1 => min (flN R n) (pc (brT R n))
theorem flN_s {p : Int} (h : 0 ≤ p) : flN R (p + 1).toNat = min (flN R p.toNat) (pc (brT R p)) := by
  obtain ⟨n, rfl⟩ := Int.eq_ofNat_of_zero_le h
  rfl
def mlN (R : Int → Int) : Nat → Int
  | 0 => 0
  | n + 1 => max (mlN R n) (pc (brT R n))
theorem mlN_s {p : Int} (h : 0 ≤ p) : mlN R (p + 1).toNat = max (mlN R p.toNat) (pc (brT R p)) := by
  obtain ⟨n, rfl⟩ := Int.eq_ofNat_of_zero_le h
  rfl
theorem flN_c : ∀ n : Nat, (flN R n ≤ 10 ∧ ∀ s : Int, 0 ≤ s → s < n → flN R n ≤ pc (brT R s)) ∧ (flN R n = 10 ∨ ∃ s : Int, 0 ≤ s ∧ s < n ∧ flN R n = pc (brT R s))
  | 0 => ⟨⟨Int.le_refl _, fun s a b => by omega⟩, Or.inl rfl⟩
  | n + 1 => by
    obtain ⟨⟨a, b⟩, c⟩ := flN_c n
    unfold flN
    refine ⟨⟨by omega, fun s s0 s1 => ?_⟩, ?_⟩
    · by_cases e : s = n
      · subst e; omega
      · have := b s s0 (by omega); omega
    · by_cases q : pc (brT R n) ≤ flN R n
      · exact Or.inr ⟨n, by omega, by omega, by omega⟩
      · rcases c with c | ⟨s, s0, s1, s2⟩
        · left; omega
        · exact Or.inr ⟨s, s0, by omega, by omega⟩
theorem mlN_c : ∀ n : Nat, (0 ≤ mlN R n ∧ ∀ s : Int, 0 ≤ s → s < n → pc (brT R s) ≤ mlN R n) ∧ (mlN R n = 0 ∨ ∃ s : Int, 0 ≤ s ∧ s < n ∧ mlN R n = pc (brT R s))
  | 0 => ⟨⟨Int.le_refl _, fun s a b => by omega⟩, Or.inl rfl⟩
  | n + 1 => by
    obtain ⟨⟨a, b⟩, c⟩ := mlN_c n
    unfold mlN
    refine ⟨⟨by omega, fun s s0 s1 => ?_⟩, ?_⟩
    · by_cases e : s = n
      · subst e; omega
      · have := b s s0 (by omega); omega
    · by_cases q : mlN R n ≤ pc (brT R n)
      · exact Or.inr ⟨n, by omega, by omega, by omega⟩
      · rcases c with c | ⟨s, s0, s1, s2⟩
        · left; omega
        · exact Or.inr ⟨s, s0, by omega, by omega⟩
/-- over the patterns -/
def flP (R : Int → Int) : Nat → Int
  | 0 => 10
  | n + 1 => if reP R n = true ∧ pc n < flP R n then pc n else flP R n
theorem flP_s {p : Int} (h : 0 ≤ p) : flP R (p + 1).toNat = if reP R p = true ∧ pc p < flP R p.toNat then pc p else flP R p.toNat := by
  obtain ⟨n, rfl⟩ := Int.eq_ofNat_of_zero_le h
  rfl
def mlP (R : Int → Int) : Nat → Int
  | 0 => 0
  | n + 1 => if reP R n = true ∧ mlP R n < pc n then pc n else mlP R n
theorem mlP_s {p : Int} (h : 0 ≤ p) : mlP R (p + 1).toNat = if reP R p = true ∧ mlP R p.toNat < pc p then pc p else mlP R p.toNat := by
  obtain ⟨n, rfl⟩ := Int.eq_ofNat_of_zero_le h
  rfl
theorem flP_c : ∀ n : Nat, (flP R n ≤ 10 ∧ ∀ s : Int, 0 ≤ s → s < n → reP R s = true → flP R n ≤ pc s) ∧ (flP R n = 10 ∨ ∃ s : Int, 0 ≤ s ∧ s < n ∧ reP R s = true ∧ flP R n = pc s)
  | 0 => ⟨⟨Int.le_refl _, fun s a b => by omega⟩, Or.inl rfl⟩
  | n + 1 => by
    obtain ⟨⟨a, b⟩, c⟩ := flP_c n
    unfold flP
    by_cases q : reP R n = true ∧ pc n < flP R n
    · rw [if_pos q]
      refine ⟨⟨by omega, fun s s0 s1 sr => ?_⟩, Or.inr ⟨n, by omega, by omega, q.1, rfl⟩⟩
      by_cases e : s = n
      · subst e; omega
      · have := b s s0 (by omega) sr; omega
    · rw [if_neg q]
      refine ⟨⟨a, fun s s0 s1 sr => ?_⟩, ?_⟩
      · by_cases e : s = n
        · subst e
          have : ¬ pc (n : Int) < flP R n := fun z => q ⟨sr, z⟩
          omega
        · exact b s s0 (by omega) sr
      · rcases c with c | ⟨s, s0, s1, s2⟩
        · exact Or.inl c
        · exact Or.inr ⟨s, s0, by omega, s2⟩
theorem mlP_c : ∀ n : Nat, (0 ≤ mlP R n ∧ ∀ s : Int, 0 ≤ s → s < n → reP R s = true → pc s ≤ mlP R n) ∧ (mlP R n = 0 ∨ ∃ s : Int, 0 ≤ s ∧ s < n ∧ reP R s = true ∧ mlP R n = pc s)
  | 0 => ⟨⟨Int.le_refl _, fun s a b => by omega⟩, Or.inl rfl⟩
  | n + 1 => by
    obtain ⟨⟨a, b⟩, c⟩ := mlP_c n
    unfold mlP
    by_cases q : reP R n = true ∧ mlP R n < pc n
    · rw [if_pos q]
      refine ⟨⟨by have := pc_R (x := (n : Int)); omega, fun s s0 s1 sr => ?_⟩, Or.inr ⟨n, by omega, by omega, q.1, rfl⟩⟩
      by_cases e : s = n
      · subst e; omega
      · have := b s s0 (by omega) sr; omega
    · rw [if_neg q]
      refine ⟨⟨a, fun s s0 s1 sr => ?_⟩, ?_⟩
      · by_cases e : s = n
        · subst e
          have : ¬ mlP R n < pc (n : Int) := fun z => q ⟨sr, z⟩
          omega
        · exact b s s0 (by omega) sr
      · rcases c with c | ⟨s, s0, s1, s2⟩
        · exact Or.inl c
        · exact Or.inr ⟨s, s0, by omega, s2⟩
theorem fl_eq (V : RV R) : flP R 1024 = flN R (nSn R) := by
  obtain ⟨⟨a, b⟩, c⟩ := flP_c (R := R) 1024
  obtain ⟨⟨a', b'⟩, c'⟩ := flN_c (R := R) (nSn R)
  have k := nSn_i V
  have h1 : flP R 1024 ≤ flN R (nSn R) := by
    rcases c' with c' | ⟨s, s0, s1, s2⟩
    · omega
    · have br := brT_R V s
      rw [s2]; exact b _ br.1 (by omega) ((reP_iff V).mpr ⟨s, s0, by omega, rfl⟩)
  have h2 : flN R (nSn R) ≤ flP R 1024 := by
    rcases c with c | ⟨s, s0, s1, s2, s3⟩
    · omega
    · obtain ⟨t, t0, t1, t2⟩ := (reP_iff V).mp s2
      rw [s3, ← t2]; exact b' t t0 (by omega)
  omega
theorem ml_eq (V : RV R) : mlP R 1024 = mlN R (nSn R) := by
  obtain ⟨⟨a, b⟩, c⟩ := mlP_c (R := R) 1024
  obtain ⟨⟨a', b'⟩, c'⟩ := mlN_c (R := R) (nSn R)
  have k := nSn_i V
  have h1 : mlN R (nSn R) ≤ mlP R 1024 := by
    rcases c' with c' | ⟨s, s0, s1, s2⟩
    · omega
    · have br := brT_R V s
      rw [s2]; exact b _ br.1 (by omega) ((reP_iff V).mpr ⟨s, s0, by omega, rfl⟩)
  have h2 : mlP R 1024 ≤ mlN R (nSn R) := by
    rcases c with c | ⟨s, s0, s1, s2, s3⟩
    · omega
    · obtain ⟨t, t0, t1, t2⟩ := (reP_iff V).mp s2
      rw [s3, ← t2]; exact b' t t0 (by omega)
  omega
/-- the lowest with so many -/
def lvN (R : Int → Int) (m : Int) : Nat → Int
  | 0 => -1
  | n + 1 => if pc (brT R n) = m ∧ (lvN R m n = -1 ∨ brT R n < lvN R m n) then brT R n else lvN R m n
theorem lvN_s {m p : Int} (h : 0 ≤ p) : lvN R m (p + 1).toNat = if pc (brT R p) = m ∧ (lvN R m p.toNat = -1 ∨ brT R p < lvN R m p.toNat) then brT R p else lvN R m p.toNat := by
  obtain ⟨n, rfl⟩ := Int.eq_ofNat_of_zero_le h
  rfl
theorem lvN_c (V : RV R) {m : Int} : ∀ n : Nat, (lvN R m n = -1 ∧ ∀ s : Int, 0 ≤ s → s < n → pc (brT R s) ≠ m) ∨ ((∃ s : Int, 0 ≤ s ∧ s < n ∧ brT R s = lvN R m n) ∧ pc (lvN R m n) = m ∧ ∀ s : Int, 0 ≤ s → s < n → pc (brT R s) = m → lvN R m n ≤ brT R s)
  | 0 => Or.inl ⟨rfl, fun s a b => by omega⟩
  | n + 1 => by
    have ih := lvN_c V (m := m) n
    have bn := brT_R V n
    unfold lvN
    by_cases q : pc (brT R n) = m ∧ (lvN R m n = -1 ∨ brT R n < lvN R m n)
    · rw [if_pos q]
      refine Or.inr ⟨⟨n, by omega, by omega, rfl⟩, q.1, fun s s0 s1 sp => ?_⟩
      by_cases e : s = n
      · subst e; omega
      · rcases ih with ⟨i1, i2⟩ | ⟨⟨t, t0, t1, t2⟩, i2, i3⟩
        · exact absurd sp (i2 s s0 (by omega))
        · have := i3 s s0 (by omega) sp
          have bt := brT_R V t
          omega
    · rw [if_neg q]
      rcases ih with ⟨i1, i2⟩ | ⟨⟨t, t0, t1, t2⟩, i2, i3⟩
      · refine Or.inl ⟨i1, fun s s0 s1 sp => ?_⟩
        by_cases e : s = n
        · subst e; exact q ⟨sp, Or.inl i1⟩
        · exact i2 s s0 (by omega) sp
      · refine Or.inr ⟨⟨t, t0, by omega, t2⟩, i2, fun s s0 s1 sp => ?_⟩
        by_cases e : s = n
        · subst e
          have : ¬ brT R (n : Int) < lvN R m n := fun z => q ⟨sp, Or.inr z⟩
          omega
        · exact i3 s s0 (by omega) sp
def paP (R : Int → Int) (m : Int) : Int → Bool := fun p => reP R p && pc p == m
def aPattern (R : Int → Int) (m : Int) : Int := loN (paP R m) 1024
theorem pat_eq (V : RV R) {m : Int} : lvN R m (nSn R) = aPattern R m := by
  have k := nSn_i V
  rcases lvN_c V (m := m) (nSn R) with ⟨i1, i2⟩ | ⟨⟨t, t0, t1, t2⟩, i2, i3⟩
  · rw [i1]
    refine (loN_miss 1024 (fun p p0 p1 => ?_)).symm
    cases q : paP R m p with
    | false => rfl
    | true =>
      unfold paP at q
      rw [Bool.and_eq_true] at q
      obtain ⟨s, s0, s1, s2⟩ := (reP_iff V).mp q.1
      exact absurd (by rw [s2]; exact eq_of_beq q.2) (i2 s s0 (by omega))
  · have bt := brT_R V t
    rw [t2] at bt
    obtain ⟨r, er⟩ := Int.eq_ofNat_of_zero_le bt.1
    have hr : paP R m r = true := by
      unfold paP
      rw [Bool.and_eq_true]
      exact ⟨(reP_iff V).mpr ⟨t, t0, by omega, by omega⟩, by rw [← er, i2]; exact beq_self_eq_true _⟩
    rw [er]
    refine (loN_hit hr (fun p p0 p1 => ?_) 1024 (by omega)).symm
    cases q : paP R m p with
    | false => rfl
    | true =>
      unfold paP at q
      rw [Bool.and_eq_true] at q
      obtain ⟨s, s0, s1, s2⟩ := (reP_iff V).mp q.1
      have := i3 s s0 (by omega) (by rw [s2]; exact eq_of_beq q.2)
      omega
/-- the nearest -/
def neN (R : Int → Int) (w : Int) : Nat → Int
  | 0 => R 10
  | n + 1 => if pc (bxor (brT R n) w) < pc (bxor (neN R w n) w) ∨ (pc (bxor (brT R n) w) = pc (bxor (neN R w n) w) ∧ brT R n < neN R w n) then brT R n else neN R w n
theorem neN_s {w p : Int} (h : 0 ≤ p) : neN R w (p + 1).toNat = if pc (bxor (brT R p) w) < pc (bxor (neN R w p.toNat) w) ∨ (pc (bxor (brT R p) w) = pc (bxor (neN R w p.toNat) w) ∧ brT R p < neN R w p.toNat) then brT R p else neN R w p.toNat := by
  obtain ⟨n, rfl⟩ := Int.eq_ofNat_of_zero_le h
  rfl
theorem brT_0 (V : RV R) : brT R 0 = R 10 := by unfold brT; rw [tT_0]; exact bxor_z V.w.2.2.1.1 (by have := V.w; omega)
theorem neN_c (V : RV R) {w : Int} : ∀ n : Nat, (neN R w n = R 10 ∨ ∃ s : Int, 0 ≤ s ∧ s < n ∧ brT R s = neN R w n) ∧ ∀ s : Int, 0 ≤ s → s < n → pc (bxor (neN R w n) w) < pc (bxor (brT R s) w) ∨ (pc (bxor (neN R w n) w) = pc (bxor (brT R s) w) ∧ neN R w n ≤ brT R s)
  | 0 => ⟨Or.inl rfl, fun s a b => by omega⟩
  | n + 1 => by
    obtain ⟨i1, i2⟩ := neN_c V (w := w) n
    unfold neN
    by_cases q : pc (bxor (brT R n) w) < pc (bxor (neN R w n) w) ∨ (pc (bxor (brT R n) w) = pc (bxor (neN R w n) w) ∧ brT R n < neN R w n)
    · rw [if_pos q]
      refine ⟨Or.inr ⟨n, by omega, by omega, rfl⟩, fun s s0 s1 => ?_⟩
      by_cases e : s = n
      · subst e; exact Or.inr ⟨rfl, Int.le_refl _⟩
      · have := i2 s s0 (by omega); omega
    · rw [if_neg q]
      refine ⟨?_, fun s s0 s1 => ?_⟩
      · rcases i1 with i1 | ⟨t, t0, t1, t2⟩
        · exact Or.inl i1
        · exact Or.inr ⟨t, t0, by omega, t2⟩
      · by_cases e : s = n
        · subst e; omega
        · exact i2 s s0 (by omega)
def nmN (R : Int → Int) (w : Int) : Nat → Int
  | 0 => -1
  | n + 1 => if reP R n = true ∧ (nmN R w n = -1 ∨ pc (bxor n w) < pc (bxor (nmN R w n) w)) then n else nmN R w n
theorem nmN_s {w p : Int} (h : 0 ≤ p) : nmN R w (p + 1).toNat = if reP R p = true ∧ (nmN R w p.toNat = -1 ∨ pc (bxor p w) < pc (bxor (nmN R w p.toNat) w)) then p else nmN R w p.toNat := by
  obtain ⟨n, rfl⟩ := Int.eq_ofNat_of_zero_le h
  rfl
theorem nmN_c {w : Int} : ∀ n : Nat, (nmN R w n = -1 ∧ ∀ p : Int, 0 ≤ p → p < n → reP R p = false) ∨ ((0 ≤ nmN R w n ∧ nmN R w n < n ∧ reP R (nmN R w n) = true) ∧ ∀ p : Int, 0 ≤ p → p < n → reP R p = true → pc (bxor (nmN R w n) w) < pc (bxor p w) ∨ (pc (bxor (nmN R w n) w) = pc (bxor p w) ∧ nmN R w n ≤ p))
  | 0 => Or.inl ⟨rfl, fun s a b => by omega⟩
  | n + 1 => by
    have ih := nmN_c (w := w) n
    unfold nmN
    by_cases q : reP R n = true ∧ (nmN R w n = -1 ∨ pc (bxor n w) < pc (bxor (nmN R w n) w))
    · rw [if_pos q]
      refine Or.inr ⟨⟨by omega, by omega, q.1⟩, fun s s0 s1 sr => ?_⟩
      by_cases e : s = n
      · subst e; exact Or.inr ⟨rfl, Int.le_refl _⟩
      · rcases ih with ⟨i1, i2⟩ | ⟨i1, i2⟩
        · have := i2 s s0 (by omega); rw [sr] at this; cases this
        · have := i2 s s0 (by omega) sr; omega
    · rw [if_neg q]
      rcases ih with ⟨i1, i2⟩ | ⟨⟨j0, j1, j2⟩, i2⟩
      · refine Or.inl ⟨i1, fun s s0 s1 => ?_⟩
        by_cases e : s = n
        · subst e
          cases z : reP R (n : Int) with
          | false => rfl
          | true => exact absurd ⟨z, Or.inl i1⟩ q
        · exact i2 s s0 (by omega)
      · refine Or.inr ⟨⟨j0, by omega, j2⟩, fun s s0 s1 sr => ?_⟩
        by_cases e : s = n
        · subst e
          have : ¬ pc (bxor (n : Int) w) < pc (bxor (nmN R w n) w) := fun z => q ⟨sr, Or.inr z⟩
          omega
        · exact i2 s s0 (by omega) sr
theorem nmN_R {w : Int} (n : Nat) : -1 ≤ nmN R w n ∧ nmN R w n < n := by
  rcases nmN_c (R := R) (w := w) n with ⟨a, _⟩ | ⟨⟨a, c, _⟩, _⟩ <;> omega
theorem neN_R (V : RV R) {w : Int} (n : Nat) : 0 ≤ neN R w n ∧ neN R w n < 1024 := by
  rcases (neN_c V (w := w) n).1 with e | ⟨s, _, _, e⟩
  · rw [e]; exact V.w.2.2.1
  · rw [← e]; exact brT_R V s
def aNearest (R : Int → Int) (w : Int) : Int := if 0 ≤ w ∧ w ≤ 1023 then neN R w (nSn R) else -1
theorem ne_eq (V : RV R) {w : Int} : nmN R w 1024 = neN R w (nSn R) := by
  have k := nSn_i V
  have ne := nS_e V
  obtain ⟨c1, c2⟩ := neN_c V (w := w) (nSn R)
  have r := neN_R V (w := w) (nSn R)
  have rr : reP R (neN R w (nSn R)) = true := by
    refine (reP_iff V).mpr ?_
    rcases c1 with e | ⟨s, s0, s1, s2⟩
    · exact ⟨0, by omega, by omega, by rw [brT_0 V, e]⟩
    · exact ⟨s, s0, by omega, s2⟩
  rcases nmN_c (R := R) (w := w) 1024 with ⟨i1, i2⟩ | ⟨⟨j0, j1, j2⟩, i2⟩
  · have := i2 _ r.1 r.2; rw [rr] at this; cases this
  · have x := i2 _ r.1 r.2 rr
    obtain ⟨s, s0, s1, s2⟩ := (reP_iff V).mp j2
    have y := c2 s s0 (by omega)
    rw [s2] at y
    omega
end REACH
