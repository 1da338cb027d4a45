/-! the fewest -/
def isBest (P : Int → Bool) (a n r : Int) : Prop := (r = -1 ∧ ∀ s : Int, a ≤ s → s < n → P s = false) ∨ ((a ≤ r ∧ r < n ∧ P r = true) ∧ ∀ s : Int, a ≤ s → s < n → P s = true → pc r < pc s ∨ (pc r = pc s ∧ r ≤ s))
theorem best_uniq {P : Int → Bool} {a n r r' : Int} (a0 : 0 ≤ a) (h : isBest P a n r) (h' : isBest P a n r') : r = r' := by
  rcases h with ⟨e, f⟩ | ⟨⟨b, c, d⟩, f⟩ <;> rcases h' with ⟨e', f'⟩ | ⟨⟨b', c', d'⟩, f'⟩
  · omega
  · have := f r' b' c'; rw [d'] at this; cases this
  · have := f' r b c; rw [d] at this; cases this
  · have x := f r' b' c' d'; have y := f' r b c d; omega
def fewA (P : Int → Bool) : Nat → Int
  | 0 => -1
  | n + 1 => if P n = true ∧ (fewA P n = -1 ∨ pc n < pc (fewA P n)) then n else fewA P n
theorem fewA_s {P : Int → Bool} {p : Int} (h : 0 ≤ p) : fewA P (p + 1).toNat = if P p = true ∧ (fewA P p.toNat = -1 ∨ pc p < pc (fewA P p.toNat)) then p else fewA P p.toNat := by
  obtain ⟨n, rfl⟩ := Int.eq_ofNat_of_zero_le h
  rfl
theorem fewA_best {P : Int → Bool} : ∀ n : Nat, isBest P 0 n (fewA P n)
  | 0 => Or.inl ⟨rfl, fun s a b => by omega⟩
  | n + 1 => by
    have ih := fewA_best (P := P) n
    unfold fewA
    by_cases c : P n = true ∧ (fewA P n = -1 ∨ pc n < pc (fewA P n))
    · rw [if_pos c]
      refine Or.inr ⟨⟨by omega, by omega, c.1⟩, fun s s0 s1 sp => ?_⟩
      by_cases e : s = n
      · subst e; exact Or.inr ⟨rfl, Int.le_refl _⟩
      · rcases ih with ⟨i1, i2⟩ | ⟨i1, i2⟩
        · have := i2 s s0 (by omega); rw [sp] at this; cases this
        · have := i2 s s0 (by omega) sp
          rcases c.2 with z | z
          · omega
          · left; omega
    · rw [if_neg c]
      rcases ih with ⟨i1, i2⟩ | ⟨⟨i0, i1, i3⟩, i2⟩
      · refine Or.inl ⟨i1, fun s s0 s1 => ?_⟩
        by_cases e : s = n
        · subst e
          cases q : P (n : Int) with
          | false => rfl
          | true => exact absurd ⟨q, Or.inl i1⟩ c
        · exact i2 s s0 (by omega)
      · refine Or.inr ⟨⟨i0, by omega, i3⟩, fun s s0 s1 sp => ?_⟩
        by_cases e : s = n
        · subst e
          have : ¬ pc (n : Int) < pc (fewA P n) := fun z => c ⟨sp, Or.inr z⟩
          omega
        · exact i2 s s0 (by omega) sp
theorem fewA_R {P : Int → Bool} (n : Nat) : -1 ≤ fewA P n ∧ fewA P n < n := by
  rcases fewA_best (P := P) n with ⟨a, _⟩ | ⟨⟨a, b, _⟩, _⟩ <;> omega
/-- from above -/
theorem best_dn {P : Int → Bool} {s n r : Int} (h : isBest P (s + 1) n r) (s0 : 0 ≤ s) (s1 : s < n) : isBest P s n (if P s = true ∧ (r = -1 ∨ pc s ≤ pc r) then s else r) := by
  by_cases c : P s = true ∧ (r = -1 ∨ pc s ≤ pc r)
  · rw [if_pos c]
    refine Or.inr ⟨⟨by omega, s1, c.1⟩, fun t t0 t1 tp => ?_⟩
    by_cases e : t = s
    · subst e; omega
    · rcases h with ⟨i1, i2⟩ | ⟨i1, i2⟩
      · have := i2 t (by omega) t1; rw [tp] at this; cases this
      · have := i2 t (by omega) t1 tp
        rcases c.2 with z | z <;> omega
  · rw [if_neg c]
    rcases h with ⟨i1, i2⟩ | ⟨⟨i0, i1, i3⟩, i2⟩
    · refine Or.inl ⟨i1, fun t t0 t1 => ?_⟩
      by_cases e : t = s
      · subst e
        cases q : P t with
        | false => rfl
        | true => exact absurd ⟨q, Or.inl i1⟩ c
      · exact i2 t (by omega) t1
    · refine Or.inr ⟨⟨by omega, i1, i3⟩, fun t t0 t1 tp => ?_⟩
      by_cases e : t = s
      · subst e
        have : ¬ pc t ≤ pc r := fun z => c ⟨tp, Or.inr z⟩
        omega
      · exact i2 t (by omega) t1 tp
theorem bx_iff {t l x : Int} (t0 : 0 ≤ t) (t1 : t < 1024) (l0 : 0 ≤ l) (l1 : l < 1024) (x0 : 0 ≤ x) (x1 : x < 1024) : bxor t l = x ↔ t = bxor x l := by
  constructor
  · intro e; rw [← e, bxor_as, bxor_s, bxor_z t0 (by omega)]
  · intro e; rw [e, bxor_as, bxor_s, bxor_z x0 (by omega)]
def eqP (R : Int → Int) (x : Int) : Int → Bool := fun s => tT R s == x
def ofP (R : Int → Int) (n x : Int) : Int → Bool := fun s => pc s == n && tT R s == x
def kerP (R : Int → Int) : Int → Bool := fun s => decide (1 ≤ s) && tT R s == 0
def keN (R : Int → Int) (i : Int) : Nat → Int
  | 0 => -2
  | n + 1 => if kerP R n = true ∧ cntN (kerP R) n = i then n else keN R i n
theorem keN_s {R : Int → Int} {i p : Int} (h : 0 ≤ p) : keN R i (p + 1).toNat = if kerP R p = true ∧ cntN (kerP R) p.toNat = i then p else keN R i p.toNat := by
  obtain ⟨n, rfl⟩ := Int.eq_ofNat_of_zero_le h
  rfl
theorem keN_hit {R : Int → Int} {i : Int} {s : Nat} (h : kerP R s = true) (c : cntN (kerP R) s = i) : ∀ n : Nat, s < n → keN R i n = s ∧ i < cntN (kerP R) n
  | 0, hn => by omega
  | n + 1, hn => by
    unfold keN
    show _ ∧ i < cntN (kerP R) n + _
    by_cases e : s = n
    · subst e
      rw [if_pos ⟨h, c⟩, if_pos h]; exact ⟨rfl, by omega⟩
    · have ih := keN_hit h c n (by omega)
      rw [if_neg (fun z => by omega)]
      exact ⟨ih.1, by split <;> omega⟩
theorem keN_neg {R : Int → Int} {i : Int} (h : i < 0) : ∀ n : Nat, keN R i n = -2
  | 0 => rfl
  | n + 1 => by
    have := (cntN_R (P := kerP R) n).1
    unfold keN
    rw [if_neg (fun z => by omega)]
    exact keN_neg h n
theorem ker_cnt {R : Int → Int} : ∀ n : Nat, 1 ≤ n → cntN (eqP R 0) n = 1 + cntN (kerP R) n
  | 0, h => by omega
  | n + 1, _ => by
    show cntN (eqP R 0) n + _ = 1 + (cntN (kerP R) n + _)
    by_cases e : n = 0
    · subst e
      have a : eqP R 0 ((0 : Nat) : Int) = true := by unfold eqP; rw [show ((0 : Nat) : Int) = 0 from rfl, tT_0]; rfl
      have b : kerP R ((0 : Nat) : Int) = false := by unfold kerP; simp
      rw [if_pos a, b]; simp [cntN]
    · have ih := ker_cnt (R := R) n (by omega)
      have c : eqP R 0 n = kerP R n := by unfold eqP kerP; rw [decide_eq_true (by omega)]; simp
      rw [c]; omega
def lwN (R : Int → Int) : Nat → Int
  | 0 => -1
  | n + 1 => if 0 < pc (tT R n) ∧ (lwN R n = -1 ∨ pc (tT R n) < lwN R n) then pc (tT R n) else lwN R n
theorem lwN_s {R : Int → Int} {p : Int} (h : 0 ≤ p) : lwN R (p + 1).toNat = if 0 < pc (tT R p) ∧ (lwN R p.toNat = -1 ∨ pc (tT R p) < lwN R p.toNat) then pc (tT R p) else lwN R p.toNat := by
  obtain ⟨n, rfl⟩ := Int.eq_ofNat_of_zero_le h
  rfl
def loN (P : Int → Bool) : Nat → Int
  | 0 => -1
  | n + 1 => if loN P n = -1 ∧ P n = true then n else loN P n
theorem loN_s {P : Int → Bool} {p : Int} (h : 0 ≤ p) : loN P (p + 1).toNat = if loN P p.toNat = -1 ∧ P p = true then p else loN P p.toNat := by
  obtain ⟨n, rfl⟩ := Int.eq_ofNat_of_zero_le h
  rfl
theorem loN_hit {P : Int → Bool} {s : Nat} (h : P s = true) (c : ∀ i : Int, 0 ≤ i → i < s → P i = false) : ∀ n : Nat, s < n → loN P n = s
  | 0, hn => by omega
  | n + 1, hn => by
    unfold loN
    by_cases e : s = n
    · subst e
      have z : loN P s = -1 := by
        have : ∀ m : Nat, m ≤ s → loN P m = -1 := by
          intro m
          induction m with
          | zero => intro _; rfl
          | succ m ih => intro hm; unfold loN; rw [if_neg (fun y => by rw [c m (by omega) (by omega)] at y; cases y.2)]; exact ih (by omega)
        exact this s (Nat.le_refl _)
      rw [if_pos ⟨z, h⟩]
    · have ih := loN_hit h c n (by omega)
      rw [if_neg (fun y => by omega), ih]
theorem loN_miss {P : Int → Bool} : ∀ n : Nat, (∀ i : Int, 0 ≤ i → i < n → P i = false) → loN P n = -1
  | 0, _ => rfl
  | n + 1, c => by
    unfold loN
    rw [if_neg (fun y => by rw [c n (by omega) (by omega)] at y; cases y.2)]
    exact loN_miss n (fun i a b => c i a (by omega))
def liP (R : Int → Int) (x : Int) : Bool := allN (fun k => decide (band x (R (37 + k)) ≠ 0)) (R 5).toNat
def lgP (R : Int → Int) : Int → Bool := fun s => liP R (bxor (R 10) (tT R s))
theorem band_comm (a c : Int) : band a c = band c a := by unfold band; rw [Int32.and_comm]
def nSn (R : Int → Int) : Nat := (nS R).toNat
def aBring (R : Int → Int) (x mo : Int) : Int := if 0 ≤ x ∧ x ≤ 1023 then (if mo = 0 ∨ fewA (eqP R (bxor x (R 10))) (nSn R) = -1 then fewA (eqP R (bxor x (R 10))) (nSn R) else pc (fewA (eqP R (bxor x (R 10))) (nSn R))) else -1
def aWays (R : Int → Int) (x : Int) : Int := if 0 ≤ x ∧ x ≤ 1023 then cntN (eqP R (bxor x (R 10))) (nSn R) else -1
def aWeight (R : Int → Int) : Int := lwN R (nSn R)
def aKernel (R : Int → Int) (i : Int) : Int := if i = -1 then cntN (kerP R) (nSn R) else keN R i (nSn R)
def aWhodid (R I : Int → Int) (n mo : Int) : Int := if 0 ≤ n ∧ n ≤ 8 then (if mo = 0 then cntN (ofP R n (bxor (R 10) (I 10))) (nSn R) else loN (ofP R n (bxor (R 10) (I 10))) (nSn R)) else -1
def aLights (R : Int → Int) (mo : Int) : Int := if mo = 0 ∨ fewA (lgP R) (nSn R) = -1 then fewA (lgP R) (nSn R) else pc (fewA (lgP R) (nSn R))
