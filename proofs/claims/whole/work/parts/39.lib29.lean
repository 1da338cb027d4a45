/-! sets of disputes -/
def tT (R : Int → Int) (s : Int) : Int := tuM (fun i => R (29 + i)) s (R 1).toNat
def nS (R : Int → Int) : Int := shl 1 (R 1)
theorem shl_2 : ∀ k : Nat, k < 9 → shl 1 (k : Int) = ((2 ^ k : Nat) : Int) := by decide +kernel
theorem two_R : ∀ k : Nat, k < 9 → 1 ≤ 2 ^ k ∧ 2 ^ k ≤ 256 := by decide
theorem two_mono : ∀ d : Nat, d < 9 → ∀ n : Nat, n < 9 → d < n → 2 ^ d * 2 ≤ 2 ^ n := by decide
section SETS
variable {R : Int → Int} {h h' : Nat → Int → Int} {D : Int → Int}
theorem nS_e (V : RV R) : nS R = ((2 ^ (R 1).toNat : Nat) : Int) ∧ 1 ≤ nS R ∧ nS R ≤ 256 := by
  have n := V.n
  obtain ⟨k, hk, e⟩ := nat_of (n := 9) n.2.1.1 (by omega)
  unfold nS
  rw [e, shl_2 k hk, Int.toNat_natCast]
  have := two_R k hk
  exact ⟨rfl, by omega, by omega⟩
theorem tT_R (V : RV R) (s : Int) : 0 ≤ tT R s ∧ tT R s < 1024 := tuM_R _ (fun i i0 i1 => V.di i i0 (by have := V.n; omega))
theorem tuM_low {s s' : Int} : ∀ d : Nat, (∀ j : Nat, j < d → tb s j = tb s' j) → tuM D s d = tuM D s' d
  | 0, _ => rfl
  | d + 1, h => by
    unfold tuM
    rw [tuM_low d (fun j hj => h j (by omega)), h d (by omega)]
theorem tb_lt {s d : Nat} (h : s < 2 ^ d) : tb (s : Int) (d : Int) = false := by
  unfold tb; exact Nat.testBit_lt_two_pow h
theorem tb_hi {s d : Nat} (h : s < 2 ^ d) : tb ((2 ^ d + s : Nat) : Int) (d : Int) = true := by
  unfold tb
  show (2 ^ d + s).testBit d = true
  rw [Nat.testBit_two_pow_add_eq, Nat.testBit_lt_two_pow h]; rfl
theorem tb_lo {s d j : Nat} (h : j < d) : tb ((2 ^ d + s : Nat) : Int) (j : Int) = tb (s : Int) (j : Int) := by
  unfold tb
  exact Nat.testBit_two_pow_add_gt h s
theorem tuM_keep {s d : Nat} (h : s < 2 ^ d) (r : 0 ≤ tuM D s d ∧ tuM D s d < 1024) : tuM D s (d + 1) = tuM D s d := by
  show bxor (tuM D s d) (if tb s d then D d else 0) = _
  rw [tb_lt h, if_neg (by decide), bxor_z r.1 (by omega)]
theorem tuM_more {s d : Nat} (h : s < 2 ^ d) : tuM D ((2 ^ d + s : Nat) : Int) (d + 1) = bxor (tuM D s d) (D d) := by
  show bxor (tuM D _ d) (if tb _ d then D d else 0) = _
  rw [tb_hi h, if_pos rfl, tuM_low d (fun j hj => tb_lo hj)]
theorem tuM_0 : ∀ n : Nat, tuM D 0 n = 0
  | 0 => rfl
  | n + 1 => by
    show bxor (tuM D 0 n) (if tb 0 n then D n else 0) = 0
    rw [tuM_0 n, show tb 0 (n : Int) = false from Nat.zero_testBit _, if_neg (by decide)]
    exact bxor_s
theorem tT_0 : tT R 0 = 0 := tuM_0 _
theorem tb_pow {d j : Nat} : tb ((2 ^ d : Nat) : Int) (j : Int) = decide (d = j) := by
  unfold tb; exact Nat.testBit_two_pow
theorem bxor_z0 {a : Int} (a0 : 0 ≤ a) (a1 : a < 2147483648) : bxor 0 a = a := by rw [bxor_comm]; exact bxor_z a0 a1
theorem tuM_1 (r : ∀ i : Int, 0 ≤ i → i < 8 → 0 ≤ D i ∧ D i < 1024) {d : Nat} (d8 : d < 8) : ∀ n : Nat, n ≤ 8 → tuM D ((2 ^ d : Nat) : Int) n = if d < n then D d else 0
  | 0, _ => rfl
  | n + 1, hn => by
    have rd := r d (by omega) (by omega)
    show bxor (tuM D _ n) (if tb _ n then D n else 0) = _
    rw [tuM_1 r d8 n (by omega), tb_pow]
    by_cases e : d = n
    · subst e
      rw [if_neg (by omega), decide_eq_true rfl, if_pos rfl, if_pos (by omega)]
      exact bxor_z0 rd.1 (by omega)
    · rw [decide_eq_false e]
      simp only [Bool.false_eq_true, if_false]
      by_cases q : d < n
      · rw [if_pos q, if_pos (by omega)]; exact bxor_z rd.1 (by omega)
      · rw [if_neg q, if_neg (by omega)]; exact bxor_s
theorem tuM_1' {n : Nat} (hn : n ≤ 8) (r : ∀ i : Int, 0 ≤ i → i < n → 0 ≤ D i ∧ D i < 1024) {d : Nat} (d1 : d < n) : tuM D ((2 ^ d : Nat) : Int) n = D d := by
  have e := tuM_c (D := D) (D' := fun i => if i < n then D i else 0) (s := ((2 ^ d : Nat) : Int)) n (fun i i0 i1 => by rw [if_pos i1])
  rw [e, tuM_1 (D := fun i => if i < n then D i else 0) (fun i i0 i1 => by
    split
    · exact r i i0 (by assumption)
    · omega) (by omega) n hn, if_pos d1, if_pos (by omega)]
theorem tT_1 (V : RV R) {d : Int} (d0 : 0 ≤ d) (d1 : d < R 1) : tT R (shl 1 d) = R (29 + d) ∧ 0 ≤ shl 1 d ∧ shl 1 d < nS R := by
  have n := V.n
  have ne := nS_e V
  obtain ⟨k, hk, e⟩ := nat_of (n := 8) d0 (by omega)
  subst e
  rw [shl_2 k (by omega)]
  have m := two_mono k (by omega) (R 1).toNat (by omega) (by omega)
  have p := two_R k (by omega)
  refine ⟨?_, by omega, by omega⟩
  exact tuM_1' (by omega) (fun i i0 i1 => V.di i i0 (by omega)) (by omega)
/-- the class's sets, laid down -/
def SP (h : Nat → Int → Int) (R : Int → Int) : Prop := h 323 4 = R 1 ∧ h 323 5 = nS R ∧ ∀ s : Int, 0 ≤ s → s < nS R → h 324 s = tT R s
theorem sub_le : ∀ a : Nat, a < 256 → ∀ s : Nat, s < 256 → band (s : Int) (bxor (a : Int) (-1)) = 0 → s ≤ a := by decide +kernel
def suP (R : Int → Int) (a x : Int) : Int → Bool := fun s => band s (bxor a (-1)) == 0 && tT R s == x
theorem su_eq {a x n : Int} (a0 : 0 ≤ a) (a1 : a < n) (n1 : n ≤ 256) : anyN (suP R a x) (a + 1).toNat = anyN (suP R a x) n.toNat := by
  by_cases q : anyN (suP R a x) n.toNat = true
  · rw [q]
    obtain ⟨s, s0, s1, s2⟩ := (anyN_iff _).mp q
    have c : band s (bxor a (-1)) = 0 := by unfold suP at s2; rw [Bool.and_eq_true] at s2; exact eq_of_beq s2.1
    have l := sub_le a.toNat (by omega) s.toNat (by omega) (by rw [Int.toNat_of_nonneg a0, Int.toNat_of_nonneg s0]; exact c)
    exact anyN_t s0 (by omega) s2
  · cases z : anyN (suP R a x) (a + 1).toNat with
    | false => cases w : anyN (suP R a x) n.toNat with
      | false => rfl
      | true => exact absurd w q
    | true =>
      obtain ⟨s, s0, s1, s2⟩ := (anyN_iff _).mp z
      exact absurd (anyN_t s0 (by omega) s2) q
def basN (R : Int → Int) : Nat → Int
  | 0 => 0
  | d + 1 => if anyN (suP R (basN R d) (R (29 + (d : Int)))) (nS R).toNat = true then basN R d else bor (basN R d) (shl 1 d)
theorem basN_s {d : Int} (h : 0 ≤ d) : basN R (d + 1).toNat = if anyN (suP R (basN R d.toNat) (R (29 + d))) (nS R).toNat = true then basN R d.toNat else bor (basN R d.toNat) (shl 1 d) := by
  obtain ⟨n, rfl⟩ := Int.eq_ofNat_of_zero_le h
  rfl
theorem basN_R : ∀ d : Nat, d ≤ 8 → 0 ≤ basN R d ∧ basN R d < ((2 ^ d : Nat) : Int)
  | 0, _ => by unfold basN; omega
  | d + 1, h => by
    have ih := basN_R d (by omega)
    have p := two_R d (by omega)
    have q : (2 ^ (d + 1) : Nat) = 2 ^ d * 2 := Nat.pow_succ _ _
    unfold basN
    split
    · omega
    · rw [shl_2 d (by omega), bor_nn ih.1 (by omega) (by omega) (by omega)]
      have hx : (basN R d).toNat ||| ((2 ^ d : Nat) : Int).toNat < 2 ^ (d + 1) := Nat.or_lt_two_pow (by omega) (by omega)
      omega
def aBasis (R : Int → Int) : Int := basN R (R 1).toNat
def aSpare (R : Int → Int) (d : Int) : Int := if 0 ≤ d ∧ d < R 1 then (if anyN (suP R (band (nS R - 1) (bxor (shl 1 d) (-1))) (R (29 + d))) (nS R).toNat = true then 1 else 0) else -1
theorem sp_R : ∀ n : Nat, n < 9 → ∀ d : Nat, d < n → 0 ≤ band (shl 1 (n : Int) - 1) (bxor (shl 1 (d : Int)) (-1)) ∧ band (shl 1 (n : Int) - 1) (bxor (shl 1 (d : Int)) (-1)) < shl 1 (n : Int) := by decide +kernel
theorem basis_R (V : RV R) (d : Nat) (h : (d : Int) ≤ R 1) : 0 ≤ basN R d ∧ basN R d < nS R ∧ basN R d < 256 := by
  have n := V.n
  have b := basN_R (R := R) d (by omega)
  have ne := nS_e V
  have mm : 2 ^ d ≤ 2 ^ (R 1).toNat := Nat.pow_le_pow_right (by omega) (by omega)
  omega
/-- how all objects but the sets' stay -/
def eqS (h h' : Nat → Int → Int) : Prop := ∀ o, (o < 323 ∨ 327 < o) → h' o = h o
theorem CT.sx {L : Laws} (C : CT h R L) (e : eqS h h') : CT h' R L := ⟨C.1.c (fun o a _ _ => e o (by omega)), C.2.1, C.2.2.c C.2.1.n.2.2.1.2 (fun o a c => e o (by omega))⟩
end SETS
