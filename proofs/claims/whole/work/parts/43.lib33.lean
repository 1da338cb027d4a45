/-! walks -/
def PO (b : Bool × Bool) : Nat := if b.1 then 327 else 326
def NO (b : Bool × Bool) : Nat := if b.1 then 326 else 327
theorem PO_c (b : Bool × Bool) : (PO b = 327 ∧ NO b = 326) ∨ (PO b = 326 ∧ NO b = 327) := by unfold PO NO; cases b.1 <;> simp
theorem tyPO (b : Bool × Bool) : ty TT (PO b) = some (.inr (0, 256)) := by rcases PO_c b with ⟨e, _⟩ | ⟨e, _⟩ <;> rw [e]; exact tt327; exact tt326
theorem tyNO (b : Bool × Bool) : ty TT (NO b) = some (.inr (0, 256)) := by rcases PO_c b with ⟨_, e⟩ | ⟨_, e⟩ <;> rw [e]; exact tt326; exact tt327
theorem rrPO (b : Bool × Bool) : RR b 323 2 = PO b := by rw [RR_c tt323]; unfold PO; show (if b.1 = true then 323 + 4 else 323 + 3) = _; cases b.1 <;> rfl
theorem rrNO (b : Bool × Bool) : RR b 323 3 = NO b := by rw [RR_c tt323]; unfold NO; show (if b.1 = true then 323 + 3 else 323 + 4) = _; cases b.1 <;> rfl
theorem PO_0 (b : Bool × Bool) : PO b ≠ 0 := by rcases PO_c b with ⟨e, _⟩ | ⟨e, _⟩ <;> omega
theorem NO_0 (b : Bool × Bool) : NO b ≠ 0 := by rcases PO_c b with ⟨_, e⟩ | ⟨_, e⟩ <;> omega
theorem only4 : ∀ o, o < 351 → ty TT o = some (.inl 4) → o = 323 := by decide +kernel
theorem RRc_b {b b' : Bool × Bool} (e : b.2 = b'.2) {c o : Nat} {k : Int} (h : c ≠ 4) : RRc b c o k = RRc b' c o k := by
  unfold RRc
  split
  · rw [e]
  all_goals first | rfl | exact absurd rfl h
theorem swapP (b : Bool × Bool) : up (up (RR b) 323 2 (NO b)) 323 3 (PO b) = RR (!b.1, b.2) := by
  funext o k
  by_cases e : o = 323
  · subst e
    by_cases k3 : k = 3
    · subst k3; rw [up_s, rrNO]; unfold PO NO; cases b.1 <;> rfl
    · rw [up_k k3]
      by_cases k2 : k = 2
      · subst k2; rw [up_s, rrPO]; unfold PO NO; cases b.1 <;> rfl
      · rw [up_k k2, RR_c tt323, RR_c tt323]
        unfold RRc
        simp only [if_neg k2, if_neg k3]
  · rw [up_o e, up_o e]
    unfold RR
    cases q : ty TT o with
    | none => rfl
    | some t =>
      cases t with
      | inr a => rfl
      | inl c =>
        have h4 : c ≠ 4 := fun z => by subst z; exact e (only4 o (tt_lt q) q)
        show RRc b c o k = RRc (!b.1, b.2) c o k
        exact RRc_b (b := b) (b' := (!b.1, b.2)) rfl h4
section WALK
variable {R : Int → Int}
def wlk (R : Int → Int) : Nat → Int → Int
  | 0 => fun s => if s = 0 then 1 else 0
  | k + 1 => fun s => sumN (fun d => wlk R k (bxor s (shl 1 d))) (R 1).toNat
def p8 : Nat → Int
  | 0 => 1
  | k + 1 => p8 k * 8
theorem wlk_R (V : RV R) : ∀ (k : Nat) (s : Int), 0 ≤ wlk R k s ∧ wlk R k s ≤ p8 k
  | 0, s => by unfold wlk p8; split <;> omega
  | k + 1, s => by
    have n := V.n
    have z := sumN_R (f := fun d => wlk R k (bxor s (shl 1 d))) (c := p8 k) (R 1).toNat (fun i _ _ => wlk_R V k _)
    have p := (wlk_R V k 0)
    have w := mulR (a := p8 k) (A := p8 k) (c := ((R 1).toNat : Int)) (B := 8) (by omega) (Int.le_refl _) (by omega) (by omega)
    unfold wlk p8
    exact ⟨z.1, Int.le_trans z.2 w.2⟩
theorem p8_R : ∀ k : Nat, k < 7 → p8 k ≤ 262144 := by decide
theorem p8_S : ∀ k : Nat, k < 6 → p8 k ≤ 32768 := by decide
/-- rows of patterns -/
def rowP (R : Int → Int) : Nat → Int → Int
  | 0 => fun p => if p = R 10 then 1 else 0
  | k + 1 => fun p => sumN (fun d => rowP R k (bxor p (R (29 + d)))) (R 1).toNat
theorem rowP_R (V : RV R) : ∀ (k : Nat) (s : Int), 0 ≤ rowP R k s ∧ rowP R k s ≤ p8 k
  | 0, s => by unfold rowP p8; split <;> omega
  | k + 1, s => by
    have n := V.n
    have z := sumN_R (f := fun d => rowP R k (bxor s (R (29 + d)))) (c := p8 k) (R 1).toNat (fun i _ _ => rowP_R V k _)
    have p := (rowP_R V k 0)
    have w := mulR (a := p8 k) (A := p8 k) (c := ((R 1).toNat : Int)) (B := 8) (by omega) (Int.le_refl _) (by omega) (by omega)
    unfold rowP p8
    exact ⟨z.1, Int.le_trans z.2 w.2⟩
theorem sumN_z {f : Int → Int} : ∀ n : Nat, (∀ i : Int, 0 ≤ i → i < n → f i = 0) → sumN f n = 0
  | 0, _ => rfl
  | n + 1, h => by unfold sumN; rw [sumN_z n (fun i a c => h i a (by omega)), h n (by omega) (by omega)]; rfl
theorem sumN_add {f g : Int → Int} : ∀ n : Nat, sumN (fun i => f i + g i) n = sumN f n + sumN g n
  | 0 => rfl
  | n + 1 => by unfold sumN; rw [sumN_add n]; omega
theorem sumN_sw {f : Int → Int → Int} (n : Nat) : ∀ m : Nat, sumN (fun i => sumN (fun j => f i j) n) m = sumN (fun j => sumN (fun i => f i j) m) n
  | 0 => (sumN_z n (fun _ _ _ => rfl)).symm
  | m + 1 => by
    show sumN _ m + _ = sumN (fun j => sumN (fun i => f i j) m + f m j) n
    rw [sumN_sw n m, sumN_add]
theorem sumN_spl {f : Int → Int} {a : Nat} : ∀ c : Nat, sumN f (a + c) = sumN f a + sumN (fun i => f (a + i)) c
  | 0 => (Int.add_zero _).symm
  | c + 1 => by
    show sumN f (a + c) + f ((a + c : Nat) : Int) = sumN f a + (sumN (fun i => f (a + i)) c + f (a + (c : Int)))
    rw [sumN_spl c, show ((a + c : Nat) : Int) = (a : Int) + (c : Int) by omega]; omega
theorem bx_nat {a c : Nat} (ha : a < 1024) (hc : c < 1024) : bxor (a : Int) (c : Int) = ((a ^^^ c : Nat) : Int) := by
  rw [bxor_nn (by omega) (by omega) (by omega) (by omega)]; rfl
theorem sum_xor : ∀ (k : Nat) (f : Int → Int) (x : Nat), x < 2 ^ k → sumN (fun p => f ((p.toNat ^^^ x : Nat) : Int)) (2 ^ k) = sumN f (2 ^ k)
  | 0, f, x, h => by
    have : x = 0 := by simpa using h
    subst this
    rfl
  | k + 1, f, x, h => by
    have q : (2 ^ (k + 1) : Nat) = 2 ^ k + 2 ^ k := by rw [Nat.pow_succ]; omega
    rw [q, sumN_spl, sumN_spl]
    by_cases e : x < 2 ^ k
    · rw [sum_xor k f x e]
      have z : sumN (fun i => f ((((2 ^ k : Nat) : Int) + i).toNat ^^^ x : Nat)) (2 ^ k) = sumN (fun i => (fun j => f (((2 ^ k : Nat) : Int) + j)) ((i.toNat ^^^ x : Nat) : Int)) (2 ^ k) := sumN_c _ (fun i i0 i1 => by
        have t : (((2 ^ k : Nat) : Int) + i).toNat = 2 ^ k + i.toNat := by omega
        rw [t, xor_hi (by omega) e, Int.natCast_add])
      rw [z, sum_xor k (fun j => f (((2 ^ k : Nat) : Int) + j)) x e]
    · obtain ⟨y, ey⟩ : ∃ y, x = 2 ^ k + y := ⟨x - 2 ^ k, by omega⟩
      have hy : y < 2 ^ k := by omega
      have a : sumN (fun p => f ((p.toNat ^^^ x : Nat) : Int)) (2 ^ k) = sumN (fun i => (fun j => f (((2 ^ k : Nat) : Int) + j)) ((i.toNat ^^^ y : Nat) : Int)) (2 ^ k) := sumN_c _ (fun i i0 i1 => by
        rw [ey, Nat.xor_comm, xor_hi hy (by omega), Nat.xor_comm, Int.natCast_add])
      have c : sumN (fun i => f ((((2 ^ k : Nat) : Int) + i).toNat ^^^ x : Nat)) (2 ^ k) = sumN (fun i => f ((i.toNat ^^^ y : Nat) : Int)) (2 ^ k) := sumN_c _ (fun i i0 i1 => by
        have hi : i.toNat < 2 ^ k := by omega
        have t : (((2 ^ k : Nat) : Int) + i).toNat = 2 ^ k + i.toNat := by omega
        have hxy : i.toNat ^^^ y < 2 ^ k := Nat.xor_lt_two_pow hi hy
        have z : (2 ^ k + i.toNat) ^^^ x = i.toNat ^^^ y := by
          rw [ey]
          have s1 : (2 ^ k + y) = (2 ^ k + 0) ^^^ y := by rw [xor_hi (by omega) hy, Nat.zero_xor]
          rw [s1, ← Nat.xor_assoc, Nat.xor_comm (2 ^ k + i.toNat) (2 ^ k + 0), Nat.xor_assoc, xor_hi hi hy]
          have s2 : (2 ^ k + (i.toNat ^^^ y)) = (2 ^ k + 0) ^^^ (i.toNat ^^^ y) := by rw [xor_hi (by omega) hxy, Nat.zero_xor]
          rw [s2, ← Nat.xor_assoc, Nat.xor_self, Nat.zero_xor]
        rw [t, z])
      rw [a, c, sum_xor k (fun j => f (((2 ^ k : Nat) : Int) + j)) y hy, sum_xor k f y hy]
      omega
theorem sum_bx {f : Int → Int} {k : Nat} (hk : k ≤ 10) {x : Int} (x0 : 0 ≤ x) (x1 : x < (2 ^ k : Nat)) : sumN (fun p => f (bxor p x)) (2 ^ k) = sumN f (2 ^ k) := by
  obtain ⟨y, rfl⟩ := Int.eq_ofNat_of_zero_le x0
  have b : 2 ^ k ≤ 1024 := Nat.le_trans (Nat.pow_le_pow_right (by decide) hk) (by decide)
  rw [← sum_xor k f y (by omega)]
  exact sumN_c _ (fun i i0 i1 => by
    obtain ⟨j, rfl⟩ := Int.eq_ofNat_of_zero_le i0
    rw [bx_nat (by omega) (by omega), Int.toNat_natCast])
theorem bxor_bx {a x : Int} (a0 : 0 ≤ a) (a1 : a < 1024) : bxor (bxor a x) x = a := by rw [bxor_as, bxor_s]; exact bxor_z a0 (by omega)
/-- what a set turns over, a dispute more or less -/
theorem tuM_x {D : Int → Int} {s s' : Nat} : ∀ n : Nat, (∀ i : Int, 0 ≤ i → i < n → 0 ≤ D i ∧ D i < 1024) → tuM D ((s ^^^ s' : Nat) : Int) n = bxor (tuM D s n) (tuM D s' n)
  | 0, _ => bxor_s.symm
  | n + 1, r => by
    show bxor (tuM D _ n) (if tb _ n then D n else 0) = bxor (bxor (tuM D s n) (if tb s n then D n else 0)) (bxor (tuM D s' n) (if tb s' n then D n else 0))
    have t : tb ((s ^^^ s' : Nat) : Int) (n : Int) = (tb s n ^^ tb s' n) := Nat.testBit_xor _ _ _
    have rn := r n (by omega) (by omega)
    rw [tuM_x n (fun i a c => r i a (by omega)), t, bxor_as, bxor_as (a := tuM D s n), ← bxor_as (a := if tb (s : Int) n then D n else 0), bxor_comm (if tb (s : Int) n then D n else 0) (tuM D s' n), bxor_as (a := tuM D s' n)]
    congr 2
    cases tb (s : Int) n <;> cases tb (s' : Int) n <;> simp
    · exact bxor_s.symm
    · exact (bxor_z0 rn.1 (by omega)).symm
    · exact (bxor_z rn.1 (by omega)).symm
    · exact bxor_s.symm
theorem nS_x (V : RV R) {a c : Int} (a0 : 0 ≤ a) (a1 : a < nS R) (c0 : 0 ≤ c) (c1 : c < nS R) : 0 ≤ bxor a c ∧ bxor a c < nS R := by
  have e := nS_e V
  obtain ⟨x, rfl⟩ := Int.eq_ofNat_of_zero_le a0
  obtain ⟨y, rfl⟩ := Int.eq_ofNat_of_zero_le c0
  rw [bx_nat (by omega) (by omega)]
  have := Nat.xor_lt_two_pow (n := (R 1).toNat) (x := x) (y := y) (by omega) (by omega)
  omega
theorem tT_x (V : RV R) {s d : Int} (s0 : 0 ≤ s) (s1 : s < nS R) (d0 : 0 ≤ d) (d1 : d < R 1) : tT R (bxor s (shl 1 d)) = bxor (tT R s) (R (29 + d)) := by
  have e := nS_e V
  have t := tT_1 V d0 d1
  obtain ⟨x, rfl⟩ := Int.eq_ofNat_of_zero_le s0
  obtain ⟨y, ey⟩ := Int.eq_ofNat_of_zero_le t.2.1
  rw [ey] at t ⊢
  rw [bx_nat (by omega) (by omega), ← t.1]
  exact tuM_x _ (fun i i0 i1 => V.di i i0 (by have := V.n; omega))
theorem brT_x (V : RV R) {s d : Int} (s0 : 0 ≤ s) (s1 : s < nS R) (d0 : 0 ≤ d) (d1 : d < R 1) : brT R (bxor s (shl 1 d)) = bxor (brT R s) (R (29 + d)) := by
  unfold brT; rw [tT_x V s0 s1 d0 d1, bxor_as]
theorem sumN_pt {f : Int → Int} {a : Int} (a0 : 0 ≤ a) : ∀ n : Nat, a < n → sumN (fun p => f p * (if p = a then 1 else 0)) n = f a
  | 0, h => by omega
  | n + 1, h => by
    show sumN (fun p => f p * (if p = a then 1 else 0)) n + f n * (if (n : Int) = a then 1 else 0) = f a
    by_cases e : (n : Int) = a
    · rw [if_pos e, sumN_z n (fun i i0 i1 => by rw [if_neg (by omega)]; omega), e]; omega
    · rw [if_neg e, sumN_pt a0 n (by omega)]; omega
theorem sumN_mul {f : Int → Int} {c : Int} : ∀ n : Nat, c * sumN f n = sumN (fun i => c * f i) n
  | 0 => Int.mul_zero _
  | n + 1 => by show c * (sumN f n + f n) = _ + c * f n; rw [Int.mul_add, sumN_mul n]
theorem row_walk (V : RV R) : ∀ (k : Nat) (f : Int → Int), sumN (fun p => f p * rowP R k p) 1024 = sumN (fun s => f (brT R s) * wlk R k s) (nSn R)
  | 0, f => by
    have e := nS_e V
    have w := V.w
    refine (sumN_pt (by omega) 1024 (by omega)).trans ?_
    refine Eq.trans ?_ (sumN_pt (f := fun s => f (brT R s)) (a := 0) (Int.le_refl _) (nSn R) (by unfold nSn; omega)).symm
    show _ = f (brT R 0)
    rw [brT_0 V]
  | k + 1, f => by
    have e := nS_e V
    have n := V.n
    have a : sumN (fun p => f p * rowP R (k + 1) p) 1024 = sumN (fun d => sumN (fun p => f p * rowP R k (bxor p (R (29 + d)))) 1024) (R 1).toNat := by
      rw [sumN_sw]; exact sumN_c _ (fun p _ _ => sumN_mul _)
    have c : sumN (fun s => f (brT R s) * wlk R (k + 1) s) (nSn R) = sumN (fun d => sumN (fun s => f (brT R s) * wlk R k (bxor s (shl 1 d))) (nSn R)) (R 1).toNat := by
      rw [sumN_sw]; exact sumN_c _ (fun p _ _ => sumN_mul _)
    rw [a, c]
    refine sumN_c _ (fun d d0 d1 => ?_)
    have di := V.di d d0 (by omega)
    have sd := tT_1 V d0 (show d < R 1 by omega)
    have x1 : sumN (fun p => f p * rowP R k (bxor p (R (29 + d)))) 1024 = sumN (fun p => f (bxor p (R (29 + d))) * rowP R k p) 1024 := by
      have z := sum_bx (f := fun p => f (bxor p (R (29 + d))) * rowP R k p) (k := 10) (by omega) di.1 (show R (29 + d) < (2 ^ 10 : Nat) by omega)
      refine Eq.trans (sumN_c _ (fun p p0 p1 => ?_)) z
      show _ = f (bxor (bxor p (R (29 + d))) (R (29 + d))) * _
      rw [bxor_bx p0 (by omega)]
    have x2 : sumN (fun s => f (brT R s) * wlk R k (bxor s (shl 1 d))) (nSn R) = sumN (fun s => f (bxor (brT R s) (R (29 + d))) * wlk R k s) (nSn R) := by
      have hn : nSn R = 2 ^ (R 1).toNat := by unfold nSn; omega
      have z := sum_bx (f := fun s => f (bxor (brT R s) (R (29 + d))) * wlk R k s) (k := (R 1).toNat) (by omega) sd.2.1 (by omega)
      rw [← hn] at z
      refine Eq.trans (sumN_c _ (fun s s0 s1 => ?_)) z
      have sn : s < nS R := by unfold nSn at s1; omega
      show _ = f (bxor (brT R (bxor s (shl 1 d))) (R (29 + d))) * _
      have br := brT_R V s
      rw [brT_x V s0 sn d0 (by omega), bxor_bx br.1 br.2]
    rw [x1, x2]
    exact row_walk V k (fun p => f (bxor p (R (29 + d))))
def kE (R : Int → Int) (m : Int) : Nat := if 0 < R 1 then m.toNat else 0
def litC (R : Int → Int) (k : Nat) (x : Int) : Int := sumN (fun s => wlk R k s * pc (band (brT R s) x)) (nSn R)
def darkC (R : Int → Int) (k : Nat) : Int := sumN (fun s => if tT R s = R 10 then wlk R k s else 0) (nSn R)
def totW (R : Int → Int) (m : Int) : Int := powN (R 1) (kE R m)
def aLit (R : Int → Int) (m l lo : Int) : Int := if (0 ≤ m ∧ m ≤ 6) ∧ (0 ≤ l ∧ l < 10) then lowV (litC R (kE R m) (shl 1 l)) (totW R m) lo else -1
def aDark (R : Int → Int) (m lo : Int) : Int := if 0 ≤ m ∧ m ≤ 6 then lowV (darkC R (kE R m)) (totW R m) lo else -1
def aMean (R : Int → Int) (m lo : Int) : Int := if 0 ≤ m ∧ m ≤ 6 then lowV (litC R (kE R m) 1023) (totW R m) lo else -1
theorem kE_R {m : Int} (m0 : 0 ≤ m) (m6 : m ≤ 6) : kE R m < 7 := by unfold kE; split <;> omega
theorem pc_bit : ∀ p : Nat, p < 1024 → ∀ l : Nat, l < 10 → pc (band (p : Int) (shl 1 (l : Int))) = if tb (p : Int) (l : Int) = true then 1 else 0 := by decide +kernel
theorem band_all : ∀ p : Nat, p < 1024 → band (p : Int) 1023 = p := by decide +kernel
theorem band_bit : ∀ p : Nat, p < 1024 → ∀ l : Nat, l < 10 → 0 ≤ band (p : Int) (shl 1 (l : Int)) ∧ band (p : Int) (shl 1 (l : Int)) < 1024 := by decide +kernel
theorem brb_R (V : RV R) {l : Int} (l0 : 0 ≤ l) (l1 : l < 10) (s : Int) : 0 ≤ band (brT R s) (shl 1 l) ∧ band (brT R s) (shl 1 l) < 1024 := by
  have br := brT_R V s
  obtain ⟨p, hp, e⟩ := nat_of (n := 1024) br.1 br.2
  obtain ⟨q, hq, f⟩ := nat_of (n := 10) l0 l1
  rw [e, f]; exact band_bit p hp q hq
theorem bra_R (V : RV R) (s : Int) : 0 ≤ band (brT R s) 1023 ∧ band (brT R s) 1023 < 1024 := by
  have br := brT_R V s
  obtain ⟨p, hp, e⟩ := nat_of (n := 1024) br.1 br.2
  rw [e, band_all p hp]; omega
theorem lit_e (V : RV R) (k : Nat) {l : Int} (l0 : 0 ≤ l) (l1 : l < 10) : sumN (fun p => if tb p l = true then rowP R k p else 0) 1024 = litC R k (shl 1 l) := by
  have z := row_walk V k (fun p => if tb p l = true then 1 else 0)
  unfold litC
  refine Eq.trans (sumN_c _ (fun p _ _ => ?_)) (z.trans (sumN_c _ (fun s _ _ => ?_)))
  · split <;> omega
  · have br := brT_R V s
    obtain ⟨p, hp, e⟩ := nat_of (n := 1024) br.1 br.2
    obtain ⟨q, hq, f⟩ := nat_of (n := 10) l0 l1
    show (if tb (brT R s) l = true then 1 else 0) * _ = _
    rw [e, f, pc_bit p hp q hq, Int.mul_comm]
theorem mean_e (V : RV R) (k : Nat) : sumN (fun p => pc p * rowP R k p) 1024 = litC R k 1023 := by
  have z := row_walk V k pc
  unfold litC
  refine z.trans (sumN_c _ (fun s _ _ => ?_))
  have br := brT_R V s
  obtain ⟨p, hp, e⟩ := nat_of (n := 1024) br.1 br.2
  rw [e, band_all p hp, Int.mul_comm]
theorem dark_e (V : RV R) (k : Nat) : rowP R k 0 = darkC R k := by
  have z := row_walk V k (fun p => if p = 0 then 1 else 0)
  have y := sumN_pt (f := rowP R k) (a := 0) (Int.le_refl _) 1024 (by omega)
  unfold darkC
  refine y.symm.trans (Eq.trans (sumN_c _ (fun p _ _ => Int.mul_comm _ _)) (z.trans (sumN_c _ (fun s _ _ => ?_))))
  have w := V.w
  have tr := tT_R V s
  show (if bxor (R 10) (tT R s) = 0 then 1 else 0) * _ = _
  by_cases e : tT R s = R 10
  · rw [e, bxor_s, if_pos rfl, if_pos rfl, Int.one_mul]
  · rw [if_neg (fun q => e ?_), if_neg e, Int.zero_mul]
    have := (bx_iff (t := R 10) (l := tT R s) (x := 0) (by omega) (by omega) tr.1 tr.2 (by omega) (by omega)).1 q
    rw [bxor_z0 tr.1 (by omega)] at this
    exact this.symm
theorem tot_R (V : RV R) {m : Int} (m0 : 0 ≤ m) (m6 : m ≤ 6) : 0 < totW R m ∧ totW R m ≤ 1000000000000 := by
  have n := V.n
  have w := powN_R (s := R 1) (by omega) (by omega) (kE_R (R := R) m0 m6)
  refine ⟨?_, w.2.1⟩
  unfold totW kE
  by_cases e : 0 < R 1
  · rw [if_pos e]
    have : ∀ k : Nat, 0 < powN (R 1) k := fun k => by
      induction k with
      | zero => exact Int.zero_lt_one
      | succ k ih => exact Int.mul_pos ih e
    exact this _
  · rw [if_neg e]; exact Int.zero_lt_one
theorem litC_R (V : RV R) {k : Nat} (hk : k < 7) (x : Int) : 0 ≤ litC R k x ∧ litC R k x ≤ 2621440 * 256 := by
  have e := nS_e V
  have p := p8_R k hk
  have z := sumN_R (f := fun s => wlk R k s * pc (band (brT R s) x)) (c := 2621440) (nSn R) (fun i _ _ => by
    have w := wlk_R V k i
    have c := pc_R (x := band (brT R i) x)
    exact mulR (A := 262144) (B := 10) w.1 (by omega) c.1 c.2)
  unfold litC
  unfold nSn at *
  omega
theorem darkC_R (V : RV R) {k : Nat} (hk : k < 7) : 0 ≤ darkC R k ∧ darkC R k ≤ 262144 * 256 := by
  have e := nS_e V
  have p := p8_R k hk
  have z := sumN_R (f := fun s => if tT R s = R 10 then wlk R k s else 0) (c := 262144) (nSn R) (fun i _ _ => by
    have w := wlk_R V k i
    split <;> omega)
  unfold darkC
  unfold nSn at *
  omega
theorem PO_m (b : Bool × Bool) : PO b ∈ [326, 327] := by rcases PO_c b with ⟨e, _⟩ | ⟨e, _⟩ <;> rw [e] <;> decide
theorem NO_m (b : Bool × Bool) : NO b ∈ [326, 327] := by rcases PO_c b with ⟨_, e⟩ | ⟨_, e⟩ <;> rw [e] <;> decide
theorem PN (b : Bool × Bool) : PO b ≠ NO b := by rcases PO_c b with ⟨e, f⟩ | ⟨e, f⟩ <;> omega
theorem PO_sw (b : Bool × Bool) : PO (!b.1, b.2) = NO b := by unfold PO NO; cases b.1 <;> rfl
theorem SP.x {h h' : Nat → Int → Int} (S : SP h R) (e : eqX [326, 327] h h') : SP h' R := ⟨by rw [e 323 (by decide)]; exact S.1, by rw [e 323 (by decide)]; exact S.2.1, fun s s0 s1 => by rw [e 324 (by decide)]; exact S.2.2 s s0 s1⟩
end WALK
