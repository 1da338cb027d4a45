/-! the game -/
section GAME
variable {R : Int → Int}
def hfN (R : Int → Int) : Int := (R 1 + 1) / 2
def bstN (g : Int → Int) (s : Int) : Nat → Int
  | 0 => -1
  | d + 1 => if tb s (d : Int) = true then bstN g s d else if bstN g s d = -1 ∨ (if pc s % 2 = 0 then bstN g s d < g (bor s (shl 1 (d : Int))) else g (bor s (shl 1 (d : Int))) < bstN g s d) then g (bor s (shl 1 (d : Int))) else bstN g s d
theorem bstN_s {g : Int → Int} {s d : Int} (h : 0 ≤ d) : bstN g s (d + 1).toNat = if tb s d = true then bstN g s d.toNat else if bstN g s d.toNat = -1 ∨ (if pc s % 2 = 0 then bstN g s d.toNat < g (bor s (shl 1 d)) else g (bor s (shl 1 d)) < bstN g s d.toNat) then g (bor s (shl 1 d)) else bstN g s d.toNat := by
  obtain ⟨n, rfl⟩ := Int.eq_ofNat_of_zero_le h
  rfl
theorem bstN_t {g : Int → Int} {s d f : Int} (h : 0 ≤ d) (q : tb s d = true) (hb : f = bstN g s d.toNat) : f = bstN g s (d + 1).toNat := by
  rw [bstN_s h, if_pos q, ← hb]
theorem bstN_f {g : Int → Int} {s d f : Int} (h : 0 ≤ d) (q : tb s d = false) (hb : f = bstN g s d.toNat) (c : f = -1 ∨ (pc s % 2 = 0 ∧ f < g (bor s (shl 1 d))) ∨ (¬ pc s % 2 = 0 ∧ g (bor s (shl 1 d)) < f)) : g (bor s (shl 1 d)) = bstN g s (d + 1).toNat := by
  rw [bstN_s h, if_neg (by rw [q]; decide), ← hb, if_pos]
  rcases c with c | c | c
  · exact Or.inl c
  · exact Or.inr (by rw [if_pos c.1]; exact c.2)
  · exact Or.inr (by rw [if_neg c.1]; exact c.2)
theorem bstN_k {g : Int → Int} {s d f : Int} (h : 0 ≤ d) (q : tb s d = false) (hb : f = bstN g s d.toNat) (c : f ≠ -1 ∧ ((pc s % 2 = 0 ∧ g (bor s (shl 1 d)) ≤ f) ∨ (¬ pc s % 2 = 0 ∧ f ≤ g (bor s (shl 1 d))))) : f = bstN g s (d + 1).toNat := by
  rw [bstN_s h, if_neg (by rw [q]; decide), ← hb, if_neg]
  intro z
  rcases z with z | z
  · exact c.1 z
  · rcases c.2 with e | e
    · rw [if_pos e.1] at z; omega
    · rw [if_neg e.1] at z; omega
theorem bstN_c {g g' : Int → Int} {s : Int} : ∀ n : Nat, (∀ d : Nat, d < n → tb s (d : Int) = false → g (bor s (shl 1 (d : Int))) = g' (bor s (shl 1 (d : Int)))) → bstN g s n = bstN g' s n
  | 0, _ => rfl
  | n + 1, h => by
    unfold bstN
    rw [bstN_c n (fun d hd => h d (by omega))]
    cases q : tb s (n : Int) with
    | true => rfl
    | false => rw [h n (by omega) q]
theorem bstN_R {g : Int → Int} {s : Int} (h : ∀ x, 0 ≤ g x ∧ g x ≤ 10) : ∀ n : Nat, -1 ≤ bstN g s n ∧ bstN g s n ≤ 10
  | 0 => by unfold bstN; omega
  | n + 1 => by
    have ih := bstN_R h n (s := s)
    have z := h (bor s (shl 1 (n : Int)))
    unfold bstN
    split
    · exact ih
    · split <;> omega
theorem more_d : ∀ s : Nat, s < 256 → ∀ d : Nat, d < 8 → tb (s : Int) (d : Int) = false → pc (bor (s : Int) (shl 1 (d : Int))) = pc (s : Int) + 1 ∧ bor (s : Int) (shl 1 (d : Int)) = (s : Int) + shl 1 (d : Int) := by decide +kernel
theorem more_x (V : RV R) {s d : Int} (s0 : 0 ≤ s) (s1 : s < nS R) (d0 : 0 ≤ d) (d1 : d < R 1) (q : tb s d = false) : pc (bor s (shl 1 d)) = pc s + 1 ∧ s < bor s (shl 1 d) ∧ bor s (shl 1 d) < nS R := by
  have e := nS_e V
  have n := V.n
  obtain ⟨x, rfl⟩ := Int.eq_ofNat_of_zero_le s0
  obtain ⟨k, rfl⟩ := Int.eq_ofNat_of_zero_le d0
  have m := more_d x (by omega) k (by omega) q
  have t := two_R k (by omega)
  have l := shl_2 k (by omega)
  have u := tT_1 V d0 d1
  refine ⟨m.1, by rw [m.2, l]; omega, ?_⟩
  rw [l, bor_nn (by omega) (by omega) (by omega) (by omega), Int.toNat_natCast, Int.toNat_natCast, e.1]
  rw [l] at u
  have := Nat.or_lt_two_pow (x := x) (y := 2 ^ k) (n := (R 1).toNat) (by omega) (by omega)
  omega
def gmv (R : Int → Int) : Nat → Int → Int
  | 0 => fun s => pc (brT R s)
  | f + 1 => fun s => bstN (gmv R f) s (R 1).toNat
def GV (R : Int → Int) (s : Int) : Int := gmv R (hfN R - pc s).toNat s
theorem GV_0 {s : Int} (h : hfN R ≤ pc s) : GV R s = pc (brT R s) := by
  unfold GV
  rw [show (hfN R - pc s).toNat = 0 by omega]
  rfl
theorem GV_s (V : RV R) {s : Int} (s0 : 0 ≤ s) (s1 : s < nS R) (h : pc s < hfN R) : GV R s = bstN (GV R) s (R 1).toNat := by
  obtain ⟨f, ef⟩ : ∃ f, (hfN R - pc s).toNat = f + 1 := ⟨(hfN R - pc s).toNat - 1, by omega⟩
  show gmv R (hfN R - pc s).toNat s = _
  rw [ef]
  refine bstN_c _ (fun d hd q => ?_)
  have m := more_x V s0 s1 (show (0 : Int) ≤ d by omega) (by have := V.n; omega) q
  show _ = gmv R (hfN R - pc (bor s (shl 1 (d : Int)))).toNat (bor s (shl 1 (d : Int)))
  rw [show (hfN R - pc (bor s (shl 1 (d : Int)))).toNat = f by omega]
theorem gmv_R (R : Int → Int) : ∀ (f : Nat) (s : Int), -1 ≤ gmv R f s ∧ gmv R f s ≤ 10
  | 0, s => by have := pc_R (x := brT R s); show -1 ≤ pc _ ∧ pc _ ≤ 10; omega
  | f + 1, s => by
    show -1 ≤ bstN (gmv R f) s _ ∧ bstN (gmv R f) s _ ≤ 10
    generalize (R 1).toNat = n
    induction n with
    | zero => unfold bstN; omega
    | succ n ih =>
      have z := gmv_R R f (bor s (shl 1 (n : Int)))
      unfold bstN
      split
      · exact ih
      · split <;> omega
def fsN (R : Int → Int) (d : Int) : Bool := GV R (shl 1 d) == GV R 0
def aGame (R : Int → Int) (w : Int) : Int := if w = 0 then GV R 0 else loN (fsN R) (R 1).toNat
end GAME
theorem pc_one : ∀ d : Nat, d < 8 → pc (shl 1 (d : Int)) = 1 := by decide +kernel
theorem pc_one' {d : Int} (d0 : 0 ≤ d) (d8 : d < 8) : pc (shl 1 d) = 1 := by
  obtain ⟨k, rfl⟩ := Int.eq_ofNat_of_zero_le d0
  exact pc_one k (by omega)
theorem pc_00 : pc 0 = 0 := by decide
theorem SP.g {R : Int → Int} {h h' : Nat → Int → Int} (S : SP h R) (e : eqX [325] h h') : SP h' R := ⟨by rw [e 323 (by decide)]; exact S.1, by rw [e 323 (by decide)]; exact S.2.1, fun s s0 s1 => by rw [e 324 (by decide)]; exact S.2.2 s s0 s1⟩
