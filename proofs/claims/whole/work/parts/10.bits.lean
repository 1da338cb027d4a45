/-! bits of small numbers -/
theorem of_nn {a : Int} (h0 : 0 ≤ a) (h1 : a < 2147483648) : Int32.ofInt a = Int32.ofNat a.toNat := by
  obtain ⟨n, rfl⟩ := Int.eq_ofNat_of_zero_le h0
  rw [Int32.ofInt_eq_ofNat]; rfl
theorem i32_nat {n : Nat} (h : n < 2147483648) : (Int32.ofNat n).toInt = n := by
  rw [← Int32.ofInt_eq_ofNat]; exact i32_to ⟨by omega, by omega⟩
theorem band_nn {a b : Int} (a0 : 0 ≤ a) (a1 : a < 2147483648) (b0 : 0 ≤ b) (b1 : b < 2147483648) : band a b = ((a.toNat &&& b.toNat : Nat) : Int) := by
  unfold band
  rw [of_nn a0 a1, of_nn b0 b1]
  have e : Int32.ofNat a.toNat &&& Int32.ofNat b.toNat = Int32.ofNat (a.toNat &&& b.toNat) := by
    apply Int32.toBitVec.inj
    rw [Int32.toBitVec_and, Int32.toBitVec_ofNat', Int32.toBitVec_ofNat', Int32.toBitVec_ofNat', BitVec.ofNat_and]
  rw [e, i32_nat (Nat.lt_of_le_of_lt Nat.and_le_left (by omega))]
theorem bxor_nn {a b : Int} (a0 : 0 ≤ a) (a1 : a < 2147483648) (b0 : 0 ≤ b) (b1 : b < 2147483648) : bxor a b = ((a.toNat ^^^ b.toNat : Nat) : Int) := by
  unfold bxor
  rw [of_nn a0 a1, of_nn b0 b1]
  have e : Int32.ofNat a.toNat ^^^ Int32.ofNat b.toNat = Int32.ofNat (a.toNat ^^^ b.toNat) := by
    apply Int32.toBitVec.inj
    rw [Int32.toBitVec_xor, Int32.toBitVec_ofNat', Int32.toBitVec_ofNat', Int32.toBitVec_ofNat', BitVec.ofNat_xor]
  have hx : a.toNat ^^^ b.toNat < 2 ^ 31 := Nat.xor_lt_two_pow (by omega) (by omega)
  rw [e, i32_nat (by omega)]
theorem bor_nn {a b : Int} (a0 : 0 ≤ a) (a1 : a < 2147483648) (b0 : 0 ≤ b) (b1 : b < 2147483648) : bor a b = ((a.toNat ||| b.toNat : Nat) : Int) := by
  unfold bor
  rw [of_nn a0 a1, of_nn b0 b1]
  have e : Int32.ofNat a.toNat ||| Int32.ofNat b.toNat = Int32.ofNat (a.toNat ||| b.toNat) := by
    apply Int32.toBitVec.inj
    rw [Int32.toBitVec_or, Int32.toBitVec_ofNat', Int32.toBitVec_ofNat', Int32.toBitVec_ofNat', BitVec.ofNat_or]
  have hx : a.toNat ||| b.toNat < 2 ^ 31 := Nat.or_lt_two_pow (by omega) (by omega)
  rw [e, i32_nat (by omega)]
theorem and31 : ∀ k : Nat, k < 32 → Int32.ofInt (k : Int) &&& 31 = Int32.ofNat k := by decide +kernel
theorem shr_nn {a : Int} {k : Nat} (a0 : 0 ≤ a) (a1 : a < 2147483648) (hk : k < 31) : shr a k = a / 2 ^ k := by
  unfold shr
  rw [and31 k (by omega)]
  have e : (Int32.ofInt a >>> Int32.ofNat k).toInt = (Int32.ofInt a).toInt >>> k := pk_shr _ _ k (by
    have : ∀ k : Nat, k < 31 → ((Int32.ofNat k).toBitVec.smod 32).toNat = k := by decide +kernel
    exact this k hk)
  rw [e, i32_to ⟨by omega, by omega⟩, Int.shiftRight_eq_div_pow]
  rfl
theorem shl_nn {n k : Nat} (hk : k < 31) (h : n * 2 ^ k < 2147483648) : shl n k = ((n * 2 ^ k : Nat) : Int) := by
  unfold shl
  rw [and31 k (by omega), Int32.ofInt_eq_ofNat]
  have e : Int32.ofNat n <<< Int32.ofNat k = Int32.ofNat (n * 2 ^ k) := pk_shlN _ k (by
    have : ∀ k : Nat, k < 31 → ((Int32.ofNat k).toBitVec.smod 32).toNat = k := by decide +kernel
    exact this k hk) (by omega)
  rw [e, i32_nat h]
def pcN (n : Nat) : Nat := (List.range 10).countP (fun i => n.testBit i)
def pc (x : Int) : Int := pcN x.toNat
theorem pcN_le (n : Nat) : pcN n ≤ 10 := by
  unfold pcN
  have := List.countP_le_length (p := fun i => n.testBit i) (l := List.range 10)
  simpa using this
theorem pc_R {x : Int} : 0 ≤ pc x ∧ pc x ≤ 10 := ⟨by unfold pc; omega, by have := pcN_le x.toNat; unfold pc; omega⟩
theorem nat_of {a : Int} {n : Nat} (h0 : 0 ≤ a) (h1 : a < n) : ∃ k : Nat, k < n ∧ a = k := ⟨a.toNat, by omega, by omega⟩
/-- a set's or a pattern's bit -/
def tb (x k : Int) : Bool := x.toNat.testBit k.toNat
theorem has_tb {x k : Int} (x0 : 0 ≤ x) (x1 : x < 2147483648) (k0 : 0 ≤ k) (k1 : k < 31) : band (shr x k) 1 = if tb x k then 1 else 0 := by
  obtain ⟨j, hj, rfl⟩ := nat_of (n := 31) k0 k1
  rw [shr_nn x0 x1 hj]
  have h2 : 0 ≤ x / 2 ^ j := Int.ediv_nonneg x0 (by exact_mod_cast Nat.zero_le _)
  have h3 : x / 2 ^ j ≤ x := Int.ediv_le_self _ x0
  rw [band_nn h2 (by omega) (by omega) (by omega)]
  have e : (x / 2 ^ j).toNat = x.toNat / 2 ^ j := by
    obtain ⟨n, rfl⟩ := Int.eq_ofNat_of_zero_le x0
    have : ((n : Int) / 2 ^ j) = ((n / 2 ^ j : Nat) : Int) := by push_cast; rfl
    rw [this]; rfl
  rw [e, show (1 : Int).toNat = 1 from rfl, Nat.and_one_is_mod]
  unfold tb
  rw [show ((j : Int)).toNat = j from rfl]
  have h4 : x.toNat.testBit j = decide (x.toNat / 2 ^ j % 2 = 1) := by rw [Nat.testBit_eq_decide_div_mod_eq]
  rw [h4]
  have h5 := Nat.mod_two_eq_zero_or_one (x.toNat / 2 ^ j)
  rcases h5 with h5 | h5 <;> simp [h5]
theorem bxor_lt {a b : Int} (a0 : 0 ≤ a) (a1 : a < 1024) (b0 : 0 ≤ b) (b1 : b < 1024) : 0 ≤ bxor a b ∧ bxor a b < 1024 := by
  rw [bxor_nn a0 (by omega) b0 (by omega)]
  have hx : a.toNat ^^^ b.toNat < 2 ^ 10 := Nat.xor_lt_two_pow (by omega) (by omega)
  omega
theorem bxor_comm (a b : Int) : bxor a b = bxor b a := by unfold bxor; rw [Int32.xor_comm]
theorem bxor_z {a : Int} (a0 : 0 ≤ a) (a1 : a < 2147483648) : bxor a 0 = a := by
  rw [bxor_nn a0 a1 (by omega) (by omega)]; simp; omega
theorem bxor_s {a : Int} : bxor a a = 0 := by unfold bxor; rw [Int32.xor_self]; rfl
theorem bxor_as {a b c : Int} : bxor (bxor a b) c = bxor a (bxor b c) := by
  unfold bxor; rw [Int32.ofInt_toInt, Int32.ofInt_toInt, Int32.xor_assoc]
/-- a lamp put out -/
theorem out_R : ∀ n : Nat, n < 1024 → ∀ k : Nat, k < 10 → 0 ≤ band (n : Int) (bxor (shl 1 (k : Int)) (-1)) ∧ band (n : Int) (bxor (shl 1 (k : Int)) (-1)) < 1024 := by decide +kernel
theorem out_x : ∀ n : Nat, n < 1024 → ∀ k : Nat, k < 10 → tb (n : Int) (k : Int) = true → bxor (n : Int) (shl 1 (k : Int)) = band (n : Int) (bxor (shl 1 (k : Int)) (-1)) := by decide +kernel
theorem bc_p1 : ∀ n : Nat, n < 1024 → R32 ((n : Int) - band (ushr n 1) 1431655765) := by unfold R32; decide +kernel
theorem bc_p2 : ∀ n : Nat, n < 1024 → R32 (band ((n : Int) - band (ushr n 1) 1431655765) 858993459 + band (ushr ((n : Int) - band (ushr n 1) 1431655765) 2) 858993459) := by unfold R32; decide +kernel
def bcA (n : Int) : Int := band (n - band (ushr n 1) 1431655765) 858993459 + band (ushr (n - band (ushr n 1) 1431655765) 2) 858993459
theorem bc_p3 : ∀ n : Nat, n < 1024 → R32 (bcA n + ushr (bcA n) 4) := by unfold R32; decide +kernel
def bcB (n : Int) : Int := band (bcA n + ushr (bcA n) 4) 252645135
theorem bc_p4 : ∀ n : Nat, n < 1024 → R32 (bcB n + ushr (bcB n) 8) := by unfold R32; decide +kernel
theorem bc_p5 : ∀ n : Nat, n < 1024 → R32 (bcB n + ushr (bcB n) 8 + ushr (bcB n + ushr (bcB n) 8) 16) := by unfold R32; decide +kernel
theorem bc_p6 : ∀ n : Nat, n < 1024 → band (bcB n + ushr (bcB n) 8 + ushr (bcB n + ushr (bcB n) 8) 16) 63 = pc n := by decide +kernel

theorem wJ6_bitCount {G : GT} {δ : Nat} {σ : Hp} {Q : V → Hp → Prop} {x : Int} (h0 : 0 ≤ x) (h1 : x < 1024) (hQ : Q (vi (pc x)) σ) : WP G δ 0 0 MJ6_bitCount_0f7a4 0 [vi x] [] σ Q := by
  obtain ⟨n, hn, rfl⟩ := nat_of (n := 1024) h0 h1
  refine il_0 dJ6_bitCount_0f7a4_0 ?_
  refine il_0 dJ6_bitCount_0f7a4_1 ?_
  refine ic_1 dJ6_bitCount_0f7a4_2 ?_
  refine wp_iushr dJ6_bitCount_0f7a4_3 ?_
  refine wp_ldcw (1431655765) dJ6_bitCount_0f7a4_4 ⟨by decide, by decide⟩ cc_J6_265 ?_
  refine wp_iand dJ6_bitCount_0f7a4_7 ?_
  refine wp_isub dJ6_bitCount_0f7a4_8 (bc_p1 n hn) ?_
  refine is_0 dJ6_bitCount_0f7a4_9 (by decide) ?_
  refine il_0 dJ6_bitCount_0f7a4_10 ?_
  refine wp_ldcw (858993459) dJ6_bitCount_0f7a4_11 ⟨by decide, by decide⟩ cc_J6_266 ?_
  refine wp_iand dJ6_bitCount_0f7a4_14 ?_
  refine il_0 dJ6_bitCount_0f7a4_15 ?_
  refine ic_2 dJ6_bitCount_0f7a4_16 ?_
  refine wp_iushr dJ6_bitCount_0f7a4_17 ?_
  refine wp_ldcw (858993459) dJ6_bitCount_0f7a4_18 ⟨by decide, by decide⟩ cc_J6_266 ?_
  refine wp_iand dJ6_bitCount_0f7a4_21 ?_
  refine wp_iadd dJ6_bitCount_0f7a4_22 (bc_p2 n hn) ?_
  refine is_0 dJ6_bitCount_0f7a4_23 (by decide) ?_
  refine il_0 dJ6_bitCount_0f7a4_24 ?_
  refine il_0 dJ6_bitCount_0f7a4_25 ?_
  refine ic_4 dJ6_bitCount_0f7a4_26 ?_
  refine wp_iushr dJ6_bitCount_0f7a4_27 ?_
  refine wp_iadd dJ6_bitCount_0f7a4_28 (bc_p3 n hn) ?_
  refine wp_ldcw (252645135) dJ6_bitCount_0f7a4_29 ⟨by decide, by decide⟩ cc_J6_267 ?_
  refine wp_iand dJ6_bitCount_0f7a4_32 ?_
  refine is_0 dJ6_bitCount_0f7a4_33 (by decide) ?_
  refine il_0 dJ6_bitCount_0f7a4_34 ?_
  refine il_0 dJ6_bitCount_0f7a4_35 ?_
  refine bi_8 dJ6_bitCount_0f7a4_36 ?_
  refine wp_iushr dJ6_bitCount_0f7a4_38 ?_
  refine wp_iadd dJ6_bitCount_0f7a4_39 (bc_p4 n hn) ?_
  refine is_0 dJ6_bitCount_0f7a4_40 (by decide) ?_
  refine il_0 dJ6_bitCount_0f7a4_41 ?_
  refine il_0 dJ6_bitCount_0f7a4_42 ?_
  refine bi_16 dJ6_bitCount_0f7a4_43 ?_
  refine wp_iushr dJ6_bitCount_0f7a4_45 ?_
  refine wp_iadd dJ6_bitCount_0f7a4_46 (bc_p5 n hn) ?_
  refine is_0 dJ6_bitCount_0f7a4_47 (by decide) ?_
  refine il_0 dJ6_bitCount_0f7a4_48 ?_
  refine bi_63 dJ6_bitCount_0f7a4_49 ?_
  refine wp_iand dJ6_bitCount_0f7a4_51 ?_
  refine wp_ireti dJ6_bitCount_0f7a4_52 rfl ?_
  exact qv hQ (bc_p6 n hn).symm
