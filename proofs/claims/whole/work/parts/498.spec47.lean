/-! the model's words -/
theorem i64_nat {n : Nat} (h : n < 9223372036854775808) : (Int64.ofNat n).toInt = n := by
  have := i64_to (a := (n : Int)) ⟨by omega, by omega⟩
  rw [Int64.ofInt_eq_ofNat] at this
  exact this
theorem of64 {a : Int} (h0 : 0 ≤ a) : Int64.ofInt a = Int64.ofNat a.toNat := by
  obtain ⟨n, rfl⟩ := Int.eq_ofNat_of_zero_le h0
  rw [Int64.ofInt_eq_ofNat]; rfl
theorem lshr48 {a : Int} (a0 : 0 ≤ a) (a1 : a < 9223372036854775808) : lshr a 48 = a / 281474976710656 := by
  unfold lshr
  show ((Int64.ofInt a).toBitVec.sshiftRight (((Int32.ofInt 48).toInt64 &&& 63).toBitVec.smod 64).toNat).toInt = _
  rw [show (((Int32.ofInt 48).toInt64 &&& 63).toBitVec.smod 64).toNat = 48 by decide, BitVec.toInt_sshiftRight]
  show (Int64.ofInt a).toInt >>> 48 = _
  rw [i64_to ⟨by omega, by omega⟩, Int.shiftRight_eq_div_pow]
  rfl
theorem lshl8 {a : Int} (a0 : 0 ≤ a) (a1 : a < 281474976710656) : lshl a 8 = a * 256 := by
  unfold lshl
  have e3 : Int64.ofInt a <<< ((Int32.ofInt 8).toInt64 &&& 63) = Int64.ofNat (a.toNat * 256) := by
    apply Int64.toBitVec_inj.mp
    apply BitVec.eq_of_toNat_eq
    show ((Int64.ofInt a).toBitVec <<< (((Int32.ofInt 8).toInt64 &&& 63).toBitVec.smod 64).toNat).toNat = _
    rw [show (((Int32.ofInt 8).toInt64 &&& 63).toBitVec.smod 64).toNat = 8 by decide, BitVec.toNat_shiftLeft, Nat.shiftLeft_eq, of64 a0, Int64.toBitVec_ofNat', Int64.toBitVec_ofNat', BitVec.toNat_ofNat, BitVec.toNat_ofNat]
    omega
  rw [e3, i64_nat (by omega)]
  omega
theorem lbor8 {a c : Int} (a0 : 0 ≤ a) (a1 : a < 281474976710656) (c0 : 0 ≤ c) (c1 : c < 256) : lbor (a * 256) c = a * 256 + c := by
  unfold lbor
  have e : Int64.ofInt (a * 256) ||| Int64.ofInt c = Int64.ofNat (a.toNat * 256 + c.toNat) := by
    apply Int64.toBitVec_inj.mp
    rw [Int64.toBitVec_or, of64 (by omega), of64 c0, Int64.toBitVec_ofNat', Int64.toBitVec_ofNat', Int64.toBitVec_ofNat']
    apply BitVec.eq_of_toNat_eq
    rw [BitVec.toNat_or, BitVec.toNat_ofNat, BitVec.toNat_ofNat, BitVec.toNat_ofNat]
    have h := Nat.shiftLeft_add_eq_or_of_lt (a := a.toNat) (b := c.toNat) (i := 8) (by omega)
    rw [Nat.shiftLeft_eq] at h
    rw [Nat.mod_eq_of_lt (by omega), Nat.mod_eq_of_lt (by omega), Nat.mod_eq_of_lt (by omega), show (a * 256).toNat = a.toNat * 2 ^ 8 by omega, ← h]
  rw [e, i64_nat (by omega)]
  omega
/-- the model's token by the class's kind -/
def tsgL : List Int := [60, 4, 62, 5, 61, 35, 43, 45, 42, 47, 40, 41, 59]
def tsg (k : Int) : Int := tsgL.getD (k - 41).toNat 0
theorem tsg_v : tsg 41 = 60 ∧ tsg 42 = 4 ∧ tsg 43 = 62 ∧ tsg 44 = 5 ∧ tsg 45 = 61 ∧ tsg 46 = 35 ∧ tsg 47 = 43 ∧ tsg 48 = 45 ∧ tsg 49 = 42 ∧ tsg 50 = 47 ∧ tsg 51 = 40 ∧ tsg 52 = 41 ∧ tsg 53 = 59 := by decide
def TokF (T : Int → Int) (N p t num w : Int) : Prop :=
  (t = 0 ↔ (tkF T N p).1 = 54) ∧ (t = 1 ↔ (tkF T N p).1 = 40) ∧ ((tkF T N p).1 = 40 → (0 ≤ num ∧ num ≤ 999999) ∧ (tkF T N p).2.1 = min num 10000) ∧
  (∀ x : Int, 0 ≤ x → x < 29 → x ≠ 8 → ((t = 2 ∧ w = wcK x) ↔ (tkF T N p).1 = x)) ∧ ((t = 2 ∧ mtB T p ((tkF T N p).2.2 - p) 8 = true) ↔ (tkF T N p).1 = 8) ∧ ∀ x : Int, 41 ≤ x → x ≤ 53 → (t = tsg x ↔ (tkF T N p).1 = x)
theorem tsg_R {x : Int} (h0 : 41 ≤ x) (h1 : x ≤ 53) : tsg x ≠ 0 ∧ tsg x ≠ 1 ∧ tsg x ≠ 2 ∧ tsg x ≠ 3 ∧ tsg x ≠ 58 := by
  obtain ⟨n, rfl⟩ : ∃ n : Nat, x = 41 + n := ⟨(x - 41).toNat, by omega⟩
  have : ∀ n : Nat, n < 13 → tsg (41 + n) ≠ 0 ∧ tsg (41 + n) ≠ 1 ∧ tsg (41 + n) ≠ 2 ∧ tsg (41 + n) ≠ 3 ∧ tsg (41 + n) ≠ 58 := by decide
  exact this n (by omega)
theorem tsg_u {x z : Int} (h0 : 41 ≤ x) (h1 : x ≤ 53) (g0 : 41 ≤ z) (g1 : z ≤ 53) (e : tsg x = tsg z) : x = z := by
  obtain ⟨n, rfl⟩ : ∃ n : Nat, x = 41 + n := ⟨(x - 41).toNat, by omega⟩
  obtain ⟨m, rfl⟩ : ∃ n : Nat, z = 41 + n := ⟨(z - 41).toNat, by omega⟩
  have : ∀ n : Nat, n < 13 → ∀ m : Nat, m < 13 → tsg (41 + n) = tsg (41 + m) → n = m := by decide
  have := this n (by omega) m (by omega) e
  omega
section TOK
variable {T : Int → Int} {N p t num w : Int}
theorem TokF.end_ (e : N ≤ p) : TokF T N p 0 num w := by
  have k : tkF T N p = (54, 0, p) := by unfold tkF; rw [if_pos e]
  unfold TokF
  rw [k]
  refine ⟨by simp, by simp, fun z => by have z : (54 : Int) = 40 := z; omega, fun x x0 x1 _ => ⟨fun z => absurd z.1 (by decide), fun z => ?_⟩, ⟨fun z => absurd z.1 (by decide), fun z => by have z : (54 : Int) = 8 := z; omega⟩, fun x x0 x1 => ⟨fun z => absurd z.symm (tsg_R x0 x1).1, fun z => ?_⟩⟩
  · have : (54 : Int) = x := z
    omega
  · have : (54 : Int) = x := z
    omega
theorem TokF.fig_ (n : p < N) (l : ¬ ltrB (T p) = true) (e : figB (T p) = true) (hn : num = nvM T p (run figB T N p - p).toNat) : TokF T N p 1 num w := by
  have k : tkF T N p = (40, nvC T p (run figB T N p - p).toNat, run figB T N p) := by unfold tkF; rw [if_neg (by omega), if_neg l, if_pos e]
  have rs := runS (f := figB) (T := T) (N := N) (p := p) figB_o (by omega)
  have nv := nv_S (T := T) (p := p) (run figB T N p - p).toNat (fun j hj => figB_i.mp (rs.2.2.1 (p + j) (by omega) (by omega)).2)
  unfold TokF
  rw [k]
  refine ⟨by simp, by simp, fun _ => by rw [hn]; exact nv, fun x x0 x1 _ => ⟨fun z => absurd z.1 (by decide), fun z => ?_⟩, ⟨fun z => absurd z.1 (by decide), fun z => by have z : (40 : Int) = 8 := z; omega⟩, fun x x0 x1 => ⟨fun z => absurd z.symm (tsg_R x0 x1).2.1, fun z => ?_⟩⟩
  · have : (40 : Int) = x := z
    omega
  · have : (40 : Int) = x := z
    omega
theorem TokF.ltr_ (n : p < N) (l : ltrB (T p) = true) (hw : w = mwF T p (run ltrB T N p - p)) : TokF T N p 2 num w := by
  have k : tkF T N p = (wdF T p (run ltrB T N p - p), 0, run ltrB T N p) := by unfold tkF; rw [if_neg (by omega), if_pos l]
  have rs := runS (f := ltrB) (T := T) (N := N) (p := p) ltrB_o (by omega)
  have wr := wdF_R (T := T) (p := p) (len := run ltrB T N p - p)
  unfold TokF
  rw [k]
  dsimp only
  refine ⟨⟨fun z => absurd z (by decide), fun z => by omega⟩, ⟨fun z => absurd z (by decide), fun z => by omega⟩, fun z => by omega, fun x x0 x1 x8 => ?_, ?_, fun x x0 x1 => ⟨fun z => absurd z.symm (tsg_R x0 x1).2.2.1, fun z => by omega⟩⟩
  · rw [wdF_i x0 x1, hw, mw_i x0 x1 x8 (by omega) (fun j hj => by have := ltrB_i.mp (rs.2.2.1 (p + j) (by omega) (by omega)).2; omega)]
    exact ⟨fun z => z.2, fun z => ⟨rfl, z⟩⟩
  · rw [wdF_i (by decide) (by decide)]
    exact ⟨fun z => z.2, fun z => ⟨rfl, z⟩⟩
theorem TokF.sgn_ (n : p < N) (l : ¬ ltrB (T p) = true) (g : ¬ figB (T p) = true) (ht : t = if (T p = 60 ∨ T p = 62) ∧ bA T N (p + 1) = 61 then (if T p = 60 then 4 else 5) else if (T p = 60 ∨ T p = 62 ∨ T p = 61 ∨ T p = 35 ∨ T p = 43 ∨ T p = 45 ∨ T p = 42 ∨ T p = 47 ∨ T p = 40 ∨ T p = 41 ∨ T p = 58 ∨ T p = 59) then T p else 3) : TokF T N p t num w := by
  have key : ∀ k, ((tkF T N p).1 = k) → (41 ≤ k ∧ k ≤ 53 ∧ t = tsg k) ∨ (k = 55 ∧ (t = 3 ∨ t = 58)) → TokF T N p t num w := by
    intro k hk h
    unfold TokF
    rw [hk]
    rcases h with ⟨a, b, c⟩ | ⟨a, c⟩
    · obtain ⟨q1, q2, q3, q4, q5⟩ := tsg_R a b
      rw [← c] at q1 q2 q3 q4 q5
      refine ⟨⟨fun z => absurd z q1, fun z => by omega⟩, ⟨fun z => absurd z q2, fun z => by omega⟩, fun z => by omega, fun x x0 x1 _ => ⟨fun z => absurd z.1 q3, fun z => by omega⟩, ⟨fun z => absurd z.1 q3, fun z => by omega⟩, fun x x0 x1 => ⟨fun z => ?_, fun z => by rw [c, z]⟩⟩
      exact tsg_u a b x0 x1 (by rw [← c, z])
    · refine ⟨⟨fun z => by omega, fun z => by omega⟩, ⟨fun z => by omega, fun z => by omega⟩, fun z => by omega, fun x x0 x1 _ => ⟨fun z => by omega, fun z => by omega⟩, ⟨fun z => by omega, fun z => by omega⟩, fun x x0 x1 => ⟨fun z => ?_, fun z => by omega⟩⟩
      have := tsg_R x0 x1
      omega
  have v := tsg_v
  by_cases q : (T p = 60 ∨ T p = 62) ∧ bA T N (p + 1) = 61
  · rw [if_pos q] at ht
    refine key _ rfl (Or.inl ?_)
    have k : (tkF T N p).1 = sgF (T p) + 1 := by unfold tkF; rw [if_neg (by omega), if_neg l, if_neg g, if_pos q]
    rw [k]
    rcases q.1 with e | e
    · rw [e] at ht ⊢; rw [if_pos rfl] at ht; rw [show sgF 60 + 1 = 42 by decide]; omega
    · rw [e] at ht ⊢; rw [if_neg (by decide)] at ht; rw [show sgF 62 + 1 = 44 by decide]; omega
  · rw [if_neg q] at ht
    refine key _ rfl ?_
    have k : (tkF T N p).1 = sgF (T p) := by unfold tkF; rw [if_neg (by omega), if_neg l, if_neg g, if_neg q]
    rw [k]
    by_cases y : (T p = 60 ∨ T p = 62 ∨ T p = 61 ∨ T p = 35 ∨ T p = 43 ∨ T p = 45 ∨ T p = 42 ∨ T p = 47 ∨ T p = 40 ∨ T p = 41 ∨ T p = 58 ∨ T p = 59)
    · rw [if_pos y] at ht
      rcases y with e | e | e | e | e | e | e | e | e | e | e | e
      · rw [e] at ht ⊢; rw [show sgF 60 = 41 by decide]; left; omega
      · rw [e] at ht ⊢; rw [show sgF 62 = 43 by decide]; left; omega
      · rw [e] at ht ⊢; rw [show sgF 61 = 45 by decide]; left; omega
      · rw [e] at ht ⊢; rw [show sgF 35 = 46 by decide]; left; omega
      · rw [e] at ht ⊢; rw [show sgF 43 = 47 by decide]; left; omega
      · rw [e] at ht ⊢; rw [show sgF 45 = 48 by decide]; left; omega
      · rw [e] at ht ⊢; rw [show sgF 42 = 49 by decide]; left; omega
      · rw [e] at ht ⊢; rw [show sgF 47 = 50 by decide]; left; omega
      · rw [e] at ht ⊢; rw [show sgF 40 = 51 by decide]; left; omega
      · rw [e] at ht ⊢; rw [show sgF 41 = 52 by decide]; left; omega
      · rw [e] at ht ⊢; rw [show sgF 58 = 55 by decide]; right; omega
      · rw [e] at ht ⊢; rw [show sgF 59 = 53 by decide]; left; omega
    · rw [if_neg y] at ht
      right
      refine ⟨?_, Or.inl ht⟩
      unfold sgF
      repeat' split
      all_goals first | rfl | (exfalso; omega)
end TOK
/-- the model looks at the j-th token -/
def TkM (h hl : Nat → Int → Int) (T : Int → Int) (N j : Int) : Prop := h 336 7 = aF T N (j + 1).toNat ∧ h 336 8 = pF T N j ∧ TokF T N (pF T N j) (h 336 9) (h 336 10) (hl 336 11)
/-- only the model's place, token, number change -/
def eqTk (h h' : Nat → Int → Int) : Prop := eqX [336] h h' ∧ ∀ k : Int, k ≠ 7 → k ≠ 8 → k ≠ 9 → k ≠ 10 → h' 336 k = h 336 k
theorem eqTk.rf {h : Nat → Int → Int} : eqTk h h := ⟨eqX.rf, fun _ _ _ _ _ => rfl⟩
theorem eqTk.tr {h h' h'' : Nat → Int → Int} (a : eqTk h h') (c : eqTk h' h'') : eqTk h h'' := ⟨a.1.tr c.1, fun k e1 e2 e3 e4 => (c.2 k e1 e2 e3 e4).trans (a.2 k e1 e2 e3 e4)⟩
theorem eqTk.up {h h' : Nat → Int → Int} (a : eqTk h h') {k x : Int} (e : k = 7 ∨ k = 8 ∨ k = 9 ∨ k = 10) : eqTk h (up h' 336 k x) := ⟨a.1.up (by decide), fun j e1 e2 e3 e4 => by rw [up_k (by omega)]; exact a.2 j e1 e2 e3 e4⟩

theorem wX9_byteAt {G : GT} {δ : Nat} {h hl : Nat → Int → Int} {b : Bool × Bool} {Q : V → Hp → Prop} {k N : Int} {T : Int → Int} (hδ : δ ≤ 1700) (k0 : 0 ≤ k) (hN : h 336 4 = N) (hT : h 340 = T) (B : BY T N) (hQ : Q (vi (bA T N k)) (HS h hl b)) : WP G δ 0 0 MX9_byteAt 0 [vr (336), vi k] [] (HS h hl b) Q := by
  have B0 := B.1
  have B1 := B.2.1
  have B2 := B.2.2
  refine il_1 dX9_byteAt_0 ?_
  refine al_0 dX9_byteAt_1 ?_
  refine g_X9_85 dX9_byteAt_2 rfl tt336 ?_
  rw [hN]
  refine wp_icmp_ge 17 dX9_byteAt_5 rfl (fun c5 => ?_) (fun c5 => ?_)
  · refine ic_m1 dX9_byteAt_17 ?_
    refine wp_ireti dX9_byteAt_18 rfl ?_
    first
      | exact qv hQ (bA_o (by omega))
      | exact qv hQ (bA_i (by omega))
  · refine al_0 dX9_byteAt_8 ?_
    refine g_X9_19 (340) dX9_byteAt_9 rfl tt336 (rr9_3 tt336) (by omega) ?_
    refine il_1 dX9_byteAt_12 ?_
    refine wp_iaload dX9_byteAt_13 tt340 (by omega) (by omega) ?_
    rw [hT]
    refine wp_goto 18 dX9_byteAt_14 rfl ?_
    refine wp_ireti dX9_byteAt_18 rfl ?_
    first
      | exact qv hQ (bA_o (by omega))
      | exact qv hQ (bA_i (by omega))

theorem wX9_isLetterByte {G : GT} {δ : Nat} {h hl : Nat → Int → Int} {b : Bool × Bool} {Q : V → Hp → Prop} {s : Int} (hδ : δ ≤ 1700)  (hQ : Q (vi (b2i ((97 ≤ s ∧ s ≤ 122) ∨ (65 ≤ s ∧ s ≤ 90)))) (HS h hl b)) : WP G δ 0 0 MX9_isLetterByte 0 [vi s] [] (HS h hl b) Q := by
  refine il_0 dX9_isLetterByte_0 ?_
  refine bi_97 dX9_isLetterByte_1 ?_
  refine wp_icmp_lt 12 dX9_isLetterByte_3 rfl (fun c3 => ?_) (fun c3 => ?_)
  · refine il_0 dX9_isLetterByte_12 ?_
    refine bi_65 dX9_isLetterByte_13 ?_
    refine wp_icmp_lt 28 dX9_isLetterByte_15 rfl (fun c15 => ?_) (fun c15 => ?_)
    · refine ic_0 dX9_isLetterByte_28 ?_
      refine wp_iretz dX9_isLetterByte_29 rfl (by omega) ?_
      first | exact qv hQ (b2i_t (by omega)) | exact qv hQ (b2i_f (by omega))
    · refine il_0 dX9_isLetterByte_18 ?_
      refine bi_90 dX9_isLetterByte_19 ?_
      refine wp_icmp_gt 28 dX9_isLetterByte_21 rfl (fun c21 => ?_) (fun c21 => ?_)
      · refine ic_0 dX9_isLetterByte_28 ?_
        refine wp_iretz dX9_isLetterByte_29 rfl (by omega) ?_
        first | exact qv hQ (b2i_t (by omega)) | exact qv hQ (b2i_f (by omega))
      · refine ic_1 dX9_isLetterByte_24 ?_
        refine wp_goto 29 dX9_isLetterByte_25 rfl ?_
        refine wp_iretz dX9_isLetterByte_29 rfl (by omega) ?_
        first | exact qv hQ (b2i_t (by omega)) | exact qv hQ (b2i_f (by omega))
  · refine il_0 dX9_isLetterByte_6 ?_
    refine bi_122 dX9_isLetterByte_7 ?_
    refine wp_icmp_le 24 dX9_isLetterByte_9 rfl (fun c9 => ?_) (fun c9 => ?_)
    · refine ic_1 dX9_isLetterByte_24 ?_
      refine wp_goto 29 dX9_isLetterByte_25 rfl ?_
      refine wp_iretz dX9_isLetterByte_29 rfl (by omega) ?_
      first | exact qv hQ (b2i_t (by omega)) | exact qv hQ (b2i_f (by omega))
    · refine il_0 dX9_isLetterByte_12 ?_
      refine bi_65 dX9_isLetterByte_13 ?_
      refine wp_icmp_lt 28 dX9_isLetterByte_15 rfl (fun c15 => ?_) (fun c15 => ?_)
      · refine ic_0 dX9_isLetterByte_28 ?_
        refine wp_iretz dX9_isLetterByte_29 rfl (by omega) ?_
        first | exact qv hQ (b2i_t (by omega)) | exact qv hQ (b2i_f (by omega))
      · refine il_0 dX9_isLetterByte_18 ?_
        refine bi_90 dX9_isLetterByte_19 ?_
        refine wp_icmp_gt 28 dX9_isLetterByte_21 rfl (fun c21 => ?_) (fun c21 => ?_)
        · refine ic_0 dX9_isLetterByte_28 ?_
          refine wp_iretz dX9_isLetterByte_29 rfl (by omega) ?_
          first | exact qv hQ (b2i_t (by omega)) | exact qv hQ (b2i_f (by omega))
        · refine ic_1 dX9_isLetterByte_24 ?_
          refine wp_goto 29 dX9_isLetterByte_25 rfl ?_
          refine wp_iretz dX9_isLetterByte_29 rfl (by omega) ?_
          first | exact qv hQ (b2i_t (by omega)) | exact qv hQ (b2i_f (by omega))

theorem wX9_isFigure {G : GT} {δ : Nat} {h hl : Nat → Int → Int} {b : Bool × Bool} {Q : V → Hp → Prop} {s : Int} (hδ : δ ≤ 1700)  (hQ : Q (vi (b2i (48 ≤ s ∧ s ≤ 57))) (HS h hl b)) : WP G δ 0 0 MX9_isFigure 0 [vi s] [] (HS h hl b) Q := by
  refine il_0 dX9_isFigure_0 ?_
  refine bi_48 dX9_isFigure_1 ?_
  refine wp_icmp_lt 16 dX9_isFigure_3 rfl (fun c3 => ?_) (fun c3 => ?_)
  · refine ic_0 dX9_isFigure_16 ?_
    refine wp_iretz dX9_isFigure_17 rfl (by omega) ?_
    first | exact qv hQ (b2i_t (by omega)) | exact qv hQ (b2i_f (by omega))
  · refine il_0 dX9_isFigure_6 ?_
    refine bi_57 dX9_isFigure_7 ?_
    refine wp_icmp_gt 16 dX9_isFigure_9 rfl (fun c9 => ?_) (fun c9 => ?_)
    · refine ic_0 dX9_isFigure_16 ?_
      refine wp_iretz dX9_isFigure_17 rfl (by omega) ?_
      first | exact qv hQ (b2i_t (by omega)) | exact qv hQ (b2i_f (by omega))
    · refine ic_1 dX9_isFigure_12 ?_
      refine wp_goto 17 dX9_isFigure_13 rfl ?_
      refine wp_iretz dX9_isFigure_17 rfl (by omega) ?_
      first | exact qv hQ (b2i_t (by omega)) | exact qv hQ (b2i_f (by omega))

theorem wX9_isSign {G : GT} {δ : Nat} {h hl : Nat → Int → Int} {b : Bool × Bool} {Q : V → Hp → Prop} {s : Int} (hδ : δ ≤ 1700)  (hQ : Q (vi (b2i (s = 60 ∨ s = 62 ∨ s = 61 ∨ s = 35 ∨ s = 43 ∨ s = 45 ∨ s = 42 ∨ s = 47 ∨ s = 40 ∨ s = 41 ∨ s = 58 ∨ s = 59))) (HS h hl b)) : WP G δ 0 0 MX9_isSign 0 [vi s] [] (HS h hl b) Q := by
  refine il_0 dX9_isSign_0 ?_
  rcases (show ((s) < 35 ∨ 62 < (s)) ∨ ((s) = 35) ∨ ((s) = 36) ∨ ((s) = 37) ∨ ((s) = 38) ∨ ((s) = 39) ∨ ((s) = 40) ∨ ((s) = 41) ∨ ((s) = 42) ∨ ((s) = 43) ∨ ((s) = 44) ∨ ((s) = 45) ∨ ((s) = 46) ∨ ((s) = 47) ∨ ((s) = 48) ∨ ((s) = 49) ∨ ((s) = 50) ∨ ((s) = 51) ∨ ((s) = 52) ∨ ((s) = 53) ∨ ((s) = 54) ∨ ((s) = 55) ∨ ((s) = 56) ∨ ((s) = 57) ∨ ((s) = 58) ∨ ((s) = 59) ∨ ((s) = 60) ∨ ((s) = 61) ∨ ((s) = 62) by omega) with c1 | c1 | c1 | c1 | c1 | c1 | c1 | c1 | c1 | c1 | c1 | c1 | c1 | c1 | c1 | c1 | c1 | c1 | c1 | c1 | c1 | c1 | c1 | c1 | c1 | c1 | c1 | c1 | c1
  · refine wp_tswD 130 dX9_isSign_1 (by omega) rfl ?_
    refine ic_0 dX9_isSign_130 ?_
    refine wp_iretz dX9_isSign_131 rfl (by omega) ?_
    first | exact qv hQ (b2i_t (by omega)) | exact qv hQ (b2i_f (by omega))
  · refine wp_tsw 128 dX9_isSign_1 (by omega) (by omega) (127) (by rw [c1]; rfl) rfl ?_
    refine ic_1 dX9_isSign_128 ?_
    refine wp_iretz dX9_isSign_129 rfl (by omega) ?_
    first | exact qv hQ (b2i_t (by omega)) | exact qv hQ (b2i_f (by omega))
  · refine wp_tsw 130 dX9_isSign_1 (by omega) (by omega) (129) (by rw [c1]; rfl) rfl ?_
    refine ic_0 dX9_isSign_130 ?_
    refine wp_iretz dX9_isSign_131 rfl (by omega) ?_
    first | exact qv hQ (b2i_t (by omega)) | exact qv hQ (b2i_f (by omega))
  · refine wp_tsw 130 dX9_isSign_1 (by omega) (by omega) (129) (by rw [c1]; rfl) rfl ?_
    refine ic_0 dX9_isSign_130 ?_
    refine wp_iretz dX9_isSign_131 rfl (by omega) ?_
    first | exact qv hQ (b2i_t (by omega)) | exact qv hQ (b2i_f (by omega))
  · refine wp_tsw 130 dX9_isSign_1 (by omega) (by omega) (129) (by rw [c1]; rfl) rfl ?_
    refine ic_0 dX9_isSign_130 ?_
    refine wp_iretz dX9_isSign_131 rfl (by omega) ?_
    first | exact qv hQ (b2i_t (by omega)) | exact qv hQ (b2i_f (by omega))
  · refine wp_tsw 130 dX9_isSign_1 (by omega) (by omega) (129) (by rw [c1]; rfl) rfl ?_
    refine ic_0 dX9_isSign_130 ?_
    refine wp_iretz dX9_isSign_131 rfl (by omega) ?_
    first | exact qv hQ (b2i_t (by omega)) | exact qv hQ (b2i_f (by omega))
  · refine wp_tsw 128 dX9_isSign_1 (by omega) (by omega) (127) (by rw [c1]; rfl) rfl ?_
    refine ic_1 dX9_isSign_128 ?_
    refine wp_iretz dX9_isSign_129 rfl (by omega) ?_
    first | exact qv hQ (b2i_t (by omega)) | exact qv hQ (b2i_f (by omega))
  · refine wp_tsw 128 dX9_isSign_1 (by omega) (by omega) (127) (by rw [c1]; rfl) rfl ?_
    refine ic_1 dX9_isSign_128 ?_
    refine wp_iretz dX9_isSign_129 rfl (by omega) ?_
    first | exact qv hQ (b2i_t (by omega)) | exact qv hQ (b2i_f (by omega))
  · refine wp_tsw 128 dX9_isSign_1 (by omega) (by omega) (127) (by rw [c1]; rfl) rfl ?_
    refine ic_1 dX9_isSign_128 ?_
    refine wp_iretz dX9_isSign_129 rfl (by omega) ?_
    first | exact qv hQ (b2i_t (by omega)) | exact qv hQ (b2i_f (by omega))
  · refine wp_tsw 128 dX9_isSign_1 (by omega) (by omega) (127) (by rw [c1]; rfl) rfl ?_
    refine ic_1 dX9_isSign_128 ?_
    refine wp_iretz dX9_isSign_129 rfl (by omega) ?_
    first | exact qv hQ (b2i_t (by omega)) | exact qv hQ (b2i_f (by omega))
  · refine wp_tsw 130 dX9_isSign_1 (by omega) (by omega) (129) (by rw [c1]; rfl) rfl ?_
    refine ic_0 dX9_isSign_130 ?_
    refine wp_iretz dX9_isSign_131 rfl (by omega) ?_
    first | exact qv hQ (b2i_t (by omega)) | exact qv hQ (b2i_f (by omega))
  · refine wp_tsw 128 dX9_isSign_1 (by omega) (by omega) (127) (by rw [c1]; rfl) rfl ?_
    refine ic_1 dX9_isSign_128 ?_
    refine wp_iretz dX9_isSign_129 rfl (by omega) ?_
    first | exact qv hQ (b2i_t (by omega)) | exact qv hQ (b2i_f (by omega))
  · refine wp_tsw 130 dX9_isSign_1 (by omega) (by omega) (129) (by rw [c1]; rfl) rfl ?_
    refine ic_0 dX9_isSign_130 ?_
    refine wp_iretz dX9_isSign_131 rfl (by omega) ?_
    first | exact qv hQ (b2i_t (by omega)) | exact qv hQ (b2i_f (by omega))
  · refine wp_tsw 128 dX9_isSign_1 (by omega) (by omega) (127) (by rw [c1]; rfl) rfl ?_
    refine ic_1 dX9_isSign_128 ?_
    refine wp_iretz dX9_isSign_129 rfl (by omega) ?_
    first | exact qv hQ (b2i_t (by omega)) | exact qv hQ (b2i_f (by omega))
  · refine wp_tsw 130 dX9_isSign_1 (by omega) (by omega) (129) (by rw [c1]; rfl) rfl ?_
    refine ic_0 dX9_isSign_130 ?_
    refine wp_iretz dX9_isSign_131 rfl (by omega) ?_
    first | exact qv hQ (b2i_t (by omega)) | exact qv hQ (b2i_f (by omega))
  · refine wp_tsw 130 dX9_isSign_1 (by omega) (by omega) (129) (by rw [c1]; rfl) rfl ?_
    refine ic_0 dX9_isSign_130 ?_
    refine wp_iretz dX9_isSign_131 rfl (by omega) ?_
    first | exact qv hQ (b2i_t (by omega)) | exact qv hQ (b2i_f (by omega))
  · refine wp_tsw 130 dX9_isSign_1 (by omega) (by omega) (129) (by rw [c1]; rfl) rfl ?_
    refine ic_0 dX9_isSign_130 ?_
    refine wp_iretz dX9_isSign_131 rfl (by omega) ?_
    first | exact qv hQ (b2i_t (by omega)) | exact qv hQ (b2i_f (by omega))
  · refine wp_tsw 130 dX9_isSign_1 (by omega) (by omega) (129) (by rw [c1]; rfl) rfl ?_
    refine ic_0 dX9_isSign_130 ?_
    refine wp_iretz dX9_isSign_131 rfl (by omega) ?_
    first | exact qv hQ (b2i_t (by omega)) | exact qv hQ (b2i_f (by omega))
  · refine wp_tsw 130 dX9_isSign_1 (by omega) (by omega) (129) (by rw [c1]; rfl) rfl ?_
    refine ic_0 dX9_isSign_130 ?_
    refine wp_iretz dX9_isSign_131 rfl (by omega) ?_
    first | exact qv hQ (b2i_t (by omega)) | exact qv hQ (b2i_f (by omega))
  · refine wp_tsw 130 dX9_isSign_1 (by omega) (by omega) (129) (by rw [c1]; rfl) rfl ?_
    refine ic_0 dX9_isSign_130 ?_
    refine wp_iretz dX9_isSign_131 rfl (by omega) ?_
    first | exact qv hQ (b2i_t (by omega)) | exact qv hQ (b2i_f (by omega))
  · refine wp_tsw 130 dX9_isSign_1 (by omega) (by omega) (129) (by rw [c1]; rfl) rfl ?_
    refine ic_0 dX9_isSign_130 ?_
    refine wp_iretz dX9_isSign_131 rfl (by omega) ?_
    first | exact qv hQ (b2i_t (by omega)) | exact qv hQ (b2i_f (by omega))
  · refine wp_tsw 130 dX9_isSign_1 (by omega) (by omega) (129) (by rw [c1]; rfl) rfl ?_
    refine ic_0 dX9_isSign_130 ?_
    refine wp_iretz dX9_isSign_131 rfl (by omega) ?_
    first | exact qv hQ (b2i_t (by omega)) | exact qv hQ (b2i_f (by omega))
  · refine wp_tsw 130 dX9_isSign_1 (by omega) (by omega) (129) (by rw [c1]; rfl) rfl ?_
    refine ic_0 dX9_isSign_130 ?_
    refine wp_iretz dX9_isSign_131 rfl (by omega) ?_
    first | exact qv hQ (b2i_t (by omega)) | exact qv hQ (b2i_f (by omega))
  · refine wp_tsw 130 dX9_isSign_1 (by omega) (by omega) (129) (by rw [c1]; rfl) rfl ?_
    refine ic_0 dX9_isSign_130 ?_
    refine wp_iretz dX9_isSign_131 rfl (by omega) ?_
    first | exact qv hQ (b2i_t (by omega)) | exact qv hQ (b2i_f (by omega))
  · refine wp_tsw 128 dX9_isSign_1 (by omega) (by omega) (127) (by rw [c1]; rfl) rfl ?_
    refine ic_1 dX9_isSign_128 ?_
    refine wp_iretz dX9_isSign_129 rfl (by omega) ?_
    first | exact qv hQ (b2i_t (by omega)) | exact qv hQ (b2i_f (by omega))
  · refine wp_tsw 128 dX9_isSign_1 (by omega) (by omega) (127) (by rw [c1]; rfl) rfl ?_
    refine ic_1 dX9_isSign_128 ?_
    refine wp_iretz dX9_isSign_129 rfl (by omega) ?_
    first | exact qv hQ (b2i_t (by omega)) | exact qv hQ (b2i_f (by omega))
  · refine wp_tsw 128 dX9_isSign_1 (by omega) (by omega) (127) (by rw [c1]; rfl) rfl ?_
    refine ic_1 dX9_isSign_128 ?_
    refine wp_iretz dX9_isSign_129 rfl (by omega) ?_
    first | exact qv hQ (b2i_t (by omega)) | exact qv hQ (b2i_f (by omega))
  · refine wp_tsw 128 dX9_isSign_1 (by omega) (by omega) (127) (by rw [c1]; rfl) rfl ?_
    refine ic_1 dX9_isSign_128 ?_
    refine wp_iretz dX9_isSign_129 rfl (by omega) ?_
    first | exact qv hQ (b2i_t (by omega)) | exact qv hQ (b2i_f (by omega))
  · refine wp_tsw 128 dX9_isSign_1 (by omega) (by omega) (127) (by rw [c1]; rfl) rfl ?_
    refine ic_1 dX9_isSign_128 ?_
    refine wp_iretz dX9_isSign_129 rfl (by omega) ?_
    first | exact qv hQ (b2i_t (by omega)) | exact qv hQ (b2i_f (by omega))

theorem wX9_nextToken_0 {G : GT} {δ : Nat} {hl : Nat → Int → Int} {b : Bool × Bool} {Q : V → Hp → Prop} {a N : Int} {T : Int → Int} {h0 : Nat → Int → Int} (hδ : δ ≤ 1600) (hN : h0 336 4 = N) (hT : h0 340 = T) (B : BY T N) : ∀ (n : Nat) (x : Int) (h : Nat → Int → Int), ((N - x).toNat) < n → (0 ≤ x) → (x ≤ N) → (run spcB T N x = run spcB T N a) → (h 336 7 = x) → (eqTk h0 h) → (∀ h' : Nat → Int → Int, eqTk h0 h' → h' 336 7 = run spcB T N a → WP G δ 0 0 MX9_nextToken 39 [vr 336, vn] [] (HS h' hl b) Q) → WP G δ 0 0 MX9_nextToken 0 [vr (336), vn] [] (HS h hl b) Q := by
  intro n
  induction n with
  | zero => intro x h hlt; exact absurd hlt (Nat.not_lt_zero _)
  | succ n ih =>
    intro x h hlt x0 x1 r hx E hQ
    have B0 := B.1
    have B1 := B.2.1
    have B2 := B.2.2
    have hN1 : h 336 4 = N := by rw [E.2 4 (by decide) (by decide) (by decide) (by decide)]; exact hN
    have hT1 : h 340 = T := by rw [E.1 340 (by decide)]; exact hT
    
    refine al_0 dX9_nextToken_0 ?_
    refine al_0 dX9_nextToken_1 ?_
    refine g_X9_91 dX9_nextToken_2 rfl tt336 ?_
    rw [hx]
    refine c_X9_94 dX9_nextToken_5 rfl tt336 (Nat.le_of_ble_eq_true rfl) (by omega) ?_
    refine wX9_byteAt (N := N) (T := T) (by omega) (by omega) hN1 hT1 B ?_
    refine pv_i ?_
    refine bi_32 dX9_nextToken_8 ?_
    refine wp_icmp_eq 26 dX9_nextToken_10 rfl (fun c10 => ?_) (fun c10 => ?_)
    · refine al_0 dX9_nextToken_26 ?_
      refine wp_dup dX9_nextToken_27 rfl ?_
      refine g_X9_91 dX9_nextToken_28 rfl tt336 ?_
      rw [hx]
      refine ic_1 dX9_nextToken_31 ?_
      refine wp_iadd dX9_nextToken_32 (r32 (by omega) (by omega)) ?_
      refine p_X9_91 dX9_nextToken_33 rfl tt336 ?_
      refine wp_goto 0 dX9_nextToken_36 rfl ?_
      have bi : x < N := by
        by_cases q : x < N
        · exact q
        · exfalso
          have o := bA_o (T := T) (N := N) (p := x) (by omega)
          omega
      have bb := bA_i (T := T) (N := N) (p := x) bi
      exact ih (x + 1) _ (by omega) (by omega) (by omega) (by rw [← r, run_y (p := x) bi (spcB_i.mpr (by omega))]) up_s (E.up (by decide)) hQ
    · refine al_0 dX9_nextToken_13 ?_
      refine al_0 dX9_nextToken_14 ?_
      refine g_X9_91 dX9_nextToken_15 rfl tt336 ?_
      rw [hx]
      refine c_X9_94 dX9_nextToken_18 rfl tt336 (Nat.le_of_ble_eq_true rfl) (by omega) ?_
      refine wX9_byteAt (N := N) (T := T) (by omega) (by omega) hN1 hT1 B ?_
      refine pv_i ?_
      refine bi_10 dX9_nextToken_21 ?_
      refine wp_icmp_ne 39 dX9_nextToken_23 rfl (fun c23 => ?_) (fun c23 => ?_)
      · refine hQ h E ?_
        rw [hx, ← r]
        exact (run_n (by rw [spcB_i]; omega)).symm
      · refine al_0 dX9_nextToken_26 ?_
        refine wp_dup dX9_nextToken_27 rfl ?_
        refine g_X9_91 dX9_nextToken_28 rfl tt336 ?_
        rw [hx]
        refine ic_1 dX9_nextToken_31 ?_
        refine wp_iadd dX9_nextToken_32 (r32 (by omega) (by omega)) ?_
        refine p_X9_91 dX9_nextToken_33 rfl tt336 ?_
        refine wp_goto 0 dX9_nextToken_36 rfl ?_
        have bi : x < N := by
          by_cases q : x < N
          · exact q
          · exfalso
            have o := bA_o (T := T) (N := N) (p := x) (by omega)
            omega
        have bb := bA_i (T := T) (N := N) (p := x) bi
        exact ih (x + 1) _ (by omega) (by omega) (by omega) (by rw [← r, run_y (p := x) bi (spcB_i.mpr (by omega))]) up_s (E.up (by decide)) hQ

theorem wX9_nextToken_85 {G : GT} {δ : Nat} {hl : Nat → Int → Int} {b : Bool × Bool} {Q : V → Hp → Prop} {p c N : Int} {T : Int → Int} {h0 : Nat → Int → Int} (hδ : δ ≤ 1600) (p0 : 0 ≤ p) (hN : h0 336 4 = N) (hT : h0 340 = T) (B : BY T N) : ∀ (n : Nat) (k : Nat) (h : Nat → Int → Int), ((N - (p + k)).toNat) < n → (p + k ≤ N) → (∀ j : Nat, j < k → 48 ≤ T (p + j) ∧ T (p + j) ≤ 57) → (run figB T N (p + k) = run figB T N p) → (h 336 7 = p + k) → (h 336 10 = nvM T p k) → (eqX [336] h0 h ∧ ∀ k : Int, k ≠ 7 → k ≠ 10 → h 336 k = h0 336 k) → (∀ h' : Nat → Int → Int, eqX [336] h0 h' → (∀ k : Int, k ≠ 7 → k ≠ 10 → h' 336 k = h0 336 k) → h' 336 7 = run figB T N p → h' 336 10 = nvM T p (run figB T N p - p).toNat → Q vn (HS h' hl b)) → WP G δ 0 0 MX9_nextToken 85 [vr (336), vi c] [] (HS h hl b) Q := by
  intro n
  induction n with
  | zero => intro k h hlt; exact absurd hlt (Nat.not_lt_zero _)
  | succ n ih =>
    intro k h hlt k1 D r hx hv E hQ
    have B0 := B.1
    have B1 := B.2.1
    have B2 := B.2.2
    have hN1 : h 336 4 = N := by rw [E.2 4 (by decide) (by decide)]; exact hN
    have hT1 : h 340 = T := by rw [E.1 340 (by decide)]; exact hT
    have nv := (nv_S (T := T) (p := p) k D).1
    refine al_0 dX9_nextToken_85 ?_
    refine al_0 dX9_nextToken_86 ?_
    refine g_X9_91 dX9_nextToken_87 rfl tt336 ?_
    rw [hx]
    refine c_X9_94 dX9_nextToken_90 rfl tt336 (Nat.le_of_ble_eq_true rfl) (by omega) ?_
    refine wX9_byteAt (N := N) (T := T) (by omega) (by omega) hN1 hT1 B ?_
    refine pv_i ?_
    refine c_X9_103 dX9_nextToken_93 rfl (Nat.le_of_ble_eq_true rfl) (by omega) ?_
    refine wX9_isFigure (by omega) ?_
    refine pv_i ?_
    refine wp_if_eq 310 dX9_nextToken_96 rfl (fun c96 => ?_) (fun c96 => ?_)
    · rw [b2i_0] at c96
      refine wp_vret dX9_nextToken_310 rfl ?_
      have e : p + k = run figB T N p := by
        rw [← r]; exact (run_n (by rw [figB_i]; exact c96)).symm
      refine hQ h E.1 E.2 (by rw [hx]; exact e) ?_
      rw [hv, show (run figB T N p - p).toNat = k by omega]
    · rw [b2i_n0] at c96
      have bi : p + k < N := by
        by_cases q : p + k < N
        · exact q
        · exfalso
          have o := bA_o (T := T) (N := N) (p := p + k) (by omega)
          omega
      have bb := bA_i (T := T) (N := N) (p := p + k) bi
      refine al_0 dX9_nextToken_99 ?_
      refine al_0 dX9_nextToken_100 ?_
      refine g_X9_106 dX9_nextToken_101 rfl tt336 ?_
      rw [hv]
      refine wp_ldc (99999) dX9_nextToken_104 ⟨by decide, by decide⟩ cc_X9_109 ?_
      refine wp_icmp_le 116 dX9_nextToken_106 rfl (fun c106 => ?_) (fun c106 => ?_)
      · refine bi_10 dX9_nextToken_116 ?_
        refine al_0 dX9_nextToken_118 ?_
        refine g_X9_106 dX9_nextToken_119 rfl tt336 ?_
        rw [hv]
        refine wp_imul dX9_nextToken_122 (r32 (by omega) (by omega)) ?_
        refine al_0 dX9_nextToken_123 ?_
        refine al_0 dX9_nextToken_124 ?_
        refine g_X9_91 dX9_nextToken_125 rfl tt336 ?_
        rw [hx]
        refine c_X9_94 dX9_nextToken_128 rfl tt336 (Nat.le_of_ble_eq_true rfl) (by omega) ?_
        refine wX9_byteAt (N := N) (T := T) (by omega) (by omega) hN1 hT1 B ?_
        refine pv_i ?_
        refine wp_iadd dX9_nextToken_131 (r32 (by omega) (by omega)) ?_
        refine bi_48 dX9_nextToken_132 ?_
        refine wp_isub dX9_nextToken_134 (r32 (by omega) (by omega)) ?_
        refine p_X9_106 dX9_nextToken_135 rfl tt336 ?_
        refine al_0 dX9_nextToken_138 ?_
        refine wp_dup dX9_nextToken_139 rfl ?_
        refine g_X9_91 dX9_nextToken_140 rfl tt336 ?_
        rw [up_k (by decide), hx]
        refine ic_1 dX9_nextToken_143 ?_
        refine wp_iadd dX9_nextToken_144 (r32 (by omega) (by omega)) ?_
        refine p_X9_91 dX9_nextToken_145 rfl tt336 ?_
        refine wp_goto 85 dX9_nextToken_148 rfl ?_
        have nx : nvM T p (k + 1) = if 99999 < nvM T p k then nvM T p k else 10 * nvM T p k + T (p + k) - 48 := rfl
        refine ih (k + 1) _ (by omega) (by omega) (fun j hj => ?_) (by rw [← r, run_y (p := p + k) bi (figB_i.mpr (by omega))]; congr 1; omega) (by rw [up_s]; omega) ?_ ⟨(E.1.up (by decide)).up (by decide), fun j j7 j10 => by rw [up_k j7, up_k j10]; exact E.2 j j7 j10⟩ hQ
        · by_cases e : j = k
          · rw [e]; omega
          · exact D j (by omega)
        · rw [up_k (by decide), up_s, nx]
          first
            | rw [if_pos (by omega)]
            | (rw [if_neg (by omega)]; omega)
      · refine al_0 dX9_nextToken_109 ?_
        refine g_X9_106 dX9_nextToken_110 rfl tt336 ?_
        rw [hv]
        refine wp_goto 135 dX9_nextToken_113 rfl ?_
        refine p_X9_106 dX9_nextToken_135 rfl tt336 ?_
        refine al_0 dX9_nextToken_138 ?_
        refine wp_dup dX9_nextToken_139 rfl ?_
        refine g_X9_91 dX9_nextToken_140 rfl tt336 ?_
        rw [up_k (by decide), hx]
        refine ic_1 dX9_nextToken_143 ?_
        refine wp_iadd dX9_nextToken_144 (r32 (by omega) (by omega)) ?_
        refine p_X9_91 dX9_nextToken_145 rfl tt336 ?_
        refine wp_goto 85 dX9_nextToken_148 rfl ?_
        have nx : nvM T p (k + 1) = if 99999 < nvM T p k then nvM T p k else 10 * nvM T p k + T (p + k) - 48 := rfl
        refine ih (k + 1) _ (by omega) (by omega) (fun j hj => ?_) (by rw [← r, run_y (p := p + k) bi (figB_i.mpr (by omega))]; congr 1; omega) (by rw [up_s]; omega) ?_ ⟨(E.1.up (by decide)).up (by decide), fun j j7 j10 => by rw [up_k j7, up_k j10]; exact E.2 j j7 j10⟩ hQ
        · by_cases e : j = k
          · rw [e]; omega
          · exact D j (by omega)
        · rw [up_k (by decide), up_s, nx]
          first
            | rw [if_pos (by omega)]
            | (rw [if_neg (by omega)]; omega)

theorem wX9_nextToken_168 {G : GT} {δ : Nat} {b : Bool × Bool} {Q : V → Hp → Prop} {p c N : Int} {T : Int → Int} {h0 : Nat → Int → Int} (hδ : δ ≤ 1600) (p0 : 0 ≤ p) (hN : h0 336 4 = N) (hT : h0 340 = T) (B : BY T N) : ∀ (n : Nat) (k : Nat) (h : Nat → Int → Int) (hl : Nat → Int → Int), ((N - (p + k)).toNat) < n → (p + k ≤ N) → (∀ j : Nat, j < k → 65 ≤ T (p + j) ∧ T (p + j) ≤ 122) → (run ltrB T N (p + k) = run ltrB T N p) → (h 336 7 = p + k) → (hl 336 11 = mwF T p k) → (eqX [336] h0 h ∧ ∀ k : Int, k ≠ 7 → h 336 k = h0 336 k) → (∀ h' hl' : Nat → Int → Int, eqX [336] h0 h' → (∀ k : Int, k ≠ 7 → h' 336 k = h0 336 k) → h' 336 7 = run ltrB T N p → hl' 336 11 = mwF T p (run ltrB T N p - p) → Q vn (HS h' hl' b)) → WP G δ 0 0 MX9_nextToken 168 [vr (336), vi c] [] (HS h hl b) Q := by
  intro n
  induction n with
  | zero => intro k h hl hlt; exact absurd hlt (Nat.not_lt_zero _)
  | succ n ih =>
    intro k h hl hlt k1 D r hx hv E hQ
    have B0 := B.1
    have B1 := B.2.1
    have B2 := B.2.2
    have hN1 : h 336 4 = N := by rw [E.2 4 (by decide)]; exact hN
    have hT1 : h 340 = T := by rw [E.1 340 (by decide)]; exact hT
    obtain ⟨w0, w1, w2⟩ : 0 ≤ mwF T p k ∧ mwF T p k < 9223372036854775808 ∧ (mwF T p k / 281474976710656 = 0 ↔ k ≤ 6) := by
      obtain ⟨q1, q2, q3, q4⟩ := pk_R (T := T) (p := p) k D
      unfold mwF
      by_cases q : (k : Int) ≤ 7
      · rw [if_pos q, show ((k : Int)).toNat = k by omega]
        have := q4 (by omega)
        refine ⟨q1, by omega, ?_⟩
        by_cases q6 : k ≤ 6
        · have := q2 q6
          exact ⟨fun _ => q6, fun _ => by omega⟩
        · have := q3 (by omega)
          exact ⟨fun z => by omega, fun z => absurd z q6⟩
      · rw [if_neg q]
        exact ⟨by decide, by decide, ⟨fun z => absurd z (by decide), fun z => by omega⟩⟩
    refine al_0 dX9_nextToken_168 ?_
    refine al_0 dX9_nextToken_169 ?_
    refine g_X9_91 dX9_nextToken_170 rfl tt336 ?_
    rw [hx]
    refine c_X9_94 dX9_nextToken_173 rfl tt336 (Nat.le_of_ble_eq_true rfl) (by omega) ?_
    refine wX9_byteAt (N := N) (T := T) (by omega) (by omega) hN1 hT1 B ?_
    refine pv_i ?_
    refine c_X9_110 dX9_nextToken_176 rfl (Nat.le_of_ble_eq_true rfl) (by omega) ?_
    refine wX9_isLetterByte (by omega) ?_
    refine pv_i ?_
    refine wp_if_eq 310 dX9_nextToken_179 rfl (fun c179 => ?_) (fun c179 => ?_)
    · rw [b2i_0] at c179
      refine wp_vret dX9_nextToken_310 rfl ?_
      have e : p + k = run ltrB T N p := by
        rw [← r]; exact (run_n (by rw [ltrB_i]; exact c179)).symm
      refine hQ h hl E.1 E.2 (by rw [hx]; exact e) ?_
      rw [hv, show run ltrB T N p - p = k by omega]
    · rw [b2i_n0] at c179
      have bi : p + k < N := by
        by_cases q : p + k < N
        · exact q
        · exfalso
          have o := bA_o (T := T) (N := N) (p := p + k) (by omega)
          omega
      have bb := bA_i (T := T) (N := N) (p := p + k) bi
      refine al_0 dX9_nextToken_182 ?_
      refine al_0 dX9_nextToken_183 ?_
      refine g_X9_113 dX9_nextToken_184 rfl tt336 ?_
      rw [hv]
      refine bi_48 dX9_nextToken_187 ?_
      refine wp_lshr dX9_nextToken_189 ?_
      rw [lshr48 w0 w1]
      refine lc_0 dX9_nextToken_190 ?_
      refine wp_lcmp dX9_nextToken_191 ?_
      refine wp_if_eq 201 dX9_nextToken_192 rfl (fun c192 => ?_) (fun c192 => ?_)
      · rw [lcmp_z] at c192
        refine al_0 dX9_nextToken_201 ?_
        refine g_X9_113 dX9_nextToken_202 rfl tt336 ?_
        rw [hv]
        refine bi_8 dX9_nextToken_205 ?_
        have k6 := w2.mp (by omega)
        obtain ⟨q1, q2, q3, q4⟩ := pk_R (T := T) (p := p) k D
        have mk : mwF T p k = pkF T p k := by unfold mwF; rw [if_pos (by omega), show ((k : Int)).toNat = k by omega]
        have q5 := q2 k6
        refine wp_lshl dX9_nextToken_207 ?_
        rw [lshl8 w0 (by omega)]
        refine al_0 dX9_nextToken_208 ?_
        refine al_0 dX9_nextToken_209 ?_
        refine g_X9_91 dX9_nextToken_210 rfl tt336 ?_
        rw [hx]
        refine c_X9_94 dX9_nextToken_213 rfl tt336 (Nat.le_of_ble_eq_true rfl) (by omega) ?_
        refine wX9_byteAt (N := N) (T := T) (by omega) (by omega) hN1 hT1 B ?_
        refine pv_i ?_
        refine wp_i2l dX9_nextToken_216 ?_
        refine wp_lor dX9_nextToken_217 ?_
        rw [bb, lbor8 w0 (by omega) (by have := B2 (p + k) (by omega) bi; omega) (by have := B2 (p + k) (by omega) bi; omega)]
        refine p_X9_113 dX9_nextToken_218 rfl tt336 ?_
        refine al_0 dX9_nextToken_221 ?_
        refine wp_dup dX9_nextToken_222 rfl ?_
        refine g_X9_91 dX9_nextToken_223 rfl tt336 ?_
        rw [hx]
        refine ic_1 dX9_nextToken_226 ?_
        refine wp_iadd dX9_nextToken_227 (r32 (by omega) (by omega)) ?_
        refine p_X9_91 dX9_nextToken_228 rfl tt336 ?_
        refine wp_goto 168 dX9_nextToken_231 rfl ?_
        refine ih (k + 1) _ _ (by omega) (by omega) (fun j hj => ?_) (by rw [← r, run_y (p := p + k) bi (ltrB_i.mpr (by omega))]; congr 1; omega) (by rw [up_s]; omega) ?_ ⟨E.1.up (by decide), fun j j7 => by rw [up_k j7]; exact E.2 j j7⟩ hQ
        · by_cases e : j = k
          · rw [e]; omega
          · exact D j (by omega)
        · rw [up_s]
          first
            | (have k7 : ¬ k ≤ 6 := fun z => c192 (w2.mpr z)
               unfold mwF
               rw [if_neg (by omega)])
            | (rw [mk]
               unfold mwF
               rw [if_pos (by omega), show (((k + 1 : Nat) : Int)).toNat = k + 1 by omega]
               rfl)
      · rw [lcmp_z] at c192
        refine wp_ldc2 (1152921504606846976) dX9_nextToken_195 ⟨by decide, by decide⟩ cc_X9_117 ?_
        refine wp_goto 218 dX9_nextToken_198 rfl ?_
        refine p_X9_113 dX9_nextToken_218 rfl tt336 ?_
        refine al_0 dX9_nextToken_221 ?_
        refine wp_dup dX9_nextToken_222 rfl ?_
        refine g_X9_91 dX9_nextToken_223 rfl tt336 ?_
        rw [hx]
        refine ic_1 dX9_nextToken_226 ?_
        refine wp_iadd dX9_nextToken_227 (r32 (by omega) (by omega)) ?_
        refine p_X9_91 dX9_nextToken_228 rfl tt336 ?_
        refine wp_goto 168 dX9_nextToken_231 rfl ?_
        refine ih (k + 1) _ _ (by omega) (by omega) (fun j hj => ?_) (by rw [← r, run_y (p := p + k) bi (ltrB_i.mpr (by omega))]; congr 1; omega) (by rw [up_s]; omega) ?_ ⟨E.1.up (by decide), fun j j7 => by rw [up_k j7]; exact E.2 j j7⟩ hQ
        · by_cases e : j = k
          · rw [e]; omega
          · exact D j (by omega)
        · rw [up_s]
          first
            | (have k7 : ¬ k ≤ 6 := fun z => c192 (w2.mpr z)
               unfold mwF
               rw [if_neg (by omega)])
            | (rw [mk]
               unfold mwF
               rw [if_pos (by omega), show (((k + 1 : Nat) : Int)).toNat = k + 1 by omega]
               rfl)

theorem up_o' {h : Nat → Int → Int} {o q : Nat} {k x : Int} (e : q ≠ o) : up h o k x q = h q := by funext j; exact up_o e

theorem wX9_nextToken {G : GT} {δ : Nat} {h hl : Nat → Int → Int} {b : Bool × Bool} {Q : V → Hp → Prop} {a N : Int} {T : Int → Int} (hδ : δ ≤ 1600) (a0 : 0 ≤ a) (a1 : a ≤ N) (ha : h 336 7 = a) (hN : h 336 4 = N) (hT : h 340 = T) (B : BY T N) (hQ : ∀ h' hl' : Nat → Int → Int, eqTk h h' → h' 336 7 = (tkF T N (run spcB T N a)).2.2 → h' 336 8 = run spcB T N a → TokF T N (run spcB T N a) (h' 336 9) (h' 336 10) (hl' 336 11) → Q vn (HS h' hl' b)) : WP G δ 0 0 MX9_nextToken 0 [vr 336, vn] [] (HS h hl b) Q := by
  have B0 := B.1
  have B1 := B.2.1
  have B2 := B.2.2
  refine wX9_nextToken_0 (h0 := h) (a := a) (by omega) hN hT B _ a h (Nat.lt_succ_self _) a0 a1 rfl ha eqTk.rf (fun h1 E1 x1 => ?_)
  have hN1 : h1 336 4 = N := by rw [E1.2 4 (by decide) (by decide) (by decide) (by decide)]; exact hN
  have hT1 : h1 340 = T := by rw [E1.1 340 (by decide)]; exact hT
  have rs := runS (f := spcB) (T := T) (N := N) (p := a) spcB_o a1
  obtain ⟨p, hp⟩ : ∃ p, p = run spcB T N a := ⟨_, rfl⟩
  rw [← hp] at x1 rs hQ
  refine al_0 dX9_nextToken_39 ?_
  refine al_0 dX9_nextToken_40 ?_
  refine g_X9_91 dX9_nextToken_41 rfl tt336 ?_
  rw [x1]
  refine p_X9_97 dX9_nextToken_44 rfl tt336 ?_
  refine al_0 dX9_nextToken_47 ?_
  refine al_0 dX9_nextToken_48 ?_
  refine g_X9_91 dX9_nextToken_49 rfl tt336 ?_
  rw [up_k (by decide), x1]
  refine c_X9_94 dX9_nextToken_52 rfl tt336 (Nat.le_of_ble_eq_true rfl) (by omega) ?_
  refine wX9_byteAt (N := N) (T := T) (by omega) (by omega) (by rw [up_k (by decide)]; exact hN1) (by rw [up_o' (by decide)]; exact hT1) B ?_
  refine pv_i ?_
  
  refine is_1 dX9_nextToken_55 rfl (by decide) ?_
  refine il_1 dX9_nextToken_56 ?_
  refine wp_if_ge 68 dX9_nextToken_57 rfl (fun c57 => ?_) (fun c57 => ?_)
  · have pn : p < N := by
      by_cases q : p < N
      · exact q
      · exfalso
        have o := bA_o (T := T) (N := N) (p := p) (by omega)
        omega
    have bb := bA_i (T := T) (N := N) (p := p) pn
    rw [bb]
    refine il_1 dX9_nextToken_68 ?_
    refine c_X9_103 dX9_nextToken_69 rfl (Nat.le_of_ble_eq_true rfl) (by omega) ?_
    refine wX9_isFigure (by omega) ?_
    refine pv_i ?_
    refine wp_if_eq 151 dX9_nextToken_72 rfl (fun c72 => ?_) (fun c72 => ?_)
    · rw [b2i_0] at c72
      refine il_1 dX9_nextToken_151 ?_
      refine c_X9_110 dX9_nextToken_152 rfl (Nat.le_of_ble_eq_true rfl) (by omega) ?_
      have nf : ¬ figB (T p) = true := by rw [figB_i]; omega
      refine wX9_isLetterByte (by omega) ?_
      refine pv_i ?_
      refine wp_if_eq 234 dX9_nextToken_155 rfl (fun c155 => ?_) (fun c155 => ?_)
      · rw [b2i_0] at c155
        refine al_0 dX9_nextToken_234 ?_
        refine il_1 dX9_nextToken_235 ?_
        refine c_X9_119 dX9_nextToken_236 rfl (Nat.le_of_ble_eq_true rfl) (by omega) ?_
        refine wX9_isSign (by omega) ?_
        refine pv_i ?_
        refine wp_if_eq 246 dX9_nextToken_239 rfl (fun c239 => ?_) (fun c239 => ?_)
        · rw [b2i_0] at c239
          refine ic_3 dX9_nextToken_246 ?_
          refine p_X9_100 dX9_nextToken_247 rfl tt336 ?_
          refine al_0 dX9_nextToken_250 ?_
          refine wp_dup dX9_nextToken_251 rfl ?_
          refine g_X9_91 dX9_nextToken_252 rfl tt336 ?_
          rw [up_k (by decide), up_k (by decide), x1]
          refine ic_1 dX9_nextToken_255 ?_
          refine wp_iadd dX9_nextToken_256 (r32 (by omega) (by omega)) ?_
          refine p_X9_91 dX9_nextToken_257 rfl tt336 ?_
          refine il_1 dX9_nextToken_260 ?_
          refine bi_60 dX9_nextToken_261 ?_
          refine wp_icmp_eq 272 dX9_nextToken_263 rfl (fun c263 => ?_) (fun c263 => ?_)
          · refine al_0 dX9_nextToken_272 ?_
            refine al_0 dX9_nextToken_273 ?_
            refine g_X9_91 dX9_nextToken_274 rfl tt336 ?_
            rw [up_s]
            refine c_X9_94 dX9_nextToken_277 rfl tt336 (Nat.le_of_ble_eq_true rfl) (by omega) ?_
            refine wX9_byteAt (N := N) (T := T) (by omega) (by omega) (by rw [up_k (by decide), up_k (by decide), up_k (by decide)]; exact hN1) (by rw [up_o' (by decide), up_o' (by decide), up_o' (by decide)]; exact hT1) B ?_
            refine pv_i ?_
            refine bi_61 dX9_nextToken_280 ?_
            refine wp_icmp_ne 310 dX9_nextToken_282 rfl (fun c282 => ?_) (fun c282 => ?_)
            · refine wp_vret dX9_nextToken_310 rfl ?_
              first
                | (exfalso; omega)
                | (refine hQ _ hl (E1.tr ((eqTk.rf.up (by decide)).up (by decide))) ?_ (by rw [up_k (by decide), up_s]) ?_
                   · rw [up_k (by decide), up_k (by decide), x1]; unfold tkF; rw [if_pos (by omega)]
                   · rw [up_s]; exact TokF.end_ (by omega))
                | (have g : ¬ figB (T p) = true := by rw [figB_i]; omega
                   have l : ¬ ltrB (T p) = true := by rw [ltrB_i]; omega
                   have q : (T p = 60 ∨ T p = 62) ∧ bA T N (p + 1) = 61 := ⟨by omega, by omega⟩
                   refine hQ _ hl (E1.tr (((((eqTk.rf.up (by decide)).up (by decide)).up (by decide)).up (by decide)).up (by decide))) ?_ (by rw [up_k (by decide), up_k (by decide), up_k (by decide), up_k (by decide), up_s]) ?_
                   · rw [up_s]; unfold tkF; rw [if_neg (by omega), if_neg l, if_neg g, if_pos q]; show p + 1 + 1 = p + 2; omega
                   · refine TokF.sgn_ (by omega) l g ?_
                     rw [up_k (by decide), up_s, if_pos q]
                     first | rw [if_pos (by omega)] | rw [if_neg (by omega)])
                | (have g : ¬ figB (T p) = true := by rw [figB_i]; omega
                   have l : ¬ ltrB (T p) = true := by rw [ltrB_i]; omega
                   have q : ¬ ((T p = 60 ∨ T p = 62) ∧ bA T N (p + 1) = 61) := by omega
                   refine hQ _ hl (E1.tr (((eqTk.rf.up (by decide)).up (by decide)).up (by decide))) ?_ (by rw [up_k (by decide), up_k (by decide), up_s]) ?_
                   · rw [up_s]; unfold tkF; rw [if_neg (by omega), if_neg l, if_neg g, if_neg q]
                   · refine TokF.sgn_ (by omega) l g ?_
                     rw [up_k (by decide), up_s, if_neg q]
                     first | rw [if_pos (by omega)] | rw [if_neg (by omega)])
            · refine al_0 dX9_nextToken_285 ?_
              refine il_1 dX9_nextToken_286 ?_
              refine bi_60 dX9_nextToken_287 ?_
              refine wp_icmp_ne 296 dX9_nextToken_289 rfl (fun c289 => ?_) (fun c289 => ?_)
              · refine ic_5 dX9_nextToken_296 ?_
                refine p_X9_100 dX9_nextToken_297 rfl tt336 ?_
                refine al_0 dX9_nextToken_300 ?_
                refine wp_dup dX9_nextToken_301 rfl ?_
                refine g_X9_91 dX9_nextToken_302 rfl tt336 ?_
                rw [up_k (by decide), up_s]
                refine ic_1 dX9_nextToken_305 ?_
                refine wp_iadd dX9_nextToken_306 (r32 (by omega) (by omega)) ?_
                refine p_X9_91 dX9_nextToken_307 rfl tt336 ?_
                refine wp_vret dX9_nextToken_310 rfl ?_
                first
                  | (exfalso; omega)
                  | (refine hQ _ hl (E1.tr ((eqTk.rf.up (by decide)).up (by decide))) ?_ (by rw [up_k (by decide), up_s]) ?_
                     · rw [up_k (by decide), up_k (by decide), x1]; unfold tkF; rw [if_pos (by omega)]
                     · rw [up_s]; exact TokF.end_ (by omega))
                  | (have g : ¬ figB (T p) = true := by rw [figB_i]; omega
                     have l : ¬ ltrB (T p) = true := by rw [ltrB_i]; omega
                     have q : (T p = 60 ∨ T p = 62) ∧ bA T N (p + 1) = 61 := ⟨by omega, by omega⟩
                     refine hQ _ hl (E1.tr (((((eqTk.rf.up (by decide)).up (by decide)).up (by decide)).up (by decide)).up (by decide))) ?_ (by rw [up_k (by decide), up_k (by decide), up_k (by decide), up_k (by decide), up_s]) ?_
                     · rw [up_s]; unfold tkF; rw [if_neg (by omega), if_neg l, if_neg g, if_pos q]; show p + 1 + 1 = p + 2; omega
                     · refine TokF.sgn_ (by omega) l g ?_
                       rw [up_k (by decide), up_s, if_pos q]
                       first | rw [if_pos (by omega)] | rw [if_neg (by omega)])
                  | (have g : ¬ figB (T p) = true := by rw [figB_i]; omega
                     have l : ¬ ltrB (T p) = true := by rw [ltrB_i]; omega
                     have q : ¬ ((T p = 60 ∨ T p = 62) ∧ bA T N (p + 1) = 61) := by omega
                     refine hQ _ hl (E1.tr (((eqTk.rf.up (by decide)).up (by decide)).up (by decide))) ?_ (by rw [up_k (by decide), up_k (by decide), up_s]) ?_
                     · rw [up_s]; unfold tkF; rw [if_neg (by omega), if_neg l, if_neg g, if_neg q]
                     · refine TokF.sgn_ (by omega) l g ?_
                       rw [up_k (by decide), up_s, if_neg q]
                       first | rw [if_pos (by omega)] | rw [if_neg (by omega)])
              · refine ic_4 dX9_nextToken_292 ?_
                refine wp_goto 297 dX9_nextToken_293 rfl ?_
                refine p_X9_100 dX9_nextToken_297 rfl tt336 ?_
                refine al_0 dX9_nextToken_300 ?_
                refine wp_dup dX9_nextToken_301 rfl ?_
                refine g_X9_91 dX9_nextToken_302 rfl tt336 ?_
                rw [up_k (by decide), up_s]
                refine ic_1 dX9_nextToken_305 ?_
                refine wp_iadd dX9_nextToken_306 (r32 (by omega) (by omega)) ?_
                refine p_X9_91 dX9_nextToken_307 rfl tt336 ?_
                refine wp_vret dX9_nextToken_310 rfl ?_
                first
                  | (exfalso; omega)
                  | (refine hQ _ hl (E1.tr ((eqTk.rf.up (by decide)).up (by decide))) ?_ (by rw [up_k (by decide), up_s]) ?_
                     · rw [up_k (by decide), up_k (by decide), x1]; unfold tkF; rw [if_pos (by omega)]
                     · rw [up_s]; exact TokF.end_ (by omega))
                  | (have g : ¬ figB (T p) = true := by rw [figB_i]; omega
                     have l : ¬ ltrB (T p) = true := by rw [ltrB_i]; omega
                     have q : (T p = 60 ∨ T p = 62) ∧ bA T N (p + 1) = 61 := ⟨by omega, by omega⟩
                     refine hQ _ hl (E1.tr (((((eqTk.rf.up (by decide)).up (by decide)).up (by decide)).up (by decide)).up (by decide))) ?_ (by rw [up_k (by decide), up_k (by decide), up_k (by decide), up_k (by decide), up_s]) ?_
                     · rw [up_s]; unfold tkF; rw [if_neg (by omega), if_neg l, if_neg g, if_pos q]; show p + 1 + 1 = p + 2; omega
                     · refine TokF.sgn_ (by omega) l g ?_
                       rw [up_k (by decide), up_s, if_pos q]
                       first | rw [if_pos (by omega)] | rw [if_neg (by omega)])
                  | (have g : ¬ figB (T p) = true := by rw [figB_i]; omega
                     have l : ¬ ltrB (T p) = true := by rw [ltrB_i]; omega
                     have q : ¬ ((T p = 60 ∨ T p = 62) ∧ bA T N (p + 1) = 61) := by omega
                     refine hQ _ hl (E1.tr (((eqTk.rf.up (by decide)).up (by decide)).up (by decide))) ?_ (by rw [up_k (by decide), up_k (by decide), up_s]) ?_
                     · rw [up_s]; unfold tkF; rw [if_neg (by omega), if_neg l, if_neg g, if_neg q]
                     · refine TokF.sgn_ (by omega) l g ?_
                       rw [up_k (by decide), up_s, if_neg q]
                       first | rw [if_pos (by omega)] | rw [if_neg (by omega)])
          · refine il_1 dX9_nextToken_266 ?_
            refine bi_62 dX9_nextToken_267 ?_
            refine wp_icmp_ne 310 dX9_nextToken_269 rfl (fun c269 => ?_) (fun c269 => ?_)
            · refine wp_vret dX9_nextToken_310 rfl ?_
              first
                | (exfalso; omega)
                | (refine hQ _ hl (E1.tr ((eqTk.rf.up (by decide)).up (by decide))) ?_ (by rw [up_k (by decide), up_s]) ?_
                   · rw [up_k (by decide), up_k (by decide), x1]; unfold tkF; rw [if_pos (by omega)]
                   · rw [up_s]; exact TokF.end_ (by omega))
                | (have g : ¬ figB (T p) = true := by rw [figB_i]; omega
                   have l : ¬ ltrB (T p) = true := by rw [ltrB_i]; omega
                   have q : (T p = 60 ∨ T p = 62) ∧ bA T N (p + 1) = 61 := ⟨by omega, by omega⟩
                   refine hQ _ hl (E1.tr (((((eqTk.rf.up (by decide)).up (by decide)).up (by decide)).up (by decide)).up (by decide))) ?_ (by rw [up_k (by decide), up_k (by decide), up_k (by decide), up_k (by decide), up_s]) ?_
                   · rw [up_s]; unfold tkF; rw [if_neg (by omega), if_neg l, if_neg g, if_pos q]; show p + 1 + 1 = p + 2; omega
                   · refine TokF.sgn_ (by omega) l g ?_
                     rw [up_k (by decide), up_s, if_pos q]
                     first | rw [if_pos (by omega)] | rw [if_neg (by omega)])
                | (have g : ¬ figB (T p) = true := by rw [figB_i]; omega
                   have l : ¬ ltrB (T p) = true := by rw [ltrB_i]; omega
                   have q : ¬ ((T p = 60 ∨ T p = 62) ∧ bA T N (p + 1) = 61) := by omega
                   refine hQ _ hl (E1.tr (((eqTk.rf.up (by decide)).up (by decide)).up (by decide))) ?_ (by rw [up_k (by decide), up_k (by decide), up_s]) ?_
                   · rw [up_s]; unfold tkF; rw [if_neg (by omega), if_neg l, if_neg g, if_neg q]
                   · refine TokF.sgn_ (by omega) l g ?_
                     rw [up_k (by decide), up_s, if_neg q]
                     first | rw [if_pos (by omega)] | rw [if_neg (by omega)])
            · refine al_0 dX9_nextToken_272 ?_
              refine al_0 dX9_nextToken_273 ?_
              refine g_X9_91 dX9_nextToken_274 rfl tt336 ?_
              rw [up_s]
              refine c_X9_94 dX9_nextToken_277 rfl tt336 (Nat.le_of_ble_eq_true rfl) (by omega) ?_
              refine wX9_byteAt (N := N) (T := T) (by omega) (by omega) (by rw [up_k (by decide), up_k (by decide), up_k (by decide)]; exact hN1) (by rw [up_o' (by decide), up_o' (by decide), up_o' (by decide)]; exact hT1) B ?_
              refine pv_i ?_
              refine bi_61 dX9_nextToken_280 ?_
              refine wp_icmp_ne 310 dX9_nextToken_282 rfl (fun c282 => ?_) (fun c282 => ?_)
              · refine wp_vret dX9_nextToken_310 rfl ?_
                first
                  | (exfalso; omega)
                  | (refine hQ _ hl (E1.tr ((eqTk.rf.up (by decide)).up (by decide))) ?_ (by rw [up_k (by decide), up_s]) ?_
                     · rw [up_k (by decide), up_k (by decide), x1]; unfold tkF; rw [if_pos (by omega)]
                     · rw [up_s]; exact TokF.end_ (by omega))
                  | (have g : ¬ figB (T p) = true := by rw [figB_i]; omega
                     have l : ¬ ltrB (T p) = true := by rw [ltrB_i]; omega
                     have q : (T p = 60 ∨ T p = 62) ∧ bA T N (p + 1) = 61 := ⟨by omega, by omega⟩
                     refine hQ _ hl (E1.tr (((((eqTk.rf.up (by decide)).up (by decide)).up (by decide)).up (by decide)).up (by decide))) ?_ (by rw [up_k (by decide), up_k (by decide), up_k (by decide), up_k (by decide), up_s]) ?_
                     · rw [up_s]; unfold tkF; rw [if_neg (by omega), if_neg l, if_neg g, if_pos q]; show p + 1 + 1 = p + 2; omega
                     · refine TokF.sgn_ (by omega) l g ?_
                       rw [up_k (by decide), up_s, if_pos q]
                       first | rw [if_pos (by omega)] | rw [if_neg (by omega)])
                  | (have g : ¬ figB (T p) = true := by rw [figB_i]; omega
                     have l : ¬ ltrB (T p) = true := by rw [ltrB_i]; omega
                     have q : ¬ ((T p = 60 ∨ T p = 62) ∧ bA T N (p + 1) = 61) := by omega
                     refine hQ _ hl (E1.tr (((eqTk.rf.up (by decide)).up (by decide)).up (by decide))) ?_ (by rw [up_k (by decide), up_k (by decide), up_s]) ?_
                     · rw [up_s]; unfold tkF; rw [if_neg (by omega), if_neg l, if_neg g, if_neg q]
                     · refine TokF.sgn_ (by omega) l g ?_
                       rw [up_k (by decide), up_s, if_neg q]
                       first | rw [if_pos (by omega)] | rw [if_neg (by omega)])
              · refine al_0 dX9_nextToken_285 ?_
                refine il_1 dX9_nextToken_286 ?_
                refine bi_60 dX9_nextToken_287 ?_
                refine wp_icmp_ne 296 dX9_nextToken_289 rfl (fun c289 => ?_) (fun c289 => ?_)
                · refine ic_5 dX9_nextToken_296 ?_
                  refine p_X9_100 dX9_nextToken_297 rfl tt336 ?_
                  refine al_0 dX9_nextToken_300 ?_
                  refine wp_dup dX9_nextToken_301 rfl ?_
                  refine g_X9_91 dX9_nextToken_302 rfl tt336 ?_
                  rw [up_k (by decide), up_s]
                  refine ic_1 dX9_nextToken_305 ?_
                  refine wp_iadd dX9_nextToken_306 (r32 (by omega) (by omega)) ?_
                  refine p_X9_91 dX9_nextToken_307 rfl tt336 ?_
                  refine wp_vret dX9_nextToken_310 rfl ?_
                  first
                    | (exfalso; omega)
                    | (refine hQ _ hl (E1.tr ((eqTk.rf.up (by decide)).up (by decide))) ?_ (by rw [up_k (by decide), up_s]) ?_
                       · rw [up_k (by decide), up_k (by decide), x1]; unfold tkF; rw [if_pos (by omega)]
                       · rw [up_s]; exact TokF.end_ (by omega))
                    | (have g : ¬ figB (T p) = true := by rw [figB_i]; omega
                       have l : ¬ ltrB (T p) = true := by rw [ltrB_i]; omega
                       have q : (T p = 60 ∨ T p = 62) ∧ bA T N (p + 1) = 61 := ⟨by omega, by omega⟩
                       refine hQ _ hl (E1.tr (((((eqTk.rf.up (by decide)).up (by decide)).up (by decide)).up (by decide)).up (by decide))) ?_ (by rw [up_k (by decide), up_k (by decide), up_k (by decide), up_k (by decide), up_s]) ?_
                       · rw [up_s]; unfold tkF; rw [if_neg (by omega), if_neg l, if_neg g, if_pos q]; show p + 1 + 1 = p + 2; omega
                       · refine TokF.sgn_ (by omega) l g ?_
                         rw [up_k (by decide), up_s, if_pos q]
                         first | rw [if_pos (by omega)] | rw [if_neg (by omega)])
                    | (have g : ¬ figB (T p) = true := by rw [figB_i]; omega
                       have l : ¬ ltrB (T p) = true := by rw [ltrB_i]; omega
                       have q : ¬ ((T p = 60 ∨ T p = 62) ∧ bA T N (p + 1) = 61) := by omega
                       refine hQ _ hl (E1.tr (((eqTk.rf.up (by decide)).up (by decide)).up (by decide))) ?_ (by rw [up_k (by decide), up_k (by decide), up_s]) ?_
                       · rw [up_s]; unfold tkF; rw [if_neg (by omega), if_neg l, if_neg g, if_neg q]
                       · refine TokF.sgn_ (by omega) l g ?_
                         rw [up_k (by decide), up_s, if_neg q]
                         first | rw [if_pos (by omega)] | rw [if_neg (by omega)])
                · refine ic_4 dX9_nextToken_292 ?_
                  refine wp_goto 297 dX9_nextToken_293 rfl ?_
                  refine p_X9_100 dX9_nextToken_297 rfl tt336 ?_
                  refine al_0 dX9_nextToken_300 ?_
                  refine wp_dup dX9_nextToken_301 rfl ?_
                  refine g_X9_91 dX9_nextToken_302 rfl tt336 ?_
                  rw [up_k (by decide), up_s]
                  refine ic_1 dX9_nextToken_305 ?_
                  refine wp_iadd dX9_nextToken_306 (r32 (by omega) (by omega)) ?_
                  refine p_X9_91 dX9_nextToken_307 rfl tt336 ?_
                  refine wp_vret dX9_nextToken_310 rfl ?_
                  first
                    | (exfalso; omega)
                    | (refine hQ _ hl (E1.tr ((eqTk.rf.up (by decide)).up (by decide))) ?_ (by rw [up_k (by decide), up_s]) ?_
                       · rw [up_k (by decide), up_k (by decide), x1]; unfold tkF; rw [if_pos (by omega)]
                       · rw [up_s]; exact TokF.end_ (by omega))
                    | (have g : ¬ figB (T p) = true := by rw [figB_i]; omega
                       have l : ¬ ltrB (T p) = true := by rw [ltrB_i]; omega
                       have q : (T p = 60 ∨ T p = 62) ∧ bA T N (p + 1) = 61 := ⟨by omega, by omega⟩
                       refine hQ _ hl (E1.tr (((((eqTk.rf.up (by decide)).up (by decide)).up (by decide)).up (by decide)).up (by decide))) ?_ (by rw [up_k (by decide), up_k (by decide), up_k (by decide), up_k (by decide), up_s]) ?_
                       · rw [up_s]; unfold tkF; rw [if_neg (by omega), if_neg l, if_neg g, if_pos q]; show p + 1 + 1 = p + 2; omega
                       · refine TokF.sgn_ (by omega) l g ?_
                         rw [up_k (by decide), up_s, if_pos q]
                         first | rw [if_pos (by omega)] | rw [if_neg (by omega)])
                    | (have g : ¬ figB (T p) = true := by rw [figB_i]; omega
                       have l : ¬ ltrB (T p) = true := by rw [ltrB_i]; omega
                       have q : ¬ ((T p = 60 ∨ T p = 62) ∧ bA T N (p + 1) = 61) := by omega
                       refine hQ _ hl (E1.tr (((eqTk.rf.up (by decide)).up (by decide)).up (by decide))) ?_ (by rw [up_k (by decide), up_k (by decide), up_s]) ?_
                       · rw [up_s]; unfold tkF; rw [if_neg (by omega), if_neg l, if_neg g, if_neg q]
                       · refine TokF.sgn_ (by omega) l g ?_
                         rw [up_k (by decide), up_s, if_neg q]
                         first | rw [if_pos (by omega)] | rw [if_neg (by omega)])
        · rw [b2i_n0] at c239
          refine il_1 dX9_nextToken_242 ?_
          refine wp_goto 247 dX9_nextToken_243 rfl ?_
          refine p_X9_100 dX9_nextToken_247 rfl tt336 ?_
          refine al_0 dX9_nextToken_250 ?_
          refine wp_dup dX9_nextToken_251 rfl ?_
          refine g_X9_91 dX9_nextToken_252 rfl tt336 ?_
          rw [up_k (by decide), up_k (by decide), x1]
          refine ic_1 dX9_nextToken_255 ?_
          refine wp_iadd dX9_nextToken_256 (r32 (by omega) (by omega)) ?_
          refine p_X9_91 dX9_nextToken_257 rfl tt336 ?_
          refine il_1 dX9_nextToken_260 ?_
          refine bi_60 dX9_nextToken_261 ?_
          refine wp_icmp_eq 272 dX9_nextToken_263 rfl (fun c263 => ?_) (fun c263 => ?_)
          · refine al_0 dX9_nextToken_272 ?_
            refine al_0 dX9_nextToken_273 ?_
            refine g_X9_91 dX9_nextToken_274 rfl tt336 ?_
            rw [up_s]
            refine c_X9_94 dX9_nextToken_277 rfl tt336 (Nat.le_of_ble_eq_true rfl) (by omega) ?_
            refine wX9_byteAt (N := N) (T := T) (by omega) (by omega) (by rw [up_k (by decide), up_k (by decide), up_k (by decide)]; exact hN1) (by rw [up_o' (by decide), up_o' (by decide), up_o' (by decide)]; exact hT1) B ?_
            refine pv_i ?_
            refine bi_61 dX9_nextToken_280 ?_
            refine wp_icmp_ne 310 dX9_nextToken_282 rfl (fun c282 => ?_) (fun c282 => ?_)
            · refine wp_vret dX9_nextToken_310 rfl ?_
              first
                | (exfalso; omega)
                | (refine hQ _ hl (E1.tr ((eqTk.rf.up (by decide)).up (by decide))) ?_ (by rw [up_k (by decide), up_s]) ?_
                   · rw [up_k (by decide), up_k (by decide), x1]; unfold tkF; rw [if_pos (by omega)]
                   · rw [up_s]; exact TokF.end_ (by omega))
                | (have g : ¬ figB (T p) = true := by rw [figB_i]; omega
                   have l : ¬ ltrB (T p) = true := by rw [ltrB_i]; omega
                   have q : (T p = 60 ∨ T p = 62) ∧ bA T N (p + 1) = 61 := ⟨by omega, by omega⟩
                   refine hQ _ hl (E1.tr (((((eqTk.rf.up (by decide)).up (by decide)).up (by decide)).up (by decide)).up (by decide))) ?_ (by rw [up_k (by decide), up_k (by decide), up_k (by decide), up_k (by decide), up_s]) ?_
                   · rw [up_s]; unfold tkF; rw [if_neg (by omega), if_neg l, if_neg g, if_pos q]; show p + 1 + 1 = p + 2; omega
                   · refine TokF.sgn_ (by omega) l g ?_
                     rw [up_k (by decide), up_s, if_pos q]
                     first | rw [if_pos (by omega)] | rw [if_neg (by omega)])
                | (have g : ¬ figB (T p) = true := by rw [figB_i]; omega
                   have l : ¬ ltrB (T p) = true := by rw [ltrB_i]; omega
                   have q : ¬ ((T p = 60 ∨ T p = 62) ∧ bA T N (p + 1) = 61) := by omega
                   refine hQ _ hl (E1.tr (((eqTk.rf.up (by decide)).up (by decide)).up (by decide))) ?_ (by rw [up_k (by decide), up_k (by decide), up_s]) ?_
                   · rw [up_s]; unfold tkF; rw [if_neg (by omega), if_neg l, if_neg g, if_neg q]
                   · refine TokF.sgn_ (by omega) l g ?_
                     rw [up_k (by decide), up_s, if_neg q]
                     first | rw [if_pos (by omega)] | rw [if_neg (by omega)])
            · refine al_0 dX9_nextToken_285 ?_
              refine il_1 dX9_nextToken_286 ?_
              refine bi_60 dX9_nextToken_287 ?_
              refine wp_icmp_ne 296 dX9_nextToken_289 rfl (fun c289 => ?_) (fun c289 => ?_)
              · refine ic_5 dX9_nextToken_296 ?_
                refine p_X9_100 dX9_nextToken_297 rfl tt336 ?_
                refine al_0 dX9_nextToken_300 ?_
                refine wp_dup dX9_nextToken_301 rfl ?_
                refine g_X9_91 dX9_nextToken_302 rfl tt336 ?_
                rw [up_k (by decide), up_s]
                refine ic_1 dX9_nextToken_305 ?_
                refine wp_iadd dX9_nextToken_306 (r32 (by omega) (by omega)) ?_
                refine p_X9_91 dX9_nextToken_307 rfl tt336 ?_
                refine wp_vret dX9_nextToken_310 rfl ?_
                first
                  | (exfalso; omega)
                  | (refine hQ _ hl (E1.tr ((eqTk.rf.up (by decide)).up (by decide))) ?_ (by rw [up_k (by decide), up_s]) ?_
                     · rw [up_k (by decide), up_k (by decide), x1]; unfold tkF; rw [if_pos (by omega)]
                     · rw [up_s]; exact TokF.end_ (by omega))
                  | (have g : ¬ figB (T p) = true := by rw [figB_i]; omega
                     have l : ¬ ltrB (T p) = true := by rw [ltrB_i]; omega
                     have q : (T p = 60 ∨ T p = 62) ∧ bA T N (p + 1) = 61 := ⟨by omega, by omega⟩
                     refine hQ _ hl (E1.tr (((((eqTk.rf.up (by decide)).up (by decide)).up (by decide)).up (by decide)).up (by decide))) ?_ (by rw [up_k (by decide), up_k (by decide), up_k (by decide), up_k (by decide), up_s]) ?_
                     · rw [up_s]; unfold tkF; rw [if_neg (by omega), if_neg l, if_neg g, if_pos q]; show p + 1 + 1 = p + 2; omega
                     · refine TokF.sgn_ (by omega) l g ?_
                       rw [up_k (by decide), up_s, if_pos q]
                       first | rw [if_pos (by omega)] | rw [if_neg (by omega)])
                  | (have g : ¬ figB (T p) = true := by rw [figB_i]; omega
                     have l : ¬ ltrB (T p) = true := by rw [ltrB_i]; omega
                     have q : ¬ ((T p = 60 ∨ T p = 62) ∧ bA T N (p + 1) = 61) := by omega
                     refine hQ _ hl (E1.tr (((eqTk.rf.up (by decide)).up (by decide)).up (by decide))) ?_ (by rw [up_k (by decide), up_k (by decide), up_s]) ?_
                     · rw [up_s]; unfold tkF; rw [if_neg (by omega), if_neg l, if_neg g, if_neg q]
                     · refine TokF.sgn_ (by omega) l g ?_
                       rw [up_k (by decide), up_s, if_neg q]
                       first | rw [if_pos (by omega)] | rw [if_neg (by omega)])
              · refine ic_4 dX9_nextToken_292 ?_
                refine wp_goto 297 dX9_nextToken_293 rfl ?_
                refine p_X9_100 dX9_nextToken_297 rfl tt336 ?_
                refine al_0 dX9_nextToken_300 ?_
                refine wp_dup dX9_nextToken_301 rfl ?_
                refine g_X9_91 dX9_nextToken_302 rfl tt336 ?_
                rw [up_k (by decide), up_s]
                refine ic_1 dX9_nextToken_305 ?_
                refine wp_iadd dX9_nextToken_306 (r32 (by omega) (by omega)) ?_
                refine p_X9_91 dX9_nextToken_307 rfl tt336 ?_
                refine wp_vret dX9_nextToken_310 rfl ?_
                first
                  | (exfalso; omega)
                  | (refine hQ _ hl (E1.tr ((eqTk.rf.up (by decide)).up (by decide))) ?_ (by rw [up_k (by decide), up_s]) ?_
                     · rw [up_k (by decide), up_k (by decide), x1]; unfold tkF; rw [if_pos (by omega)]
                     · rw [up_s]; exact TokF.end_ (by omega))
                  | (have g : ¬ figB (T p) = true := by rw [figB_i]; omega
                     have l : ¬ ltrB (T p) = true := by rw [ltrB_i]; omega
                     have q : (T p = 60 ∨ T p = 62) ∧ bA T N (p + 1) = 61 := ⟨by omega, by omega⟩
                     refine hQ _ hl (E1.tr (((((eqTk.rf.up (by decide)).up (by decide)).up (by decide)).up (by decide)).up (by decide))) ?_ (by rw [up_k (by decide), up_k (by decide), up_k (by decide), up_k (by decide), up_s]) ?_
                     · rw [up_s]; unfold tkF; rw [if_neg (by omega), if_neg l, if_neg g, if_pos q]; show p + 1 + 1 = p + 2; omega
                     · refine TokF.sgn_ (by omega) l g ?_
                       rw [up_k (by decide), up_s, if_pos q]
                       first | rw [if_pos (by omega)] | rw [if_neg (by omega)])
                  | (have g : ¬ figB (T p) = true := by rw [figB_i]; omega
                     have l : ¬ ltrB (T p) = true := by rw [ltrB_i]; omega
                     have q : ¬ ((T p = 60 ∨ T p = 62) ∧ bA T N (p + 1) = 61) := by omega
                     refine hQ _ hl (E1.tr (((eqTk.rf.up (by decide)).up (by decide)).up (by decide))) ?_ (by rw [up_k (by decide), up_k (by decide), up_s]) ?_
                     · rw [up_s]; unfold tkF; rw [if_neg (by omega), if_neg l, if_neg g, if_neg q]
                     · refine TokF.sgn_ (by omega) l g ?_
                       rw [up_k (by decide), up_s, if_neg q]
                       first | rw [if_pos (by omega)] | rw [if_neg (by omega)])
          · refine il_1 dX9_nextToken_266 ?_
            refine bi_62 dX9_nextToken_267 ?_
            refine wp_icmp_ne 310 dX9_nextToken_269 rfl (fun c269 => ?_) (fun c269 => ?_)
            · refine wp_vret dX9_nextToken_310 rfl ?_
              first
                | (exfalso; omega)
                | (refine hQ _ hl (E1.tr ((eqTk.rf.up (by decide)).up (by decide))) ?_ (by rw [up_k (by decide), up_s]) ?_
                   · rw [up_k (by decide), up_k (by decide), x1]; unfold tkF; rw [if_pos (by omega)]
                   · rw [up_s]; exact TokF.end_ (by omega))
                | (have g : ¬ figB (T p) = true := by rw [figB_i]; omega
                   have l : ¬ ltrB (T p) = true := by rw [ltrB_i]; omega
                   have q : (T p = 60 ∨ T p = 62) ∧ bA T N (p + 1) = 61 := ⟨by omega, by omega⟩
                   refine hQ _ hl (E1.tr (((((eqTk.rf.up (by decide)).up (by decide)).up (by decide)).up (by decide)).up (by decide))) ?_ (by rw [up_k (by decide), up_k (by decide), up_k (by decide), up_k (by decide), up_s]) ?_
                   · rw [up_s]; unfold tkF; rw [if_neg (by omega), if_neg l, if_neg g, if_pos q]; show p + 1 + 1 = p + 2; omega
                   · refine TokF.sgn_ (by omega) l g ?_
                     rw [up_k (by decide), up_s, if_pos q]
                     first | rw [if_pos (by omega)] | rw [if_neg (by omega)])
                | (have g : ¬ figB (T p) = true := by rw [figB_i]; omega
                   have l : ¬ ltrB (T p) = true := by rw [ltrB_i]; omega
                   have q : ¬ ((T p = 60 ∨ T p = 62) ∧ bA T N (p + 1) = 61) := by omega
                   refine hQ _ hl (E1.tr (((eqTk.rf.up (by decide)).up (by decide)).up (by decide))) ?_ (by rw [up_k (by decide), up_k (by decide), up_s]) ?_
                   · rw [up_s]; unfold tkF; rw [if_neg (by omega), if_neg l, if_neg g, if_neg q]
                   · refine TokF.sgn_ (by omega) l g ?_
                     rw [up_k (by decide), up_s, if_neg q]
                     first | rw [if_pos (by omega)] | rw [if_neg (by omega)])
            · refine al_0 dX9_nextToken_272 ?_
              refine al_0 dX9_nextToken_273 ?_
              refine g_X9_91 dX9_nextToken_274 rfl tt336 ?_
              rw [up_s]
              refine c_X9_94 dX9_nextToken_277 rfl tt336 (Nat.le_of_ble_eq_true rfl) (by omega) ?_
              refine wX9_byteAt (N := N) (T := T) (by omega) (by omega) (by rw [up_k (by decide), up_k (by decide), up_k (by decide)]; exact hN1) (by rw [up_o' (by decide), up_o' (by decide), up_o' (by decide)]; exact hT1) B ?_
              refine pv_i ?_
              refine bi_61 dX9_nextToken_280 ?_
              refine wp_icmp_ne 310 dX9_nextToken_282 rfl (fun c282 => ?_) (fun c282 => ?_)
              · refine wp_vret dX9_nextToken_310 rfl ?_
                first
                  | (exfalso; omega)
                  | (refine hQ _ hl (E1.tr ((eqTk.rf.up (by decide)).up (by decide))) ?_ (by rw [up_k (by decide), up_s]) ?_
                     · rw [up_k (by decide), up_k (by decide), x1]; unfold tkF; rw [if_pos (by omega)]
                     · rw [up_s]; exact TokF.end_ (by omega))
                  | (have g : ¬ figB (T p) = true := by rw [figB_i]; omega
                     have l : ¬ ltrB (T p) = true := by rw [ltrB_i]; omega
                     have q : (T p = 60 ∨ T p = 62) ∧ bA T N (p + 1) = 61 := ⟨by omega, by omega⟩
                     refine hQ _ hl (E1.tr (((((eqTk.rf.up (by decide)).up (by decide)).up (by decide)).up (by decide)).up (by decide))) ?_ (by rw [up_k (by decide), up_k (by decide), up_k (by decide), up_k (by decide), up_s]) ?_
                     · rw [up_s]; unfold tkF; rw [if_neg (by omega), if_neg l, if_neg g, if_pos q]; show p + 1 + 1 = p + 2; omega
                     · refine TokF.sgn_ (by omega) l g ?_
                       rw [up_k (by decide), up_s, if_pos q]
                       first | rw [if_pos (by omega)] | rw [if_neg (by omega)])
                  | (have g : ¬ figB (T p) = true := by rw [figB_i]; omega
                     have l : ¬ ltrB (T p) = true := by rw [ltrB_i]; omega
                     have q : ¬ ((T p = 60 ∨ T p = 62) ∧ bA T N (p + 1) = 61) := by omega
                     refine hQ _ hl (E1.tr (((eqTk.rf.up (by decide)).up (by decide)).up (by decide))) ?_ (by rw [up_k (by decide), up_k (by decide), up_s]) ?_
                     · rw [up_s]; unfold tkF; rw [if_neg (by omega), if_neg l, if_neg g, if_neg q]
                     · refine TokF.sgn_ (by omega) l g ?_
                       rw [up_k (by decide), up_s, if_neg q]
                       first | rw [if_pos (by omega)] | rw [if_neg (by omega)])
              · refine al_0 dX9_nextToken_285 ?_
                refine il_1 dX9_nextToken_286 ?_
                refine bi_60 dX9_nextToken_287 ?_
                refine wp_icmp_ne 296 dX9_nextToken_289 rfl (fun c289 => ?_) (fun c289 => ?_)
                · refine ic_5 dX9_nextToken_296 ?_
                  refine p_X9_100 dX9_nextToken_297 rfl tt336 ?_
                  refine al_0 dX9_nextToken_300 ?_
                  refine wp_dup dX9_nextToken_301 rfl ?_
                  refine g_X9_91 dX9_nextToken_302 rfl tt336 ?_
                  rw [up_k (by decide), up_s]
                  refine ic_1 dX9_nextToken_305 ?_
                  refine wp_iadd dX9_nextToken_306 (r32 (by omega) (by omega)) ?_
                  refine p_X9_91 dX9_nextToken_307 rfl tt336 ?_
                  refine wp_vret dX9_nextToken_310 rfl ?_
                  first
                    | (exfalso; omega)
                    | (refine hQ _ hl (E1.tr ((eqTk.rf.up (by decide)).up (by decide))) ?_ (by rw [up_k (by decide), up_s]) ?_
                       · rw [up_k (by decide), up_k (by decide), x1]; unfold tkF; rw [if_pos (by omega)]
                       · rw [up_s]; exact TokF.end_ (by omega))
                    | (have g : ¬ figB (T p) = true := by rw [figB_i]; omega
                       have l : ¬ ltrB (T p) = true := by rw [ltrB_i]; omega
                       have q : (T p = 60 ∨ T p = 62) ∧ bA T N (p + 1) = 61 := ⟨by omega, by omega⟩
                       refine hQ _ hl (E1.tr (((((eqTk.rf.up (by decide)).up (by decide)).up (by decide)).up (by decide)).up (by decide))) ?_ (by rw [up_k (by decide), up_k (by decide), up_k (by decide), up_k (by decide), up_s]) ?_
                       · rw [up_s]; unfold tkF; rw [if_neg (by omega), if_neg l, if_neg g, if_pos q]; show p + 1 + 1 = p + 2; omega
                       · refine TokF.sgn_ (by omega) l g ?_
                         rw [up_k (by decide), up_s, if_pos q]
                         first | rw [if_pos (by omega)] | rw [if_neg (by omega)])
                    | (have g : ¬ figB (T p) = true := by rw [figB_i]; omega
                       have l : ¬ ltrB (T p) = true := by rw [ltrB_i]; omega
                       have q : ¬ ((T p = 60 ∨ T p = 62) ∧ bA T N (p + 1) = 61) := by omega
                       refine hQ _ hl (E1.tr (((eqTk.rf.up (by decide)).up (by decide)).up (by decide))) ?_ (by rw [up_k (by decide), up_k (by decide), up_s]) ?_
                       · rw [up_s]; unfold tkF; rw [if_neg (by omega), if_neg l, if_neg g, if_neg q]
                       · refine TokF.sgn_ (by omega) l g ?_
                         rw [up_k (by decide), up_s, if_neg q]
                         first | rw [if_pos (by omega)] | rw [if_neg (by omega)])
                · refine ic_4 dX9_nextToken_292 ?_
                  refine wp_goto 297 dX9_nextToken_293 rfl ?_
                  refine p_X9_100 dX9_nextToken_297 rfl tt336 ?_
                  refine al_0 dX9_nextToken_300 ?_
                  refine wp_dup dX9_nextToken_301 rfl ?_
                  refine g_X9_91 dX9_nextToken_302 rfl tt336 ?_
                  rw [up_k (by decide), up_s]
                  refine ic_1 dX9_nextToken_305 ?_
                  refine wp_iadd dX9_nextToken_306 (r32 (by omega) (by omega)) ?_
                  refine p_X9_91 dX9_nextToken_307 rfl tt336 ?_
                  refine wp_vret dX9_nextToken_310 rfl ?_
                  first
                    | (exfalso; omega)
                    | (refine hQ _ hl (E1.tr ((eqTk.rf.up (by decide)).up (by decide))) ?_ (by rw [up_k (by decide), up_s]) ?_
                       · rw [up_k (by decide), up_k (by decide), x1]; unfold tkF; rw [if_pos (by omega)]
                       · rw [up_s]; exact TokF.end_ (by omega))
                    | (have g : ¬ figB (T p) = true := by rw [figB_i]; omega
                       have l : ¬ ltrB (T p) = true := by rw [ltrB_i]; omega
                       have q : (T p = 60 ∨ T p = 62) ∧ bA T N (p + 1) = 61 := ⟨by omega, by omega⟩
                       refine hQ _ hl (E1.tr (((((eqTk.rf.up (by decide)).up (by decide)).up (by decide)).up (by decide)).up (by decide))) ?_ (by rw [up_k (by decide), up_k (by decide), up_k (by decide), up_k (by decide), up_s]) ?_
                       · rw [up_s]; unfold tkF; rw [if_neg (by omega), if_neg l, if_neg g, if_pos q]; show p + 1 + 1 = p + 2; omega
                       · refine TokF.sgn_ (by omega) l g ?_
                         rw [up_k (by decide), up_s, if_pos q]
                         first | rw [if_pos (by omega)] | rw [if_neg (by omega)])
                    | (have g : ¬ figB (T p) = true := by rw [figB_i]; omega
                       have l : ¬ ltrB (T p) = true := by rw [ltrB_i]; omega
                       have q : ¬ ((T p = 60 ∨ T p = 62) ∧ bA T N (p + 1) = 61) := by omega
                       refine hQ _ hl (E1.tr (((eqTk.rf.up (by decide)).up (by decide)).up (by decide))) ?_ (by rw [up_k (by decide), up_k (by decide), up_s]) ?_
                       · rw [up_s]; unfold tkF; rw [if_neg (by omega), if_neg l, if_neg g, if_neg q]
                       · refine TokF.sgn_ (by omega) l g ?_
                         rw [up_k (by decide), up_s, if_neg q]
                         first | rw [if_pos (by omega)] | rw [if_neg (by omega)])
      · rw [b2i_n0] at c155
        refine al_0 dX9_nextToken_158 ?_
        refine ic_2 dX9_nextToken_159 ?_
        refine p_X9_100 dX9_nextToken_160 rfl tt336 ?_
        refine al_0 dX9_nextToken_163 ?_
        refine lc_0 dX9_nextToken_164 ?_
        refine p_X9_113 dX9_nextToken_165 rfl tt336 ?_
        exact wX9_nextToken_168 (p := p) (h0 := up (up h1 336 8 p) 336 9 2) (by omega) (by omega) (by rw [up_k (by decide), up_k (by decide)]; exact hN1) (by rw [up_o' (by decide), up_o' (by decide)]; exact hT1) B _ 0 _ _ (Nat.lt_succ_self _) (by omega) (fun j hj => absurd hj (Nat.not_lt_zero _)) (by rw [show p + ((0 : Nat) : Int) = p by omega]) (by rw [up_k (by decide), up_k (by decide), x1]; omega) (by rw [up_s]; rfl) ⟨eqX.rf, fun _ _ => rfl⟩ (fun h2 hl2 E2 F2 y1 y2 => by
          have e8 : h2 336 8 = p := by rw [F2 8 (by decide), up_k (by decide), up_s]
          have e9 : h2 336 9 = 2 := by rw [F2 9 (by decide), up_s]
          have l := ltrB_i.mpr c155
          refine hQ h2 hl2 (E1.tr ⟨((eqX.rf.up (by decide)).up (by decide)).tr E2, fun j j1 j2 j3 j4 => by rw [F2 j j1, up_k j3, up_k j2]⟩) ?_ e8 ?_
          · rw [y1]; unfold tkF; rw [if_neg (by omega), if_pos l]
          · rw [e9]; exact TokF.ltr_ (by omega) l y2)
    · rw [b2i_n0] at c72
      have nl : ¬ ltrB (T p) = true := by rw [ltrB_i]; omega
      refine al_0 dX9_nextToken_75 ?_
      refine ic_1 dX9_nextToken_76 ?_
      refine p_X9_100 dX9_nextToken_77 rfl tt336 ?_
      refine al_0 dX9_nextToken_80 ?_
      refine ic_0 dX9_nextToken_81 ?_
      refine p_X9_106 dX9_nextToken_82 rfl tt336 ?_
      exact wX9_nextToken_85 (p := p) (h0 := up (up (up h1 336 8 p) 336 9 1) 336 10 0) (by omega) (by omega) (by rw [up_k (by decide), up_k (by decide), up_k (by decide)]; exact hN1) (by rw [up_o' (by decide), up_o' (by decide), up_o' (by decide)]; exact hT1) B _ 0 _ (Nat.lt_succ_self _) (by omega) (fun j hj => absurd hj (Nat.not_lt_zero _)) (by rw [show p + ((0 : Nat) : Int) = p by omega]) (by rw [up_k (by decide), up_k (by decide), up_k (by decide), x1]; omega) (by rw [up_s]; rfl) ⟨eqX.rf, fun _ _ _ => rfl⟩ (fun h2 E2 F2 y1 y2 => by
        have e8 : h2 336 8 = p := by rw [F2 8 (by decide) (by decide), up_k (by decide), up_k (by decide), up_s]
        have e9 : h2 336 9 = 1 := by rw [F2 9 (by decide) (by decide), up_k (by decide), up_s]
        refine hQ h2 hl (E1.tr ⟨(((eqX.rf.up (by decide)).up (by decide)).up (by decide)).tr E2, fun j j1 j2 j3 j4 => by rw [F2 j j1 j4, up_k j4, up_k j3, up_k j2]⟩) ?_ e8 ?_
        · rw [y1]; unfold tkF; rw [if_neg (by omega), if_neg nl, if_pos (figB_i.mpr c72)]
        · rw [e9]; exact TokF.fig_ (by omega) nl (figB_i.mpr c72) y2)
  · have pN : N ≤ p := by
      by_cases q : p < N
      · exfalso
        have o := bA_i (T := T) (N := N) (p := p) q
        have := B2 p (by omega) q
        omega
      · omega
    refine al_0 dX9_nextToken_60 ?_
    refine ic_0 dX9_nextToken_61 ?_
    refine p_X9_100 dX9_nextToken_62 rfl tt336 ?_
    refine wp_goto 310 dX9_nextToken_65 rfl ?_
    refine wp_vret dX9_nextToken_310 rfl ?_
    first
      | (exfalso; omega)
      | (refine hQ _ hl (E1.tr ((eqTk.rf.up (by decide)).up (by decide))) ?_ (by rw [up_k (by decide), up_s]) ?_
         · rw [up_k (by decide), up_k (by decide), x1]; unfold tkF; rw [if_pos (by omega)]
         · rw [up_s]; exact TokF.end_ (by omega))
      | (have g : ¬ figB (T p) = true := by rw [figB_i]; omega
         have l : ¬ ltrB (T p) = true := by rw [ltrB_i]; omega
         have q : (T p = 60 ∨ T p = 62) ∧ bA T N (p + 1) = 61 := ⟨by omega, by omega⟩
         refine hQ _ hl (E1.tr (((((eqTk.rf.up (by decide)).up (by decide)).up (by decide)).up (by decide)).up (by decide))) ?_ (by rw [up_k (by decide), up_k (by decide), up_k (by decide), up_k (by decide), up_s]) ?_
         · rw [up_s]; unfold tkF; rw [if_neg (by omega), if_neg l, if_neg g, if_pos q]; show p + 1 + 1 = p + 2; omega
         · refine TokF.sgn_ (by omega) l g ?_
           rw [up_k (by decide), up_s, if_pos q]
           first | rw [if_pos (by omega)] | rw [if_neg (by omega)])
      | (have g : ¬ figB (T p) = true := by rw [figB_i]; omega
         have l : ¬ ltrB (T p) = true := by rw [ltrB_i]; omega
         have q : ¬ ((T p = 60 ∨ T p = 62) ∧ bA T N (p + 1) = 61) := by omega
         refine hQ _ hl (E1.tr (((eqTk.rf.up (by decide)).up (by decide)).up (by decide))) ?_ (by rw [up_k (by decide), up_k (by decide), up_s]) ?_
         · rw [up_s]; unfold tkF; rw [if_neg (by omega), if_neg l, if_neg g, if_neg q]
         · refine TokF.sgn_ (by omega) l g ?_
           rw [up_k (by decide), up_s, if_neg q]
           first | rw [if_pos (by omega)] | rw [if_neg (by omega)])
