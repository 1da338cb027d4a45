/-! rows of the model -/
def ur (R : Int → Int) (k x : Int) : Int → Int := fun j => if j = k then x else R j
theorem ur_s {R : Int → Int} {k x : Int} : ur R k x k = x := if_pos rfl
theorem ur_n {R : Int → Int} {k j x : Int} (h : j ≠ k) : ur R k x j = R j := if_neg h
def sw (h : Nat → Int → Int) (R : Int → Int) : Nat → Int → Int := fun o => if o = 337 then R else h o
theorem sw_s {h : Nat → Int → Int} {R : Int → Int} : sw h R 337 = R := if_pos rfl
theorem sw_o {h : Nat → Int → Int} {R : Int → Int} {o : Nat} (e : o ≠ 337) : sw h R o = h o := if_neg e
theorem up_sw {h : Nat → Int → Int} {k x : Int} : up h 337 k x = sw h (ur (h 337) k x) := by
  funext o j
  unfold up sw ur
  by_cases e : o = 337
  · subst e; simp
  · simp [e]
theorem up_sw2 {h : Nat → Int → Int} {R : Int → Int} {k x : Int} : up (sw h R) 337 k x = sw h (ur R k x) := by
  rw [up_sw, sw_s]
  funext o
  unfold sw
  split <;> rfl
theorem sw_sw {h : Nat → Int → Int} {R R' : Int → Int} : sw (sw h R) R' = sw h R' := by
  funext o; unfold sw; split <;> rfl
theorem sw_id {h : Nat → Int → Int} : sw h (h 337) = h := by
  funext o; unfold sw; split
  · subst_vars; rfl
  · rfl
theorem pc_step : ∀ n : Nat, n < 1024 → 0 < n → pc (band (n : Int) ((n : Int) - 1)) + 1 = pc n ∧ 0 ≤ band (n : Int) ((n : Int) - 1) ∧ band (n : Int) ((n : Int) - 1) < n := by decide +kernel
/-- what a set turns over -/
def tuM (D : Int → Int) (s : Int) : Nat → Int
  | 0 => 0
  | n + 1 => bxor (tuM D s n) (if tb s n then D n else 0)
theorem tuM_s {D : Int → Int} {s p : Int} (h : 0 ≤ p) : tuM D s (p + 1).toNat = bxor (tuM D s p.toNat) (if tb s p then D p else 0) := by
  obtain ⟨n, rfl⟩ := Int.eq_ofNat_of_zero_le h
  rfl
theorem tuM_R {D : Int → Int} {s : Int} : ∀ n : Nat, (∀ i : Int, 0 ≤ i → i < n → 0 ≤ D i ∧ D i < 1024) → 0 ≤ tuM D s n ∧ tuM D s n < 1024
  | 0, _ => by unfold tuM; omega
  | n + 1, h => by
    have ih := tuM_R (D := D) (s := s) n (fun i h0 h1 => h i h0 (by omega))
    have h2 := h n (by omega) (by omega)
    unfold tuM
    split
    · exact bxor_lt ih.1 ih.2 h2.1 h2.2
    · exact bxor_lt ih.1 ih.2 (by omega) (by omega)
theorem tuM_c {D D' : Int → Int} {s : Int} : ∀ n : Nat, (∀ i : Int, 0 ≤ i → i < n → D i = D' i) → tuM D s n = tuM D' s n
  | 0, _ => rfl
  | n + 1, h => by
    unfold tuM
    rw [tuM_c n (fun i h0 h1 => h i h0 (by omega)), h n (by omega) (by omega)]
/-- is there one below n -/
def anyN (P : Int → Bool) : Nat → Bool
  | 0 => false
  | n + 1 => anyN P n || P n
theorem anyN_iff {P : Int → Bool} : ∀ n : Nat, anyN P n = true ↔ ∃ i : Int, 0 ≤ i ∧ i < n ∧ P i = true
  | 0 => by unfold anyN; simp; intro x h0 h1; omega
  | n + 1 => by
    unfold anyN
    rw [Bool.or_eq_true, anyN_iff n]
    constructor
    · rintro (⟨i, h0, h1, h2⟩ | h)
      · exact ⟨i, h0, by omega, h2⟩
      · exact ⟨n, by omega, by omega, h⟩
    · rintro ⟨i, h0, h1, h2⟩
      by_cases e : i = n
      · subst e; exact Or.inr h2
      · exact Or.inl ⟨i, h0, by omega, h2⟩
theorem anyN_f {P : Int → Bool} {n : Nat} (h : ∀ i : Int, 0 ≤ i → i < n → P i = false) : anyN P n = false := by
  cases e : anyN P n with
  | false => rfl
  | true =>
    obtain ⟨i, h0, h1, h2⟩ := (anyN_iff n).mp e
    rw [h i h0 h1] at h2
    cases h2
theorem anyN_t {P : Int → Bool} {n : Nat} {i : Int} (h0 : 0 ≤ i) (h1 : i < n) (h2 : P i = true) : anyN P n = true := (anyN_iff n).mpr ⟨i, h0, h1, h2⟩
/-- the first least one's place -/
def minIx (lt : Int → Int → Bool) : Nat → Int
  | 0 => -1
  | n + 1 => if minIx lt n = -1 ∨ lt n (minIx lt n) = true then n else minIx lt n
theorem minIx_s {lt : Int → Int → Bool} {p : Int} (h : 0 ≤ p) : minIx lt (p + 1).toNat = if minIx lt p.toNat = -1 ∨ lt p (minIx lt p.toNat) = true then p else minIx lt p.toNat := by
  obtain ⟨n, rfl⟩ := Int.eq_ofNat_of_zero_le h
  rfl
theorem minIx_R {lt : Int → Int → Bool} : ∀ n : Nat, -1 ≤ minIx lt n ∧ minIx lt n < n
  | 0 => by unfold minIx; omega
  | n + 1 => by
    have := minIx_R (lt := lt) n
    unfold minIx
    split <;> omega
theorem minIx_c {lt lt' : Int → Int → Bool} : ∀ n : Nat, (∀ i j : Int, 0 ≤ i → i < n → 0 ≤ j → j < n → lt i j = lt' i j) → minIx lt n = minIx lt' n
  | 0, _ => rfl
  | n + 1, h => by
    have r := minIx_R (lt := lt') n
    unfold minIx
    rw [minIx_c n (fun i j a b c d => h i j a (by omega) c (by omega))]
    by_cases e : minIx lt' n = -1
    · simp [e]
    · rw [h n (minIx lt' n) (by omega) (by omega) (by omega) (by omega)]

theorem wX9_isIn {G : GT} {δ : Nat} {h hl : Nat → Int → Int} {b : Bool × Bool} {Q : V → Hp → Prop} {v lo hi : Int} (hδ : δ ≤ 1700)  (hQ : Q (vi (b2i (lo ≤ v ∧ v ≤ hi))) (HS h hl b)) : WP G δ 0 0 MX9_isIn 0 [vi v, vi lo, vi hi] [] (HS h hl b) Q := by
  refine il_0 dX9_isIn_0 ?_
  refine il_1 dX9_isIn_1 ?_
  refine wp_icmp_lt 14 dX9_isIn_2 rfl (fun c2 => ?_) (fun c2 => ?_)
  · refine ic_0 dX9_isIn_14 ?_
    refine wp_iretz dX9_isIn_15 rfl (by omega) ?_
    exact qv hQ (by first | exact b2i_t (by omega) | exact b2i_f (by omega))
  · refine il_0 dX9_isIn_5 ?_
    refine il_2 dX9_isIn_6 ?_
    refine wp_icmp_gt 14 dX9_isIn_7 rfl (fun c7 => ?_) (fun c7 => ?_)
    · refine ic_0 dX9_isIn_14 ?_
      refine wp_iretz dX9_isIn_15 rfl (by omega) ?_
      exact qv hQ (by first | exact b2i_t (by omega) | exact b2i_f (by omega))
    · refine ic_1 dX9_isIn_10 ?_
      refine wp_goto 15 dX9_isIn_11 rfl ?_
      refine wp_iretz dX9_isIn_15 rfl (by omega) ?_
      exact qv hQ (by first | exact b2i_t (by omega) | exact b2i_f (by omega))

theorem wX9_cut {G : GT} {δ : Nat} {h hl : Nat → Int → Int} {b : Bool × Bool} {Q : V → Hp → Prop} {v lo hi : Int} (hl0 : lo ≤ hi) (r0 : -2147483648 ≤ lo) (r1 : hi < 2147483648) (hQ : Q (vi (max lo (min v hi))) (HS h hl b)) : WP G δ 0 0 MX9_cut 0 [vl v, vn, vi lo, vi hi] [] (HS h hl b) Q := by
  refine ll_0 dX9_cut_0 ?_
  refine il_2 dX9_cut_1 ?_
  refine wp_i2l dX9_cut_2 ?_
  refine wp_lcmp dX9_cut_3 ?_
  refine wp_if_ge 11 dX9_cut_4 rfl (fun c4 => ?_) (fun c4 => ?_)
  · rw [lcmp_ge] at c4
    refine ll_0 dX9_cut_11 ?_
    refine il_3 dX9_cut_12 ?_
    refine wp_i2l dX9_cut_13 ?_
    refine wp_lcmp dX9_cut_14 ?_
    refine wp_if_le 22 dX9_cut_15 rfl (fun c15 => ?_) (fun c15 => ?_)
    · rw [lcmp_le] at c15
      refine ll_0 dX9_cut_22 ?_
      refine wp_l2i dX9_cut_23 (r32 (by omega) (by omega)) ?_
      refine wp_ireti dX9_cut_24 rfl ?_
      exact qv hQ (by omega)
    · rw [lcmp_le] at c15
      refine il_3 dX9_cut_18 ?_
      refine wp_goto 24 dX9_cut_19 rfl ?_
      refine wp_ireti dX9_cut_24 rfl ?_
      exact qv hQ (by omega)
  · rw [lcmp_ge] at c4
    refine il_2 dX9_cut_7 ?_
    refine wp_goto 24 dX9_cut_8 rfl ?_
    refine wp_ireti dX9_cut_24 rfl ?_
    exact qv hQ (by omega)

theorem wX9_has {G : GT} {δ : Nat} {h hl : Nat → Int → Int} {b : Bool × Bool} {Q : V → Hp → Prop} {s k : Int} (hδ : δ ≤ 1700) (s0 : 0 ≤ s) (s1 : s < 2147483648) (k0 : 0 ≤ k) (k1 : k < 31) (hQ : Q (vi (b2i (tb s k = true))) (HS h hl b)) : WP G δ 0 0 MX9_has 0 [vi s, vi k] [] (HS h hl b) Q := by
  refine il_0 dX9_has_0 ?_
  refine il_1 dX9_has_1 ?_
  refine wp_ishr dX9_has_2 ?_
  refine ic_1 dX9_has_3 ?_
  refine wp_iand dX9_has_4 ?_
  refine ic_1 dX9_has_5 ?_
  rw [has_tb s0 s1 k0 k1]
  refine wp_icmp_ne 13 dX9_has_6 rfl (fun c6 => ?_) (fun c6 => ?_)
  · refine ic_0 dX9_has_13 ?_
    refine wp_iretz dX9_has_14 rfl (by omega) ?_
    refine qv hQ ?_
    by_cases q : tb s k = true
    · rw [if_pos q] at c6; first | exact b2i_t q | omega
    · rw [if_neg q] at c6; first | exact b2i_f q | omega
  · refine ic_1 dX9_has_9 ?_
    refine wp_goto 14 dX9_has_10 rfl ?_
    refine wp_iretz dX9_has_14 rfl (by omega) ?_
    refine qv hQ ?_
    by_cases q : tb s k = true
    · rw [if_pos q] at c6; first | exact b2i_t q | omega
    · rw [if_neg q] at c6; first | exact b2i_f q | omega

theorem wX9_bits_4 {G : GT} {δ : Nat} {h hl : Nat → Int → Int} {b : Bool × Bool} {Q : V → Hp → Prop} {s : Int} (hδ : δ ≤ 1700)  : ∀ (n : Nat) (k : Int) (l : Int), (l.toNat) < n → (0 ≤ l) → (l < 1024) → (0 ≤ k) → (k ≤ 10) → (k + pc l = pc s) → (Q (vi (pc s)) (HS h hl b)) → WP G δ 0 0 MX9_bits 4 [vi s, vi k, vi l] [] (HS h hl b) Q := by
  intro n
  induction n with
  | zero => intro k l hlt; exact absurd hlt (Nat.not_lt_zero _)
  | succ n ih =>
    intro k l hlt l0 l1 n0 n1 hn hQ
    obtain ⟨m, hm, rfl⟩ := nat_of (n := 1024) l0 l1
    have hp := pc_step m hm
    have hr := pc_R (x := s)
    have hr2 := pc_R (x := band (m : Int) ((m : Int) - 1))
    refine il_2 dX9_bits_4 ?_
    refine wp_if_eq 20 dX9_bits_5 rfl (fun c5 => ?_) (fun c5 => ?_)
    · have e : m = 0 := by omega
      subst e
      refine il_1 dX9_bits_20 ?_
      refine wp_ireti dX9_bits_21 rfl ?_
      exact qv hQ (by rw [← hn]; simp [pc, pcN])
    · have hp := hp (by omega)
      refine ii_1 dX9_bits_8 rfl (by decide) ⟨by decide, by decide⟩ (r32 (by omega) (by omega)) ?_
      refine il_2 dX9_bits_11 ?_
      refine il_2 dX9_bits_12 ?_
      refine ic_1 dX9_bits_13 ?_
      refine wp_isub dX9_bits_14 (r32 (by omega) (by omega)) ?_
      refine wp_iand dX9_bits_15 ?_
      refine is_2 dX9_bits_16 rfl (by decide) ?_
      refine wp_goto 4 dX9_bits_17 rfl ?_
      exact ih _ _ (by omega) (by omega) (by omega) (by omega) (by omega) (by omega) hQ

theorem wX9_bits {G : GT} {δ : Nat} {h hl : Nat → Int → Int} {b : Bool × Bool} {Q : V → Hp → Prop} {s : Int} (hδ : δ ≤ 1700) (s0 : 0 ≤ s) (s1 : s < 1024) (hQ : Q (vi (pc s)) (HS h hl b)) : WP G δ 0 0 MX9_bits 0 [vi s, vn, vn] [] (HS h hl b) Q := by
  refine ic_0 dX9_bits_0 ?_
  refine is_1 dX9_bits_1 rfl (by decide) ?_
  refine il_0 dX9_bits_2 ?_
  refine is_2 dX9_bits_3 rfl (by decide) ?_
  exact wX9_bits_4 hδ _ 0 s (Nat.lt_succ_self _) s0 s1 (by omega) (by omega) (by omega) hQ

theorem wX9_isPerson {G : GT} {δ : Nat} {h hl : Nat → Int → Int} {b : Bool × Bool} {Q : V → Hp → Prop} {p : Int} (hδ : δ ≤ 1680) (n0 : 0 ≤ h 337 0) (n1 : h 337 0 ≤ 4) (hQ : Q (vi (b2i (0 ≤ p ∧ p < h 337 0))) (HS h hl b)) : WP G δ 0 0 MX9_isPerson 0 [vr (336), vi p] [] (HS h hl b) Q := by
  refine il_1 dX9_isPerson_0 ?_
  refine ic_0 dX9_isPerson_1 ?_
  refine al_0 dX9_isPerson_2 ?_
  refine g_X9_7 (337) dX9_isPerson_3 rfl tt336 (rr9_0 tt336) (by omega) ?_
  refine ic_0 dX9_isPerson_6 ?_
  refine wp_iaload dX9_isPerson_7 tt337 (by omega) (by omega) ?_
  refine ic_1 dX9_isPerson_8 ?_
  refine wp_isub dX9_isPerson_9 (r32 (by omega) (by omega)) ?_
  refine c_X9_69 dX9_isPerson_10 rfl (Nat.le_of_ble_eq_true rfl) (by omega) ?_
  refine wX9_isIn (by omega) ?_
  refine pv_i ?_
  refine wp_iretz dX9_isPerson_13 rfl b2i_01 ?_
  exact qv hQ (b2i_c (by omega))

theorem wX9_isDispute {G : GT} {δ : Nat} {h hl : Nat → Int → Int} {b : Bool × Bool} {Q : V → Hp → Prop} {p : Int} (hδ : δ ≤ 1680) (d0 : 0 ≤ h 337 1) (d1 : h 337 1 ≤ 8) (hQ : Q (vi (b2i (0 ≤ p ∧ p < h 337 1))) (HS h hl b)) : WP G δ 0 0 MX9_isDispute 0 [vr (336), vi p] [] (HS h hl b) Q := by
  refine il_1 dX9_isDispute_0 ?_
  refine ic_0 dX9_isDispute_1 ?_
  refine al_0 dX9_isDispute_2 ?_
  refine g_X9_7 (337) dX9_isDispute_3 rfl tt336 (rr9_0 tt336) (by omega) ?_
  refine ic_1 dX9_isDispute_6 ?_
  refine wp_iaload dX9_isDispute_7 tt337 (by omega) (by omega) ?_
  refine ic_1 dX9_isDispute_8 ?_
  refine wp_isub dX9_isDispute_9 (r32 (by omega) (by omega)) ?_
  refine c_X9_69 dX9_isDispute_10 rfl (Nat.le_of_ble_eq_true rfl) (by omega) ?_
  refine wX9_isIn (by omega) ?_
  refine pv_i ?_
  refine wp_iretz dX9_isDispute_13 rfl b2i_01 ?_
  exact qv hQ (b2i_c (by omega))

theorem wX9_isLamp {G : GT} {δ : Nat} {h hl : Nat → Int → Int} {b : Bool × Bool} {Q : V → Hp → Prop} {l : Int} (hδ : δ ≤ 1680)  (hQ : Q (vi (b2i (0 ≤ l ∧ l < 10))) (HS h hl b)) : WP G δ 0 0 MX9_isLamp 0 [vi l] [] (HS h hl b) Q := by
  refine il_0 dX9_isLamp_0 ?_
  refine ic_0 dX9_isLamp_1 ?_
  refine bi_9 dX9_isLamp_2 ?_
  refine c_X9_69 dX9_isLamp_4 rfl (Nat.le_of_ble_eq_true rfl) (by omega) ?_
  refine wX9_isIn (by omega) ?_
  refine pv_i ?_
  refine wp_iretz dX9_isLamp_7 rfl b2i_01 ?_
  exact qv hQ (b2i_c (by omega))

theorem wX9_isPattern {G : GT} {δ : Nat} {h hl : Nat → Int → Int} {b : Bool × Bool} {Q : V → Hp → Prop} {l : Int} (hδ : δ ≤ 1680)  (hQ : Q (vi (b2i (0 ≤ l ∧ l ≤ 1023))) (HS h hl b)) : WP G δ 0 0 MX9_isPattern 0 [vi l] [] (HS h hl b) Q := by
  refine il_0 dX9_isPattern_0 ?_
  refine ic_0 dX9_isPattern_1 ?_
  refine si_1023 dX9_isPattern_2 ?_
  refine c_X9_69 dX9_isPattern_5 rfl (Nat.le_of_ble_eq_true rfl) (by omega) ?_
  refine wX9_isIn (by omega) ?_
  refine pv_i ?_
  refine wp_iretz dX9_isPattern_8 rfl b2i_01 ?_
  exact qv hQ (b2i_c (by omega))

theorem wX9_oilOf {G : GT} {δ : Nat} {h hl : Nat → Int → Int} {b : Bool × Bool} {Q : V → Hp → Prop} {p : Int} (hδ : δ ≤ 1700) (p0 : 0 ≤ p) (p1 : p < 4) (hQ : Q (vi (h 337 (13 + 2 * p))) (HS h hl b)) : WP G δ 0 0 MX9_oilOf 0 [vr (336), vi p] [] (HS h hl b) Q := by
  refine al_0 dX9_oilOf_0 ?_
  refine g_X9_7 (337) dX9_oilOf_1 rfl tt336 (rr9_0 tt336) (by omega) ?_
  refine bi_13 dX9_oilOf_4 ?_
  refine ic_2 dX9_oilOf_6 ?_
  refine il_1 dX9_oilOf_7 ?_
  refine wp_imul dX9_oilOf_8 (r32 (by omega) (by omega)) ?_
  refine wp_iadd dX9_oilOf_9 (r32 (by omega) (by omega)) ?_
  refine wp_iaload dX9_oilOf_10 tt337 (by omega) (by omega) ?_
  refine wp_ireti dX9_oilOf_11 rfl ?_
  exact hQ

theorem wX9_wrongOf {G : GT} {δ : Nat} {h hl : Nat → Int → Int} {b : Bool × Bool} {Q : V → Hp → Prop} {p : Int} (hδ : δ ≤ 1700) (p0 : 0 ≤ p) (p1 : p < 4) (hQ : Q (vi (h 337 (13 + 2 * p + 1))) (HS h hl b)) : WP G δ 0 0 MX9_wrongOf 0 [vr (336), vi p] [] (HS h hl b) Q := by
  refine al_0 dX9_wrongOf_0 ?_
  refine g_X9_7 (337) dX9_wrongOf_1 rfl tt336 (rr9_0 tt336) (by omega) ?_
  refine bi_13 dX9_wrongOf_4 ?_
  refine ic_2 dX9_wrongOf_6 ?_
  refine il_1 dX9_wrongOf_7 ?_
  refine wp_imul dX9_wrongOf_8 (r32 (by omega) (by omega)) ?_
  refine wp_iadd dX9_wrongOf_9 (r32 (by omega) (by omega)) ?_
  refine ic_1 dX9_wrongOf_10 ?_
  refine wp_iadd dX9_wrongOf_11 (r32 (by omega) (by omega)) ?_
  refine wp_iaload dX9_wrongOf_12 tt337 (by omega) (by omega) ?_
  refine wp_ireti dX9_wrongOf_13 rfl ?_
  exact hQ

theorem wX9_allOil_4 {G : GT} {δ : Nat} {h hl : Nat → Int → Int} {b : Bool × Bool} {Q : V → Hp → Prop}  (hδ : δ ≤ 1680) (n0 : 0 ≤ h 337 0) (n1 : h 337 0 ≤ 4) (ho : ∀ i : Int, 0 ≤ i → i < h 337 0 → 0 ≤ h 337 (13 + 2 * i) ∧ h 337 (13 + 2 * i) ≤ 99) : ∀ (n : Nat) (sum : Int) (p : Int), ((h 337 0 - p).toNat) < n → (0 ≤ p) → (p ≤ h 337 0) → (sum = sumN (fun i => h 337 (13 + 2 * i)) p.toNat) → (Q (vi (sumN (fun i => h 337 (13 + 2 * i)) (h 337 0).toNat)) (HS h hl b)) → WP G δ 0 0 MX9_allOil 4 [vr (336), vi sum, vi p] [] (HS h hl b) Q := by
  intro n
  induction n with
  | zero => intro sum p hlt; exact absurd hlt (Nat.not_lt_zero _)
  | succ n ih =>
    intro sum p hlt p0 p1 hs hQ
    refine il_2 dX9_allOil_4 ?_
    refine al_0 dX9_allOil_5 ?_
    refine g_X9_7 (337) dX9_allOil_6 rfl tt336 (rr9_0 tt336) (by omega) ?_
    refine ic_0 dX9_allOil_9 ?_
    refine wp_iaload dX9_allOil_10 tt337 (by omega) (by omega) ?_
    refine wp_icmp_ge 28 dX9_allOil_11 rfl (fun c11 => ?_) (fun c11 => ?_)
    · have e : p = h 337 0 := by omega
      subst e
      refine il_1 dX9_allOil_28 ?_
      refine wp_ireti dX9_allOil_29 rfl ?_
      exact qv hQ hs.symm
    · have hr := sumN_R (f := fun i => h 337 (13 + 2 * i)) (c := 99) p.toNat (fun i i0 i1 => ho i i0 (by omega))
      have hf := ho p p0 (by omega)
      refine il_1 dX9_allOil_14 ?_
      refine al_0 dX9_allOil_15 ?_
      refine il_2 dX9_allOil_16 ?_
      refine c_X9_73 dX9_allOil_17 rfl tt336 (Nat.le_of_ble_eq_true rfl) (by omega) ?_
      refine wX9_oilOf (by omega) p0 (by omega) ?_
      refine pv_i ?_
      refine wp_iadd dX9_allOil_20 (r32 (by omega) (by omega)) ?_
      refine is_1 dX9_allOil_21 rfl (by decide) ?_
      refine ii_2 dX9_allOil_22 rfl (by decide) ⟨by decide, by decide⟩ (r32 (by omega) (by omega)) ?_
      refine wp_goto 4 dX9_allOil_25 rfl ?_
      exact ih _ (p + 1) (by omega) (by omega) (by omega) (by rw [sumN_s p0, hs]) hQ

theorem wX9_allOil {G : GT} {δ : Nat} {h hl : Nat → Int → Int} {b : Bool × Bool} {Q : V → Hp → Prop}  (hδ : δ ≤ 1680) (n0 : 0 ≤ h 337 0) (n1 : h 337 0 ≤ 4) (ho : ∀ i : Int, 0 ≤ i → i < h 337 0 → 0 ≤ h 337 (13 + 2 * i) ∧ h 337 (13 + 2 * i) ≤ 99) (hQ : Q (vi (sumN (fun i => h 337 (13 + 2 * i)) (h 337 0).toNat)) (HS h hl b)) : WP G δ 0 0 MX9_allOil 0 [vr (336), vn, vn] [] (HS h hl b) Q := by
  refine ic_0 dX9_allOil_0 ?_
  refine is_1 dX9_allOil_1 rfl (by decide) ?_
  refine ic_0 dX9_allOil_2 ?_
  refine is_2 dX9_allOil_3 rfl (by decide) ?_
  exact wX9_allOil_4 hδ n0 n1 ho _ 0 0 (Nat.lt_succ_self _) (by omega) n0 rfl hQ

theorem wX9_canArgue {G : GT} {δ : Nat} {h hl : Nat → Int → Int} {b : Bool × Bool} {Q : V → Hp → Prop} {d p q : Int} (hδ : δ ≤ 1660) (n0 : 0 ≤ h 337 0) (n1 : h 337 0 ≤ 4) (d0 : 0 ≤ h 337 1) (d1 : h 337 1 ≤ 8) (hQ : Q (vi (b2i ((0 ≤ d ∧ d < h 337 1) ∧ (0 ≤ p ∧ p < h 337 0) ∧ (0 ≤ q ∧ q < h 337 0) ∧ p ≠ q))) (HS h hl b)) : WP G δ 0 0 MX9_canArgue 0 [vr (336), vi d, vi p, vi q] [] (HS h hl b) Q := by
  refine al_0 dX9_canArgue_0 ?_
  refine il_1 dX9_canArgue_1 ?_
  refine c_X9_332 dX9_canArgue_2 rfl tt336 (Nat.le_of_ble_eq_true rfl) (by omega) ?_
  refine wX9_isDispute (by omega) d0 d1 ?_
  refine pv_i ?_
  refine wp_if_eq 33 dX9_canArgue_5 rfl (fun c5 => ?_) (fun c5 => ?_)
  · rw [b2i_0] at c5
    refine ic_0 dX9_canArgue_33 ?_
    refine wp_iretz dX9_canArgue_34 rfl (by omega) ?_
    exact qv hQ (by first | exact b2i_t (by omega) | exact b2i_f (by omega))
  · rw [b2i_n0] at c5
    refine al_0 dX9_canArgue_8 ?_
    refine il_2 dX9_canArgue_9 ?_
    refine c_X9_335 dX9_canArgue_10 rfl tt336 (Nat.le_of_ble_eq_true rfl) (by omega) ?_
    refine wX9_isPerson (by omega) n0 n1 ?_
    refine pv_i ?_
    refine wp_if_eq 33 dX9_canArgue_13 rfl (fun c13 => ?_) (fun c13 => ?_)
    · rw [b2i_0] at c13
      refine ic_0 dX9_canArgue_33 ?_
      refine wp_iretz dX9_canArgue_34 rfl (by omega) ?_
      exact qv hQ (by first | exact b2i_t (by omega) | exact b2i_f (by omega))
    · rw [b2i_n0] at c13
      refine al_0 dX9_canArgue_16 ?_
      refine il_3 dX9_canArgue_17 ?_
      refine c_X9_335 dX9_canArgue_18 rfl tt336 (Nat.le_of_ble_eq_true rfl) (by omega) ?_
      refine wX9_isPerson (by omega) n0 n1 ?_
      refine pv_i ?_
      refine wp_if_eq 33 dX9_canArgue_21 rfl (fun c21 => ?_) (fun c21 => ?_)
      · rw [b2i_0] at c21
        refine ic_0 dX9_canArgue_33 ?_
        refine wp_iretz dX9_canArgue_34 rfl (by omega) ?_
        exact qv hQ (by first | exact b2i_t (by omega) | exact b2i_f (by omega))
      · rw [b2i_n0] at c21
        refine il_2 dX9_canArgue_24 ?_
        refine il_3 dX9_canArgue_25 ?_
        refine wp_icmp_eq 33 dX9_canArgue_26 rfl (fun c26 => ?_) (fun c26 => ?_)
        · refine ic_0 dX9_canArgue_33 ?_
          refine wp_iretz dX9_canArgue_34 rfl (by omega) ?_
          exact qv hQ (by first | exact b2i_t (by omega) | exact b2i_f (by omega))
        · refine ic_1 dX9_canArgue_29 ?_
          refine wp_goto 34 dX9_canArgue_30 rfl ?_
          refine wp_iretz dX9_canArgue_34 rfl (by omega) ?_
          exact qv hQ (by first | exact b2i_t (by omega) | exact b2i_f (by omega))

theorem wX9_canPour {G : GT} {δ : Nat} {h hl : Nat → Int → Int} {b : Bool × Bool} {Q : V → Hp → Prop} {p x : Int} (hδ : δ ≤ 1660) (n0 : 0 ≤ h 337 0) (n1 : h 337 0 ≤ 4) (ho : ∀ i : Int, 0 ≤ i → i < h 337 0 → 0 ≤ h 337 (13 + 2 * i) ∧ h 337 (13 + 2 * i) ≤ 99) (hQ : Q (vi (b2i ((0 ≤ p ∧ p < h 337 0) ∧ (-99 ≤ x ∧ x ≤ 99) ∧ x ≠ 0 ∧ 0 ≤ h 337 (13 + 2 * p) + x ∧ h 337 (13 + 2 * p) + x ≤ 99))) (HS h hl b)) : WP G δ 0 0 MX9_canPour 0 [vr (336), vi p, vi x] [] (HS h hl b) Q := by
  refine al_0 dX9_canPour_0 ?_
  refine il_1 dX9_canPour_1 ?_
  refine c_X9_335 dX9_canPour_2 rfl tt336 (Nat.le_of_ble_eq_true rfl) (by omega) ?_
  refine wX9_isPerson (by omega) n0 n1 ?_
  refine pv_i ?_
  refine wp_if_eq 43 dX9_canPour_5 rfl (fun c5 => ?_) (fun c5 => ?_)
  · rw [b2i_0] at c5
    refine ic_0 dX9_canPour_43 ?_
    refine wp_iretz dX9_canPour_44 rfl (by omega) ?_
    exact qv hQ (by first | exact b2i_t (by omega) | exact b2i_f (by omega))
  · rw [b2i_n0] at c5
    refine il_2 dX9_canPour_8 ?_
    refine bi_m99 dX9_canPour_9 ?_
    refine bi_99 dX9_canPour_11 ?_
    refine c_X9_69 dX9_canPour_13 rfl (Nat.le_of_ble_eq_true rfl) (by omega) ?_
    refine wX9_isIn (by omega) ?_
    refine pv_i ?_
    refine wp_if_eq 43 dX9_canPour_16 rfl (fun c16 => ?_) (fun c16 => ?_)
    · rw [b2i_0] at c16
      refine ic_0 dX9_canPour_43 ?_
      refine wp_iretz dX9_canPour_44 rfl (by omega) ?_
      exact qv hQ (by first | exact b2i_t (by omega) | exact b2i_f (by omega))
    · rw [b2i_n0] at c16
      refine il_2 dX9_canPour_19 ?_
      refine wp_if_eq 43 dX9_canPour_20 rfl (fun c20 => ?_) (fun c20 => ?_)
      · refine ic_0 dX9_canPour_43 ?_
        refine wp_iretz dX9_canPour_44 rfl (by omega) ?_
        exact qv hQ (by first | exact b2i_t (by omega) | exact b2i_f (by omega))
      · refine al_0 dX9_canPour_23 ?_
        refine il_1 dX9_canPour_24 ?_
        have hh := ho p (by omega) (by omega)
        refine c_X9_73 dX9_canPour_25 rfl tt336 (Nat.le_of_ble_eq_true rfl) (by omega) ?_
        refine wX9_oilOf (by omega) (by omega) (by omega) ?_
        refine pv_i ?_
        refine il_2 dX9_canPour_28 ?_
        refine wp_iadd dX9_canPour_29 (by have hh := ho p (by omega) (by omega); exact r32 (by omega) (by omega)) ?_
        refine ic_0 dX9_canPour_30 ?_
        refine bi_99 dX9_canPour_31 ?_
        refine c_X9_69 dX9_canPour_33 rfl (Nat.le_of_ble_eq_true rfl) (by omega) ?_
        refine wX9_isIn (by omega) ?_
        refine pv_i ?_
        refine wp_if_eq 43 dX9_canPour_36 rfl (fun c36 => ?_) (fun c36 => ?_)
        · rw [b2i_0] at c36
          refine ic_0 dX9_canPour_43 ?_
          refine wp_iretz dX9_canPour_44 rfl (by omega) ?_
          exact qv hQ (by first | exact b2i_t (by omega) | exact b2i_f (by omega))
        · rw [b2i_n0] at c36
          refine ic_1 dX9_canPour_39 ?_
          refine wp_goto 44 dX9_canPour_40 rfl ?_
          refine wp_iretz dX9_canPour_44 rfl (by omega) ?_
          exact qv hQ (by first | exact b2i_t (by omega) | exact b2i_f (by omega))

theorem wX9_turned_4 {G : GT} {δ : Nat} {h hl : Nat → Int → Int} {b : Bool × Bool} {Q : V → Hp → Prop} {s : Int} (hδ : δ ≤ 1680) (d0 : 0 ≤ h 337 1) (d1 : h 337 1 ≤ 8) (hd : ∀ i : Int, 0 ≤ i → i < h 337 1 → 0 ≤ h 337 (29 + i) ∧ h 337 (29 + i) < 1024) (s0 : 0 ≤ s) (s1 : s < 2147483648) : ∀ (n : Nat) (v : Int) (d : Int), ((h 337 1 - d).toNat) < n → (0 ≤ d) → (d ≤ h 337 1) → (v = tuM (fun i => h 337 (29 + i)) s d.toNat) → (Q (vi (tuM (fun i => h 337 (29 + i)) s (h 337 1).toNat)) (HS h hl b)) → WP G δ 0 0 MX9_turned 4 [vr (336), vi s, vi v, vi d] [] (HS h hl b) Q := by
  intro n
  induction n with
  | zero => intro v d hlt; exact absurd hlt (Nat.not_lt_zero _)
  | succ n ih =>
    intro v d hlt e0 e1 hv hQ
    refine il_3 dX9_turned_4 ?_
    refine al_0 dX9_turned_5 ?_
    refine g_X9_7 (337) dX9_turned_6 rfl tt336 (rr9_0 tt336) (by omega) ?_
    refine ic_1 dX9_turned_9 ?_
    refine wp_iaload dX9_turned_10 tt337 (by omega) (by omega) ?_
    refine wp_icmp_ge 44 dX9_turned_11 rfl (fun c11 => ?_) (fun c11 => ?_)
    · have e : d = h 337 1 := by omega
      subst e
      refine il_2 dX9_turned_44 ?_
      refine wp_ireti dX9_turned_45 rfl ?_
      exact qv hQ hv.symm
    · refine il_2 dX9_turned_14 ?_
      refine il_1 dX9_turned_15 ?_
      refine il_3 dX9_turned_16 ?_
      refine c_X9_248 dX9_turned_17 rfl (Nat.le_of_ble_eq_true rfl) (by omega) ?_
      refine wX9_has (by omega) s0 s1 (by omega) (by omega) ?_
      refine pv_i ?_
      refine wp_if_eq 35 dX9_turned_20 rfl (fun c20 => ?_) (fun c20 => ?_)
      · rw [b2i_0] at c20
        refine ic_0 dX9_turned_35 ?_
        refine wp_ixor dX9_turned_36 ?_
        refine is_2 dX9_turned_37 rfl (by decide) ?_
        refine ii_3 dX9_turned_38 rfl (by decide) ⟨by decide, by decide⟩ (r32 (by omega) (by omega)) ?_
        refine wp_goto 4 dX9_turned_41 rfl ?_
        exact ih _ (d + 1) (by omega) (by omega) (by omega) (by rw [tuM_s e0, hv]; simp [c20]) hQ
      · rw [b2i_n0] at c20
        refine al_0 dX9_turned_23 ?_
        refine g_X9_7 (337) dX9_turned_24 rfl tt336 (rr9_0 tt336) (by omega) ?_
        refine bi_29 dX9_turned_27 ?_
        refine il_3 dX9_turned_29 ?_
        refine wp_iadd dX9_turned_30 (r32 (by omega) (by omega)) ?_
        refine wp_iaload dX9_turned_31 tt337 (by omega) (by omega) ?_
        refine wp_goto 36 dX9_turned_32 rfl ?_
        refine wp_ixor dX9_turned_36 ?_
        refine is_2 dX9_turned_37 rfl (by decide) ?_
        refine ii_3 dX9_turned_38 rfl (by decide) ⟨by decide, by decide⟩ (r32 (by omega) (by omega)) ?_
        refine wp_goto 4 dX9_turned_41 rfl ?_
        exact ih _ (d + 1) (by omega) (by omega) (by omega) (by rw [tuM_s e0, hv]; simp [c20]) hQ

theorem wX9_turned {G : GT} {δ : Nat} {h hl : Nat → Int → Int} {b : Bool × Bool} {Q : V → Hp → Prop} {s : Int} (hδ : δ ≤ 1680) (d0 : 0 ≤ h 337 1) (d1 : h 337 1 ≤ 8) (hd : ∀ i : Int, 0 ≤ i → i < h 337 1 → 0 ≤ h 337 (29 + i) ∧ h 337 (29 + i) < 1024) (s0 : 0 ≤ s) (s1 : s < 2147483648) (hQ : Q (vi (tuM (fun i => h 337 (29 + i)) s (h 337 1).toNat)) (HS h hl b)) : WP G δ 0 0 MX9_turned 0 [vr (336), vi s, vn, vn] [] (HS h hl b) Q := by
  refine ic_0 dX9_turned_0 ?_
  refine is_2 dX9_turned_1 rfl (by decide) ?_
  refine ic_0 dX9_turned_2 ?_
  refine is_3 dX9_turned_3 rfl (by decide) ?_
  exact wX9_turned_4 hδ d0 d1 hd s0 s1 _ 0 0 (Nat.lt_succ_self _) (by omega) d0 rfl hQ

theorem wX9_isTurned_2 {G : GT} {δ : Nat} {h hl : Nat → Int → Int} {b : Bool × Bool} {Q : V → Hp → Prop} {a x : Int} (hδ : δ ≤ 1660) (d0 : 0 ≤ h 337 1) (d1 : h 337 1 ≤ 8) (hd : ∀ i : Int, 0 ≤ i → i < h 337 1 → 0 ≤ h 337 (29 + i) ∧ h 337 (29 + i) < 1024) (a0 : 0 ≤ a) (a1 : a < 2147483647) : ∀ (n : Nat) (s : Int), ((s + 1).toNat) < n → (-1 ≤ s) → (s ≤ a) → (∀ i : Int, s < i → i ≤ a → (fun s => band s (bxor a (-1)) == 0 && tuM (fun i => h 337 (29 + i)) s (h 337 1).toNat == x) i = false) → (Q (vi (if anyN (fun s => band s (bxor a (-1)) == 0 && tuM (fun i => h 337 (29 + i)) s (h 337 1).toNat == x) (a + 1).toNat then 1 else 0)) (HS h hl b)) → WP G δ 0 0 MX9_isTurned 2 [vr (336), vi a, vi x, vi s] [] (HS h hl b) Q := by
  intro n
  induction n with
  | zero => intro s hlt; exact absurd hlt (Nat.not_lt_zero _)
  | succ n ih =>
    intro s hlt s0 s1 hs hQ
    refine il_3 dX9_isTurned_2 ?_
    refine wp_if_lt 31 dX9_isTurned_3 rfl (fun c3 => ?_) (fun c3 => ?_)
    · refine ic_0 dX9_isTurned_31 ?_
      refine wp_iretz dX9_isTurned_32 rfl (by omega) ?_
      refine qv hQ ?_
      rw [anyN_f (fun i i0 i1 => hs i (by omega) (by omega))]; rfl
    · refine il_3 dX9_isTurned_6 ?_
      refine il_1 dX9_isTurned_7 ?_
      refine ic_m1 dX9_isTurned_8 ?_
      refine wp_ixor dX9_isTurned_9 ?_
      refine wp_iand dX9_isTurned_10 ?_
      refine wp_if_ne 25 dX9_isTurned_11 rfl (fun c11 => ?_) (fun c11 => ?_)
      · refine ii_3 dX9_isTurned_25 rfl (by decide) ⟨by decide, by decide⟩ (r32 (by omega) (by omega)) ?_
        refine wp_goto 2 dX9_isTurned_28 rfl ?_
        refine ih (s - 1) (by omega) (by omega) (by omega) (fun i i0 i1 => ?_) hQ
        by_cases e : i = s
        · subst e; first | simp [c11, c20] | simp [c11]
        · exact hs i (by omega) i1
      · refine al_0 dX9_isTurned_14 ?_
        refine il_3 dX9_isTurned_15 ?_
        refine c_X9_393 dX9_isTurned_16 rfl tt336 (Nat.le_of_ble_eq_true rfl) (by omega) ?_
        refine wX9_turned (by omega) d0 d1 hd (by omega) (by omega) ?_
        refine pv_i ?_
        refine il_2 dX9_isTurned_19 ?_
        refine wp_icmp_ne 25 dX9_isTurned_20 rfl (fun c20 => ?_) (fun c20 => ?_)
        · refine ii_3 dX9_isTurned_25 rfl (by decide) ⟨by decide, by decide⟩ (r32 (by omega) (by omega)) ?_
          refine wp_goto 2 dX9_isTurned_28 rfl ?_
          refine ih (s - 1) (by omega) (by omega) (by omega) (fun i i0 i1 => ?_) hQ
          by_cases e : i = s
          · subst e; first | simp [c11, c20] | simp [c11]
          · exact hs i (by omega) i1
        · refine ic_1 dX9_isTurned_23 ?_
          refine wp_iretz dX9_isTurned_24 rfl (by omega) ?_
          refine qv hQ ?_
          rw [anyN_t (i := s) (by omega) (by omega) (by simp [c11, c20])]; rfl

theorem wX9_isTurned {G : GT} {δ : Nat} {h hl : Nat → Int → Int} {b : Bool × Bool} {Q : V → Hp → Prop} {a x : Int} (hδ : δ ≤ 1660) (d0 : 0 ≤ h 337 1) (d1 : h 337 1 ≤ 8) (hd : ∀ i : Int, 0 ≤ i → i < h 337 1 → 0 ≤ h 337 (29 + i) ∧ h 337 (29 + i) < 1024) (a0 : 0 ≤ a) (a1 : a < 2147483647) (hQ : Q (vi (if anyN (fun s => band s (bxor a (-1)) == 0 && tuM (fun i => h 337 (29 + i)) s (h 337 1).toNat == x) (a + 1).toNat then 1 else 0)) (HS h hl b)) : WP G δ 0 0 MX9_isTurned 0 [vr (336), vi a, vi x, vn] [] (HS h hl b) Q := by
  refine il_1 dX9_isTurned_0 ?_
  refine is_3 dX9_isTurned_1 rfl (by decide) ?_
  exact wX9_isTurned_2 hδ d0 d1 hd a0 a1 _ a (Nat.lt_succ_self _) (by omega) (by omega) (fun i i0 i1 => by omega) hQ
