/-! bills of the model: all codes -/
section CODE
variable {F : Int → Int → Int} {O a a' : Int → Int} {D : Nat}
def rkN (D : Nat) : Nat → Nat
  | 0 => 0
  | d + 1 => rkN D d + if D.testBit d = true then 1 else 0
theorem rk_t {d : Nat} (q : D.testBit d = true) : rkN D (d + 1) = rkN D d + 1 := by show rkN D d + _ = _; rw [if_pos q]
theorem rk_f {d : Nat} (q : ¬ D.testBit d = true) : rkN D (d + 1) = rkN D d := by show rkN D d + _ = _; rw [if_neg q]; rfl
theorem rk_pc : ∀ D : Nat, D < 256 → pc (D : Int) = (rkN D 8 : Nat) ∧ rkN D 8 ≤ 8 := by decide +kernel
theorem rk_le : ∀ d : Nat, rkN D d ≤ d
  | 0 => Nat.le_refl _
  | d + 1 => by have := rk_le d; unfold rkN; split <;> omega
theorem rk_mono {d : Nat} : ∀ m : Nat, rkN D d ≤ rkN D (d + m)
  | 0 => Nat.le_refl _
  | m + 1 => by have := rk_mono (d := d) m; show _ ≤ rkN D (d + m) + _; omega
theorem rk_8 {d : Nat} (hd : d < 8) (q : D.testBit d = true) : rkN D d + 1 ≤ rkN D 8 := by
  have z := rk_mono (D := D) (d := d + 1) (7 - d)
  rw [show d + 1 + (7 - d) = 8 by omega] at z
  have : rkN D (d + 1) = rkN D d + 1 := by show rkN D d + _ = _; rw [if_pos q]
  omega
def aC (D c : Nat) (d : Int) : Int := ((c / 4 ^ (rkN D 8 - 1 - rkN D d.toNat) % 4 : Nat) : Int)
theorem aC_R {c : Nat} {d : Int} : 0 ≤ aC D c d ∧ aC D c d < 4 := by unfold aC; omega
def ccN (D : Nat) (a : Int → Int) : Nat → Nat
  | 0 => 0
  | d + 1 => if D.testBit d = true then ccN D a d * 4 + (a d).toNat else ccN D a d
theorem cc_lt (ha : ∀ d : Nat, d < 8 → D.testBit d = true → 0 ≤ a d ∧ a d < 4) : ∀ d : Nat, d ≤ 8 → ccN D a d < 4 ^ rkN D d
  | 0, _ => Nat.zero_lt_one
  | d + 1, h => by
    have ih := cc_lt ha d (by omega)
    unfold ccN rkN
    by_cases q : D.testBit d = true
    · rw [if_pos q, if_pos q, Nat.pow_succ]
      have := ha d (by omega) q
      omega
    · rw [if_neg q, if_neg q]; exact ih
theorem cc_t {d : Nat} (q : D.testBit d = true) : ccN D a (d + 1) = ccN D a d * 4 + (a d).toNat := by show (if _ then _ else _) = _; rw [if_pos q]
theorem cc_f {d : Nat} (q : ¬ D.testBit d = true) : ccN D a (d + 1) = ccN D a d := by show (if _ then _ else _) = _; rw [if_neg q]
/-- a code's own assignment has that code -/
theorem cc_aC {c : Nat} (hc : c < 4 ^ rkN D 8) : ∀ d : Nat, d ≤ 8 → ccN D (aC D c) d = c / 4 ^ (rkN D 8 - rkN D d)
  | 0, _ => (Nat.div_eq_of_lt hc).symm
  | d + 1, h => by
    have ih := cc_aC hc d (by omega)
    by_cases q : D.testBit d = true
    · have r := rk_8 (by omega) q
      have e : rkN D (d + 1) = rkN D d + 1 := by show rkN D d + _ = _; rw [if_pos q]
      show (if D.testBit d = true then ccN D (aC D c) d * 4 + (aC D c d).toNat else ccN D (aC D c) d) = _
      rw [if_pos q, ih, e]
      unfold aC
      rw [Int.toNat_natCast, Int.toNat_natCast, show rkN D 8 - (rkN D d + 1) = rkN D 8 - 1 - rkN D d by omega, show rkN D 8 - rkN D d = rkN D 8 - 1 - rkN D d + 1 by omega, Nat.pow_succ, ← Nat.div_div_eq_div_mul]
      omega
    · have e : rkN D (d + 1) = rkN D d := by show rkN D d + _ = _; rw [if_neg q]; rfl
      show (if D.testBit d = true then ccN D (aC D c) d * 4 + (aC D c d).toNat else ccN D (aC D c) d) = _
      rw [if_neg q, ih, e]
theorem cc_dv (ha : ∀ d : Nat, d < 8 → D.testBit d = true → 0 ≤ a d ∧ a d < 4) (d : Nat) : ∀ m : Nat, d + m ≤ 8 → ccN D a (d + m) / 4 ^ (rkN D (d + m) - rkN D d) = ccN D a d
  | 0, _ => by rw [Nat.add_zero, Nat.sub_self]; exact Nat.div_one _
  | m + 1, h => by
    have ih := cc_dv ha d m (by omega)
    have mo := rk_mono (D := D) (d := d) m
    by_cases q : D.testBit (d + m) = true
    · have e : rkN D (d + (m + 1)) = rkN D (d + m) + 1 := rk_t q
      have f : ccN D a (d + (m + 1)) = ccN D a (d + m) * 4 + (a ((d + m : Nat) : Int)).toNat := cc_t q
      have := ha (d + m) (by omega) q
      rw [e, f, show rkN D (d + m) + 1 - rkN D d = (rkN D (d + m) - rkN D d) + 1 by omega, Nat.pow_succ, Nat.mul_comm (4 ^ (rkN D (d + m) - rkN D d)) 4, ← Nat.div_div_eq_div_mul, show (ccN D a (d + m) * 4 + (a ((d + m : Nat) : Int)).toNat) / 4 = ccN D a (d + m) by omega]
      exact ih
    · have e : rkN D (d + (m + 1)) = rkN D (d + m) := rk_f q
      have f : ccN D a (d + (m + 1)) = ccN D a (d + m) := cc_f q
      rw [e, f]; exact ih
/-- an assignment's code gives the assignment back -/
theorem aC_cc (ha : ∀ d : Nat, d < 8 → D.testBit d = true → 0 ≤ a d ∧ a d < 4) {d : Nat} (hd : d < 8) (q : D.testBit d = true) : aC D (ccN D a 8) d = a d := by
  have z := cc_dv ha (d + 1) (7 - d) (by omega)
  have r := rk_8 hd q
  have e : rkN D (d + 1) = rkN D d + 1 := by show rkN D d + _ = _; rw [if_pos q]
  have f : ccN D a (d + 1) = ccN D a d * 4 + (a d).toNat := by show (if _ then _ else _) = _; rw [if_pos q]
  have v := ha d hd q
  rw [show d + 1 + (7 - d) = 8 by omega, e, f] at z
  unfold aC
  rw [Int.toNat_natCast, show rkN D 8 - 1 - rkN D d = rkN D 8 - (rkN D d + 1) by omega, z]
  omega
def spN (D : Nat) (a : Int → Int) (d : Nat) : Int := sumN (fun d => if D.testBit d.toNat = true then a d * dgI d else 0) d
theorem dg_n : ∀ d : Nat, d < 8 → dgI (d : Int) = ((4 ^ (7 - d) : Nat) : Int) ∧ ((4 ^ (8 - d) : Nat) : Int) = 4 * dgI (d : Int) ∧ (4 ^ (8 - (d + 1)) : Nat) = dgI (d : Int) := by decide +kernel
theorem sp_lex (ha : ∀ d : Nat, d < 8 → D.testBit d = true → 0 ≤ a d ∧ a d < 4) (ha' : ∀ d : Nat, d < 8 → D.testBit d = true → 0 ≤ a' d ∧ a' d < 4) : ∀ d : Nat, d ≤ 8 → (ccN D a d < ccN D a' d → spN D a d + (4 ^ (8 - d) : Nat) ≤ spN D a' d) ∧ (ccN D a d = ccN D a' d → spN D a d = spN D a' d)
  | 0, _ => ⟨fun h => absurd h (Nat.lt_irrefl _), fun _ => rfl⟩
  | d + 1, h => by
    obtain ⟨i1, i2⟩ := sp_lex ha ha' d (by omega)
    have dn := dg_n d (by omega)
    have dr := dgI_R (d := (d : Int)) (by omega) (by omega)
    have s1 : ∀ a : Int → Int, spN D a (d + 1) = spN D a d + (if D.testBit d = true then a d * dgI d else 0) := fun a => rfl
    rw [s1 a, s1 a', dn.2.2]
    rw [dn.2.1] at i1
    show ((if D.testBit d = true then ccN D a d * 4 + (a d).toNat else ccN D a d) < (if D.testBit d = true then ccN D a' d * 4 + (a' d).toNat else ccN D a' d) → _) ∧ ((if D.testBit d = true then ccN D a d * 4 + (a d).toNat else ccN D a d) = (if D.testBit d = true then ccN D a' d * 4 + (a' d).toNat else ccN D a' d) → _)
    by_cases q : D.testBit d = true
    · simp only [if_pos q]
      have r := ha d (by omega) q
      have r' := ha' d (by omega) q
      have m1 : ∀ x : Int, 0 ≤ x → x < 4 → x * dgI d = 0 ∧ x = 0 ∨ x * dgI d = dgI d ∧ x = 1 ∨ x * dgI d = 2 * dgI d ∧ x = 2 ∨ x * dgI d = 3 * dgI d ∧ x = 3 := fun x x0 x4 => by
        have : x = 0 ∨ x = 1 ∨ x = 2 ∨ x = 3 := by omega
        rcases this with e | e | e | e <;> subst e <;> simp
      have u := m1 _ r.1 r.2
      have u' := m1 _ r'.1 r'.2
      refine ⟨fun z => ?_, fun z => ?_⟩
      · by_cases w : ccN D a d < ccN D a' d
        · have := i1 w; omega
        · have := i2 (by omega); omega
      · have e : ccN D a d = ccN D a' d := by omega
        have := i2 e; omega
    · simp only [if_neg q]
      refine ⟨fun z => ?_, fun z => ?_⟩
      · have := i1 z; omega
      · have := i2 z; omega
/-- a digit out of a cost -/
theorem dg_v : dgI 0 = 16384 ∧ dgI 1 = 4096 ∧ dgI 2 = 1024 ∧ dgI 3 = 256 ∧ dgI 4 = 64 ∧ dgI 5 = 16 ∧ dgI 6 = 4 ∧ dgI 7 = 1 := by decide +kernel
theorem dg_out {t : Int} {b : Int → Int} (hb : ∀ d : Int, 0 ≤ d → d < 8 → 0 ≤ b d ∧ b d < 4) {w : Int} (w0 : 0 ≤ w) (w8 : w < 8) : (65536 * t + sumN (fun d => b d * dgI d) 8) / dgI w % 4 = b w := by
  obtain ⟨e0, e1, e2, e3, e4, e5, e6, e7⟩ := dg_v
  have s : sumN (fun d => b d * dgI d) 8 = 0 + b 0 * dgI 0 + b 1 * dgI 1 + b 2 * dgI 2 + b 3 * dgI 3 + b 4 * dgI 4 + b 5 * dgI 5 + b 6 * dgI 6 + b 7 * dgI 7 := rfl
  rw [s, e0, e1, e2, e3, e4, e5, e6, e7]
  have h0 := hb 0 (by omega) (by omega); have h1 := hb 1 (by omega) (by omega); have h2 := hb 2 (by omega) (by omega); have h3 := hb 3 (by omega) (by omega)
  have h4 := hb 4 (by omega) (by omega); have h5 := hb 5 (by omega) (by omega); have h6 := hb 6 (by omega) (by omega); have h7 := hb 7 (by omega) (by omega)
  have c : w = 0 ∨ w = 1 ∨ w = 2 ∨ w = 3 ∨ w = 4 ∨ w = 5 ∨ w = 6 ∨ w = 7 := by omega
  rcases c with e | e | e | e | e | e | e | e <;> subst e
  · rw [e0]; omega
  · rw [e1]; omega
  · rw [e2]; omega
  · rw [e3]; omega
  · rw [e4]; omega
  · rw [e5]; omega
  · rw [e6]; omega
  · rw [e7]; omega
def totC (F : Int → Int → Int) (D c : Nat) : Int := bS (fun d => F d (aC D c d)) D
def VALm (F : Int → Int → Int) (O : Int → Int) (P : Int) (D c : Nat) : Prop := VALc F O P D (aC D c)
def BestC (F : Int → Int → Int) (O : Int → Int) (P : Int) (D c : Nat) : Prop := c < 4 ^ rkN D 8 ∧ VALm F O P D c ∧ ∀ c' : Nat, c' < 4 ^ rkN D 8 → VALm F O P D c' → totC F D c < totC F D c' ∨ (totC F D c = totC F D c' ∧ c ≤ c')
def BillR (F : Int → Int → Int) (O : Int → Int) (P : Int) (D : Nat) (w v : Int) : Prop := ((∀ c : Nat, c < 4 ^ rkN D 8 → ¬ VALm F O P D c) ∧ v = -2) ∨ ∃ c, BestC F O P D c ∧ v = if w = -1 then totC F D c else aC D c w
theorem BillR_u {P w v v' : Int} (h : BillR F O P D w v) (h' : BillR F O P D w v') : v = v' := by
  rcases h with ⟨n, e⟩ | ⟨c, b, e⟩ <;> rcases h' with ⟨n', e'⟩ | ⟨c', b', e'⟩
  · omega
  · exact absurd b'.2.1 (n c' b'.1)
  · exact absurd b.2.1 (n' c b.1)
  · have x := b.2.2 c' b'.1 b'.2.1
    have y := b'.2.2 c b.1 b.2.1
    have : c = c' := by omega
    subst this
    rw [e, e']
theorem VALc_c {P : Int} (e : ∀ d : Int, 0 ≤ d → d < 8 → D.testBit d.toNat = true → a' d = a d) (h : VALc F O P D a) : VALc F O P D a' := ⟨fun d d0 d1 q => by rw [e d d0 d1 q]; exact h.1 d d0 d1 q, fun p p0 p1 => by
  rw [bS_c (g' := fun d => if a d = p then F d p else 0) (fun d d0 d1 q => by rw [e d d0 d1 q])]; exact h.2 p p0 p1⟩
/-- what the class's table comes to, in codes -/
theorem BV_code (hF : ∀ d p, 0 ≤ F d p ∧ F d p ≤ 9) {P v : Int} (P4 : P ≤ 4) (h : BV F O P D v) : (¬ v < 268435456 → ∀ c : Nat, c < 4 ^ rkN D 8 → ¬ VALm F O P D c) ∧ (v < 268435456 → ∃ c, BestC F O P D c ∧ v / 65536 = totC F D c ∧ ∀ w : Int, 0 ≤ w → w < 8 → D.testBit w.toNat = true → v / dgI w % 4 = aC D c w) := by
  obtain ⟨v1, v2, v3⟩ := h
  refine ⟨fun q c hc z => ?_, fun q => ?_⟩
  · have := v3 _ z
    have := (COST_R hF P4 z).2
    omega
  · rcases v2 with e | ⟨a, va, ev⟩
    · omega
    · have ha : ∀ d : Nat, d < 8 → D.testBit d = true → 0 ≤ a d ∧ a d < 4 := fun d hd q => by have := va.1 d (by omega) (by omega) q; omega
      have back : ∀ d : Int, 0 ≤ d → d < 8 → D.testBit d.toNat = true → aC D (ccN D a 8) d = a d := fun d d0 d1 q => by
        obtain ⟨k, rfl⟩ := Int.eq_ofNat_of_zero_le d0
        exact aC_cc ha (by omega) q
      have clt := cc_lt ha 8 (by omega)
      have vc : VALm F O P D (ccN D a 8) := VALc_c back va
      have t0 : totC F D (ccN D a 8) = bS (fun d => F d (a d)) D := bS_c (fun d d0 d1 q => by rw [back d d0 d1 q])
      have sp := spr_R (U := D) (a := a) (fun d d0 d1 q => by have := va.1 d d0 d1 q; omega)
      have co : COSTc F D a = 65536 * bS (fun d => F d (a d)) D + bS (fun d => a d * dgI d) D := bS_PR
      refine ⟨ccN D a 8, ⟨clt, vc, fun c' hc' vc' => ?_⟩, by omega, fun w w0 w1 q => ?_⟩
      · have m := v3 _ vc'
        have co' : COSTc F D (aC D c') = 65536 * totC F D c' + bS (fun d => aC D c' d * dgI d) D := bS_PR
        have sp' := spr_R (U := D) (a := aC D c') (fun d d0 d1 q => aC_R)
        by_cases tt : totC F D (ccN D a 8) < totC F D c'
        · exact Or.inl tt
        · refine Or.inr ⟨by omega, ?_⟩
          rcases Nat.lt_or_ge c' (ccN D a 8) with z | z
          · exfalso
            have y := (sp_lex (D := D) (a := aC D c') (a' := a) (fun d _ _ => aC_R) ha 8 (by omega)).1 (by rw [cc_aC hc' 8 (by omega), Nat.sub_self, Nat.pow_zero, Nat.div_one]; exact z)
            have s1 : spN D (aC D c') 8 = bS (fun d => aC D c' d * dgI d) D := rfl
            have s2 : spN D a 8 = bS (fun d => a d * dgI d) D := rfl
            have s3 : ((4 ^ (8 - 8) : Nat) : Int) = 1 := rfl
            omega
          · exact z
      · have z := dg_out (t := bS (fun d => F d (a d)) D) (b := fun d => if D.testBit d.toNat = true then a d else 0) (fun d d0 d1 => by
          by_cases q : D.testBit d.toNat = true
          · rw [if_pos q]; have := va.1 d d0 d1 q; omega
          · rw [if_neg q]; omega) w0 w1
        have s : bS (fun d => a d * dgI d) D = sumN (fun d => (if D.testBit d.toNat = true then a d else 0) * dgI d) 8 := sumN_c _ (fun d _ _ => by
          by_cases q : D.testBit d.toNat = true
          · rw [if_pos q, if_pos q]
          · rw [if_neg q, if_neg q, Int.zero_mul])
        rw [back w w0 w1 q, ev, co, s, z, if_pos q]
theorem BestC_ex {P : Int} {w : Int} : ∃ v, BillR F O P D w v := by
  classical
  by_cases h : ∃ c : Nat, c < 4 ^ rkN D 8 ∧ VALm F O P D c
  · have key : ∀ n : Nat, (∀ c : Nat, c < n → ¬ VALm F O P D c) ∨ ∃ c, c < n ∧ VALm F O P D c ∧ ∀ c' : Nat, c' < n → VALm F O P D c' → totC F D c < totC F D c' ∨ (totC F D c = totC F D c' ∧ c ≤ c') := by
      intro n
      induction n with
      | zero => exact Or.inl (fun c hc => absurd hc (Nat.not_lt_zero _))
      | succ n ih =>
        by_cases q : VALm F O P D n
        · rcases ih with ih | ⟨c, c1, c2, c3⟩
          · refine Or.inr ⟨n, by omega, q, fun c' h1 h2 => ?_⟩
            have : c' = n := by
              rcases Nat.lt_or_ge c' n with z | z
              · exact absurd h2 (ih c' z)
              · omega
            subst this; exact Or.inr ⟨rfl, Nat.le_refl _⟩
          · by_cases t : totC F D n < totC F D c
            · refine Or.inr ⟨n, by omega, q, fun c' h1 h2 => ?_⟩
              rcases Nat.lt_or_ge c' n with z | z
              · have := c3 c' z h2; omega
              · have : c' = n := by omega
                subst this; exact Or.inr ⟨rfl, Nat.le_refl _⟩
            · refine Or.inr ⟨c, by omega, c2, fun c' h1 h2 => ?_⟩
              rcases Nat.lt_or_ge c' n with z | z
              · exact c3 c' z h2
              · have : c' = n := by omega
                subst this; omega
        · rcases ih with ih | ⟨c, c1, c2, c3⟩
          · refine Or.inl (fun c hc => ?_)
            rcases Nat.lt_or_ge c n with z | z
            · exact ih c z
            · rw [show c = n by omega]; exact q
          · refine Or.inr ⟨c, by omega, c2, fun c' h1 h2 => ?_⟩
            rcases Nat.lt_or_ge c' n with z | z
            · exact c3 c' z h2
            · rw [show c' = n by omega] at h2; exact absurd h2 q
    rcases key (4 ^ rkN D 8) with k | ⟨c, c1, c2, c3⟩
    · obtain ⟨c, c1, c2⟩ := h
      exact absurd c2 (k c c1)
    · exact ⟨_, Or.inr ⟨c, ⟨c1, c2, c3⟩, rfl⟩⟩
  · exact ⟨-2, Or.inl ⟨fun c hc z => h ⟨c, hc, z⟩, rfl⟩⟩
end CODE
noncomputable def aBill (L : Laws) (R : Int → Int) (D w : Int) : Int := if (0 ≤ D ∧ D < nS R) ∧ (w = -1 ∨ (0 ≤ w ∧ w < R 1 ∧ tb D w = true)) then Classical.choose (BestC_ex (F := FN L R) (O := ON R) (P := R 0) (D := D.toNat) (w := w)) else -2
theorem aBill_e {L : Laws} {R : Int → Int} {D w v : Int} (h : (0 ≤ D ∧ D < nS R) ∧ (w = -1 ∨ (0 ≤ w ∧ w < R 1 ∧ tb D w = true))) (b : BillR (FN L R) (ON R) (R 0) D.toNat w v) : aBill L R D w = v := by
  unfold aBill
  rw [if_pos h]
  exact BillR_u (Classical.choose_spec (BestC_ex (F := FN L R) (O := ON R) (P := R 0) (D := D.toNat) (w := w))) b
theorem aBill_n {L : Laws} {R : Int → Int} {D w : Int} (h : ¬ ((0 ≤ D ∧ D < nS R) ∧ (w = -1 ∨ (0 ≤ w ∧ w < R 1 ∧ tb D w = true)))) : aBill L R D w = -2 := by
  unfold aBill
  rw [if_neg h]
theorem dgt : ∀ n : Nat, n < 8 → ∀ c : Nat, c < 65536 → band (shr (c : Int) (2 * (n : Int))) 3 = ((c / 4 ^ n % 4 : Nat) : Int) := fun n hn c hc => by
  rw [show (2 * (n : Int)) = ((2 * n : Nat) : Int) by omega, shr_nn (by omega) (by omega) (by omega)]
  have e : ((c : Int) / 2 ^ (2 * n)) = ((c / 4 ^ n : Nat) : Int) := by
    rw [show (4 : Nat) ^ n = 2 ^ (2 * n) from (Nat.pow_mul 2 2 n).symm]
    rw [Int.natCast_ediv]; norm_cast
  have l : c / 4 ^ n ≤ c := Nat.div_le_self _ _
  rw [e]
  have := Nat.and_two_pow_sub_one_eq_mod (c / 4 ^ n) 2
  generalize c / 4 ^ n = x at l this ⊢
  rw [band_nn (by omega) (by omega) (by omega) (by omega), Int.toNat_natCast]
  rw [show ((3 : Int).toNat) = 2 ^ 2 - 1 from rfl, this]
theorem p4_e : ∀ k : Nat, k < 9 → shl 1 (2 * (k : Int)) = ((4 ^ k : Nat) : Int) ∧ 4 ^ k ≤ 65536 := by decide +kernel
theorem rk_shr : ∀ D : Nat, D < 256 → ∀ w : Nat, w < 8 → pc (shr (D : Int) (w : Int)) = (rkN D 8 : Int) - rkN D w ∧ 0 ≤ shr (D : Int) (w : Int) ∧ shr (D : Int) (w : Int) < 1024 := by decide +kernel
def pS (g : Int → Int) (D : Nat) (n : Nat) : Int := sumN (fun d => if D.testBit d.toNat = true then g d else 0) n
theorem pS_t {g : Int → Int} {D d : Nat} (q : D.testBit d = true) : pS g D (d + 1) = pS g D d + g d := by show pS g D d + (if D.testBit ((d : Int)).toNat = true then g d else 0) = _; rw [Int.toNat_natCast, if_pos q]
theorem pS_f {g : Int → Int} {D d : Nat} (q : ¬ D.testBit d = true) : pS g D (d + 1) = pS g D d := by show pS g D d + (if D.testBit ((d : Int)).toNat = true then g d else 0) = _; rw [Int.toNat_natCast, if_neg q]; omega
theorem pS_R {g : Int → Int} {D : Nat} (hg : ∀ d, 0 ≤ g d ∧ g d ≤ 9) (n : Nat) : 0 ≤ pS g D n ∧ pS g D n ≤ 9 * n := sumN_R n (fun i _ _ => by have := hg i; split <;> omega)
theorem pS_m {g : Int → Int} {D n : Nat} (hg : ∀ d, 0 ≤ g d ∧ g d ≤ 9) : ∀ m : Nat, pS g D n ≤ pS g D (n + m)
  | 0 => Int.le_refl _
  | m + 1 => by
    have a := pS_m (D := D) (n := n) hg m
    have c := hg ((n + m : Nat) : Int)
    by_cases q : D.testBit (n + m) = true
    · have := pS_t (g := g) q; rw [show n + (m + 1) = n + m + 1 by omega]; omega
    · have := pS_f (g := g) q; rw [show n + (m + 1) = n + m + 1 by omega]; omega
theorem pS_8 {g : Int → Int} {D n : Nat} (h : D < 2 ^ n) (n8 : n ≤ 8) : pS g D n = bS g D := by
  have z := sumN_spl (f := fun d => if D.testBit d.toNat = true then g d else 0) (a := n) (8 - n)
  rw [show n + (8 - n) = 8 by omega, sumN_z (8 - n) (fun i i0 i1 => by
    rw [if_neg]
    rw [Nat.testBit_lt_two_pow (Nat.lt_of_lt_of_le h (Nat.pow_le_pow_right (by decide) (show n ≤ ((n : Int) + i).toNat by omega)))]
    decide)] at z
  unfold bS
  rw [z]
  exact (Int.add_zero _).symm
theorem MT.u {h : Nat → Int → Int} {R : Int → Int} {L : Laws} {k x : Int} (M : MT h R L) : MT (up h 347 k x) R L := ⟨by rw [← M.1]; funext j; exact up_o (by decide), M.2.1, by
  have e : up h 347 k x 339 = h 339 := by funext j; exact up_o (by decide)
  rw [e]; exact M.2.2⟩
theorem BV_0le {F : Int → Int → Int} {O : Int → Int} {P v : Int} {D : Nat} (hF : ∀ d p, 0 ≤ F d p ∧ F d p ≤ 9) (P4 : P ≤ 4) (h : BV F O P D v) : 0 ≤ v := by
  rcases h.2.1 with e | ⟨a, va, e⟩
  · omega
  · have := COST_R hF P4 va; omega
