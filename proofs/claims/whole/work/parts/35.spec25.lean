/-! in lowest terms -/
def gI (u w : Int) : Int := (Nat.gcd u.toNat w.toNat : Nat)
def lowV (u w lo : Int) : Int := (if lo = 0 then u else w) / gI u w
theorem mulR {a c A B : Int} (a0 : 0 ≤ a) (a1 : a ≤ A) (c0 : 0 ≤ c) (c1 : c ≤ B) : 0 ≤ a * c ∧ a * c ≤ A * B :=
  ⟨Int.mul_nonneg a0 c0, Int.mul_le_mul a1 c1 c0 (by omega)⟩
theorem gI_pos {u w : Int} (w0 : 0 < w) : 0 < gI u w := by
  unfold gI
  have : 0 < Nat.gcd u.toNat w.toNat := Nat.gcd_pos_of_pos_right _ (by omega)
  omega
theorem eu_half {c l : Nat} (h : l ≤ c) (l0 : 0 < l) : 2 * (l * (c % l)) ≤ c * l := by
  have h1 : c % l < l := Nat.mod_lt _ l0
  have h2 : c % l + l ≤ c := by
    have d := Nat.div_add_mod c l
    have q : 1 ≤ c / l := Nat.div_pos h l0
    have : l * 1 ≤ l * (c / l) := Nat.mul_le_mul_left l q
    omega
  have h3 : 2 * (c % l) ≤ c := by omega
  calc 2 * (l * (c % l)) = l * (2 * (c % l)) := by rw [Nat.mul_left_comm]
    _ ≤ l * c := Nat.mul_le_mul_left l h3
    _ = c * l := Nat.mul_comm _ _
/-- so many rounds are enough -/
def euB (c l : Nat) (i : Int) : Prop := ∃ k : Nat, c * l < 2 ^ k ∧ ((l ≤ c ∧ (k : Int) + i ≤ 199) ∨ (i = 0 ∧ k ≤ 190))
theorem euB_s {c l : Nat} {i : Int} (h : euB c l i) (l0 : 0 < l) (c0 : 0 < c) (i0 : 0 ≤ i) : euB l (c % l) (i + 1) ∧ i < 199 := by
  obtain ⟨k, hk, h⟩ := h
  by_cases q : l ≤ c
  · have e := eu_half q l0
    have cl : 0 < c * l := Nat.mul_pos c0 l0
    have k0 : 0 < k := by
      rcases k with _ | k
      · simp at hk; omega
      · omega
    obtain ⟨j, rfl⟩ : ∃ j, k = j + 1 := ⟨k - 1, by omega⟩
    rw [Nat.pow_succ] at hk
    refine ⟨⟨j, by omega, Or.inl ⟨Nat.le_of_lt (Nat.mod_lt _ l0), by omega⟩⟩, by omega⟩
  · have e : c % l = c := Nat.mod_eq_of_lt (by omega)
    rw [e]
    refine ⟨⟨k, by rw [Nat.mul_comm]; exact hk, Or.inl ⟨by omega, by omega⟩⟩, by omega⟩
def powN (s : Int) : Nat → Int
  | 0 => 1
  | k + 1 => powN s k * s
theorem powN_s {s p : Int} (h : 0 ≤ p) : powN s (p + 1).toNat = powN s p.toNat * s := by
  obtain ⟨n, rfl⟩ := Int.eq_ofNat_of_zero_le h
  rfl
theorem powN_M {s c : Int} (s0 : 0 ≤ s) (s1 : s ≤ c) : ∀ k : Nat, 0 ≤ powN s k ∧ powN s k ≤ powN c k
  | 0 => by simp [powN]
  | k + 1 => by
    have ih := powN_M s0 s1 k
    unfold powN
    exact mulR ih.1 ih.2 s0 s1
theorem pow100 : ∀ k : Nat, k < 7 → 1 ≤ powN 100 k ∧ powN 100 k ≤ 1000000000000 ∧ (k < 5 → powN 100 k ≤ 100000000) := by decide
theorem powN_R {s : Int} (s0 : 0 ≤ s) (s1 : s ≤ 100) {k : Nat} (hk : k < 7) : 0 ≤ powN s k ∧ powN s k ≤ 1000000000000 ∧ (k < 5 → powN s k ≤ 100000000) := by
  have a := powN_M s0 s1 k
  have c := pow100 k hk
  exact ⟨a.1, by omega, fun z => by have := c.2.2 z; omega⟩
def warN (s w : Int) : Nat → Int
  | 0 => 0
  | k + 1 => warN s w k * 100 + w * powN s k
theorem warN_s {s w p : Int} (h : 0 ≤ p) : warN s w (p + 1).toNat = warN s w p.toNat * 100 + w * powN s p.toNat := by
  obtain ⟨n, rfl⟩ := Int.eq_ofNat_of_zero_le h
  rfl
def warB : Nat → Int
  | 0 => 0
  | k + 1 => warB k * 100 + 100 * powN 100 k
theorem warN_M {s w : Int} (s0 : 0 ≤ s) (s1 : s ≤ 100) (w0 : 0 ≤ w) (w1 : w ≤ 100) : ∀ k : Nat, 0 ≤ warN s w k ∧ warN s w k ≤ warB k
  | 0 => by simp [warN, warB]
  | k + 1 => by
    have ih := warN_M s0 s1 w0 w1 k
    have p := powN_M s0 s1 k
    have z := mulR w0 w1 p.1 p.2
    unfold warN warB
    omega
theorem warB_R : ∀ k : Nat, k < 5 → warB k ≤ 400000000 := by decide
theorem warN_R {s w : Int} (s0 : 0 ≤ s) (s1 : s ≤ 100) (w0 : 0 ≤ w) (w1 : w ≤ 100) {k : Nat} (hk : k < 5) : 0 ≤ warN s w k ∧ warN s w k ≤ 400000000 := by
  have a := warN_M s0 s1 w0 w1 k
  have c := warB_R k hk
  omega
def beN (R : Int → Int) : Nat → Int × Int
  | 0 => (1, 1)
  | k + 1 => ((beN R k).1 * (if R (44 + 2 * (k : Int)) = 1 then 10 - R (21 + R (43 + 2 * (k : Int))) else R (21 + R (43 + 2 * (k : Int)))), (beN R k).2 * (if R (44 + 2 * (k : Int)) = 1 then R (21 + R (43 + 2 * (k : Int))) else 10 - R (21 + R (43 + 2 * (k : Int)))))
theorem beN_s {R : Int → Int} {p : Int} (h : 0 ≤ p) : beN R (p + 1).toNat = ((beN R p.toNat).1 * (if R (44 + 2 * p) = 1 then 10 - R (21 + R (43 + 2 * p)) else R (21 + R (43 + 2 * p))), (beN R p.toNat).2 * (if R (44 + 2 * p) = 1 then R (21 + R (43 + 2 * p)) else 10 - R (21 + R (43 + 2 * p)))) := by
  obtain ⟨n, rfl⟩ := Int.eq_ofNat_of_zero_le h
  rfl
theorem beN_M {R : Int → Int} (V : RV R) : ∀ k : Nat, (k : Int) ≤ R 6 → (0 ≤ (beN R k).1 ∧ (beN R k).1 ≤ powN 10 k) ∧ (0 ≤ (beN R k).2 ∧ (beN R k).2 ≤ powN 10 k)
  | 0, _ => by simp [beN, powN]
  | k + 1, h => by
    have ih := beN_M V k (by omega)
    have ve := V.ve k (by omega) (by omega)
    have sl := V.sl (R (43 + 2 * (k : Int))) ve.1 ve.2.1
    unfold beN powN
    dsimp only
    constructor
    · split
      · exact mulR ih.1.1 ih.1.2 (by omega) (by omega)
      · exact mulR ih.1.1 ih.1.2 (by omega) (by omega)
    · split
      · exact mulR ih.2.1 ih.2.2 (by omega) (by omega)
      · exact mulR ih.2.1 ih.2.2 (by omega) (by omega)
theorem pow10 : ∀ k : Nat, k < 9 → powN 10 k ≤ 100000000 := by decide
theorem beN_R {R : Int → Int} (V : RV R) (k : Nat) (h : (k : Int) ≤ R 6) : (0 ≤ (beN R k).1 ∧ (beN R k).1 ≤ 100000000) ∧ (0 ≤ (beN R k).2 ∧ (beN R k).2 ≤ 100000000) := by
  have a := beN_M V k h
  have c := pow10 k (by have := V.n; omega)
  omega
def warS (R : Int → Int) (p q : Int) : Int := (10 - R (21 + p)) * (10 - R (21 + q))
def warW (R : Int → Int) (p q : Int) : Int := (10 - R (21 + p)) * R (21 + q)
def isWarP (R : Int → Int) (p q n : Int) : Prop := (0 ≤ p ∧ p < R 0) ∧ (0 ≤ q ∧ q < R 0) ∧ p ≠ q ∧ 0 ≤ n ∧ n ≤ 4
def aWar (R : Int → Int) (p q n lo : Int) : Int := if (0 ≤ p ∧ p < R 0) ∧ (0 ≤ q ∧ q < R 0) ∧ p ≠ q ∧ 0 ≤ n ∧ n ≤ 4 then lowV (warN (warS R p q) (warW R p q) n.toNat) (powN 100 n.toNat) lo else -1
def aRest (R : Int → Int) (p q n lo : Int) : Int := if (0 ≤ p ∧ p < R 0) ∧ (0 ≤ q ∧ q < R 0) ∧ p ≠ q ∧ 0 ≤ n ∧ n ≤ 4 then lowV (powN (warS R p q) n.toNat) (powN 100 n.toNat) lo else -1
def aBelief (R : Int → Int) (lo : Int) : Int := if (beN R (R 6).toNat).1 + (beN R (R 6).toNat).2 = 0 then -1 else lowV (beN R (R 6).toNat).1 ((beN R (R 6).toNat).1 + (beN R (R 6).toNat).2) lo

theorem wX8_inLowest_9 {G : GT} {δ : Nat} {h hl : Nat → Int → Int} {b : Bool × Bool} {Q : V → Hp → Prop} {u w lo : Int} {un wn : Nat} (hδ : δ ≤ 1700) (eu : u = un) (ew : w = wn) (w0 : 0 < w) : ∀ (n : Nat) (c : Nat) (l : Nat) (i : Int) (c1 : V) (c2 : V), ((200 - i).toNat) < n → (0 ≤ i) → (0 < c) → (Nat.gcd l c = Nat.gcd un wn) → (euB c l i) → (Q (vl (lowV u w lo)) (HS h hl b)) → WP G δ 0 0 MX8_inLowest 9 [vl u, vn, vl w, vn, vi lo, vl c, vn, vl l, vn, vi i, c1, c2] [] (HS h hl b) Q := by
  intro n
  induction n with
  | zero => intro c l i c1 c2 hlt; exact absurd hlt (Nat.not_lt_zero _)
  | succ n ih =>
    intro c l i c1 c2 hlt i0 c0 hg hb hQ
    refine il_9 dX8_inLowest_9 ?_
    refine si_200 dX8_inLowest_11 ?_
    refine wp_icmp_ge 45 dX8_inLowest_14 rfl (fun c14 => ?_) (fun c14 => ?_)
    · have e1 : l = 0 := by
        by_cases z : l = 0
        · exact z
        · have := (euB_s hb (by omega) c0 i0).2; omega
      refine il_4 dX8_inLowest_45 ?_
      refine wp_if_eq 54 dX8_inLowest_47 rfl (fun c47 => ?_) (fun c47 => ?_)
      · refine ll_0 dX8_inLowest_54 ?_
        refine ls_9 dX8_inLowest_55 rfl (by decide) ?_
        refine ll_5 dX8_inLowest_57 ?_
        refine lc_0 dX8_inLowest_59 ?_
        refine wp_lcmp dX8_inLowest_60 ?_
        refine wp_if_ne 69 dX8_inLowest_61 rfl (fun c61 => ?_) (fun c61 => ?_)
        · rw [lcmp_z] at c61
          refine ll_9 dX8_inLowest_69 ?_
          refine ll_5 dX8_inLowest_71 ?_
          rw [e1, Nat.gcd_zero_left] at hg
          have eg : gI u w = c := by unfold gI; rw [eu, ew, Int.toNat_natCast, Int.toNat_natCast, ← hg]
          refine wp_ldivN dX8_inLowest_73 (by omega) (by omega) ?_
          refine wp_lret dX8_inLowest_74 rfl ?_
          refine qvl hQ ?_
          unfold lowV
          rw [eg]
          first | rw [if_pos (by omega)] | rw [if_neg (by omega)]
        · rw [lcmp_z] at c61; omega
      · refine ll_2 dX8_inLowest_50 ?_
        refine wp_goto 55 dX8_inLowest_51 rfl ?_
        refine ls_9 dX8_inLowest_55 rfl (by decide) ?_
        refine ll_5 dX8_inLowest_57 ?_
        refine lc_0 dX8_inLowest_59 ?_
        refine wp_lcmp dX8_inLowest_60 ?_
        refine wp_if_ne 69 dX8_inLowest_61 rfl (fun c61 => ?_) (fun c61 => ?_)
        · rw [lcmp_z] at c61
          refine ll_9 dX8_inLowest_69 ?_
          refine ll_5 dX8_inLowest_71 ?_
          rw [e1, Nat.gcd_zero_left] at hg
          have eg : gI u w = c := by unfold gI; rw [eu, ew, Int.toNat_natCast, Int.toNat_natCast, ← hg]
          refine wp_ldivN dX8_inLowest_73 (by omega) (by omega) ?_
          refine wp_lret dX8_inLowest_74 rfl ?_
          refine qvl hQ ?_
          unfold lowV
          rw [eg]
          first | rw [if_pos (by omega)] | rw [if_neg (by omega)]
        · rw [lcmp_z] at c61; omega
    · refine ll_7 dX8_inLowest_17 ?_
      refine lc_0 dX8_inLowest_19 ?_
      refine wp_lcmp dX8_inLowest_20 ?_
      refine wp_if_eq 45 dX8_inLowest_21 rfl (fun c21 => ?_) (fun c21 => ?_)
      · rw [lcmp_z] at c21
        have e1 : l = 0 := by omega
        refine il_4 dX8_inLowest_45 ?_
        refine wp_if_eq 54 dX8_inLowest_47 rfl (fun c47 => ?_) (fun c47 => ?_)
        · refine ll_0 dX8_inLowest_54 ?_
          refine ls_9 dX8_inLowest_55 rfl (by decide) ?_
          refine ll_5 dX8_inLowest_57 ?_
          refine lc_0 dX8_inLowest_59 ?_
          refine wp_lcmp dX8_inLowest_60 ?_
          refine wp_if_ne 69 dX8_inLowest_61 rfl (fun c61 => ?_) (fun c61 => ?_)
          · rw [lcmp_z] at c61
            refine ll_9 dX8_inLowest_69 ?_
            refine ll_5 dX8_inLowest_71 ?_
            rw [e1, Nat.gcd_zero_left] at hg
            have eg : gI u w = c := by unfold gI; rw [eu, ew, Int.toNat_natCast, Int.toNat_natCast, ← hg]
            refine wp_ldivN dX8_inLowest_73 (by omega) (by omega) ?_
            refine wp_lret dX8_inLowest_74 rfl ?_
            refine qvl hQ ?_
            unfold lowV
            rw [eg]
            first | rw [if_pos (by omega)] | rw [if_neg (by omega)]
          · rw [lcmp_z] at c61; omega
        · refine ll_2 dX8_inLowest_50 ?_
          refine wp_goto 55 dX8_inLowest_51 rfl ?_
          refine ls_9 dX8_inLowest_55 rfl (by decide) ?_
          refine ll_5 dX8_inLowest_57 ?_
          refine lc_0 dX8_inLowest_59 ?_
          refine wp_lcmp dX8_inLowest_60 ?_
          refine wp_if_ne 69 dX8_inLowest_61 rfl (fun c61 => ?_) (fun c61 => ?_)
          · rw [lcmp_z] at c61
            refine ll_9 dX8_inLowest_69 ?_
            refine ll_5 dX8_inLowest_71 ?_
            rw [e1, Nat.gcd_zero_left] at hg
            have eg : gI u w = c := by unfold gI; rw [eu, ew, Int.toNat_natCast, Int.toNat_natCast, ← hg]
            refine wp_ldivN dX8_inLowest_73 (by omega) (by omega) ?_
            refine wp_lret dX8_inLowest_74 rfl ?_
            refine qvl hQ ?_
            unfold lowV
            rw [eg]
            first | rw [if_pos (by omega)] | rw [if_neg (by omega)]
          · rw [lcmp_z] at c61; omega
      · rw [lcmp_z] at c21
        have l0 : 0 < l := by omega
        obtain ⟨hb2, i9⟩ := euB_s hb l0 c0 i0
        refine ll_5 dX8_inLowest_24 ?_
        refine ll_7 dX8_inLowest_26 ?_
        refine wp_lremN dX8_inLowest_28 (by omega) (by omega) ?_
        rw [← Int.natCast_emod]
        refine ls_10 dX8_inLowest_29 rfl (by decide) ?_
        refine ll_7 dX8_inLowest_31 ?_
        refine ls_5 dX8_inLowest_33 rfl (by decide) ?_
        refine ll_10 dX8_inLowest_35 ?_
        refine ls_7 dX8_inLowest_37 rfl (by decide) ?_
        refine ii_9 dX8_inLowest_39 rfl (by decide) ⟨by decide, by decide⟩ (r32 (by omega) (by omega)) ?_
        refine wp_goto 9 dX8_inLowest_42 rfl ?_
        refine wp_fg (ls' := [_, vn, _, vn, _, _, vn, _, vn, _, vn, vn]) ⟨Or.inr rfl, Or.inl rfl, Or.inr rfl, Or.inl rfl, Or.inr rfl, Or.inr rfl, Or.inl rfl, Or.inr rfl, Or.inl rfl, Or.inr rfl, Or.inl rfl, Or.inl rfl, trivial⟩ ?_
        exact ih l (c % l) (i + 1) _ _ (by omega) (by omega) l0 (by rw [← hg, ← Nat.gcd_rec]) hb2 hQ

theorem wX8_inLowest {G : GT} {δ : Nat} {h hl : Nat → Int → Int} {b : Bool × Bool} {Q : V → Hp → Prop} {u w lo : Int} (hδ : δ ≤ 1700) (u0 : 0 ≤ u) (u1 : u ≤ 1000000000000000) (w0 : 0 < w) (w1 : w ≤ 1000000000000000) (hQ : Q (vl (lowV u w lo)) (HS h hl b)) : WP G δ 0 0 MX8_inLowest 0 [vl u, vn, vl w, vn, vi lo, vn, vn, vn, vn, vn, vn, vn] [] (HS h hl b) Q := by
  obtain ⟨un, eu⟩ := Int.eq_ofNat_of_zero_le u0
  obtain ⟨wn, ew⟩ := Int.eq_ofNat_of_zero_le (show 0 ≤ w by omega)
  subst eu ew
  refine ll_2 dX8_inLowest_0 ?_
  refine ls_5 dX8_inLowest_1 rfl (by decide) ?_
  refine ll_0 dX8_inLowest_3 ?_
  refine ls_7 dX8_inLowest_4 rfl (by decide) ?_
  refine ic_0 dX8_inLowest_6 ?_
  refine is_9 dX8_inLowest_7 rfl (by decide) ?_
  refine wX8_inLowest_9 (un := un) (wn := wn) hδ rfl rfl w0 _ wn un 0 _ _ (Nat.lt_succ_self _) (by omega) (by omega) rfl ⟨100, ?_, Or.inr ⟨rfl, by decide⟩⟩ hQ
  have : wn * un ≤ 1000000000000000 * 1000000000000000 := Nat.mul_le_mul (by omega) (by omega)
  omega

theorem wX8_power_5 {G : GT} {δ : Nat} {h hl : Nat → Int → Int} {b : Bool × Bool} {Q : V → Hp → Prop} {x m : Int} (hδ : δ ≤ 1700) (x0 : 0 ≤ x) (x1 : x ≤ 100) (m1 : m ≤ 6) : ∀ (n : Nat) (pr : Int) (i : Int), ((m - i).toNat) < n → (0 ≤ i) → (i ≤ m) → (pr = powN x i.toNat) → (Q (vl (powN x m.toNat)) (HS h hl b)) → WP G δ 0 0 MX8_power 5 [vl x, vn, vi m, vl pr, vn, vi i] [] (HS h hl b) Q := by
  intro n
  induction n with
  | zero => intro pr i hlt; exact absurd hlt (Nat.not_lt_zero _)
  | succ n ih =>
    intro pr i hlt i0 i1 hp hQ
    refine il_5 dX8_power_5 ?_
    refine il_2 dX8_power_7 ?_
    refine wp_icmp_ge 21 dX8_power_8 rfl (fun c8 => ?_) (fun c8 => ?_)
    · have e : i = m := by omega
      subst e
      refine ll_3 dX8_power_21 ?_
      refine wp_lret dX8_power_22 rfl ?_
      exact qvl hQ hp.symm
    · refine ll_3 dX8_power_11 ?_
      refine ll_0 dX8_power_12 ?_
      refine wp_lmul dX8_power_13 (by have z := powN_R x0 x1 (k := i.toNat) (by omega); rw [← hp] at z; have := mulR z.1 z.2.1 x0 x1; exact r64 (by omega) (by omega)) ?_
      refine ls_3 dX8_power_14 rfl (by decide) ?_
      refine ii_5 dX8_power_15 rfl (by decide) ⟨by decide, by decide⟩ (r32 (by omega) (by omega)) ?_
      refine wp_goto 5 dX8_power_18 rfl ?_
      exact ih _ (i + 1) (by omega) (by omega) (by omega) (by rw [powN_s i0, hp]) hQ

theorem wX8_power {G : GT} {δ : Nat} {h hl : Nat → Int → Int} {b : Bool × Bool} {Q : V → Hp → Prop} {x m : Int} (hδ : δ ≤ 1700) (x0 : 0 ≤ x) (x1 : x ≤ 100) (m0 : 0 ≤ m) (m1 : m ≤ 6) (hQ : Q (vl (powN x m.toNat)) (HS h hl b)) : WP G δ 0 0 MX8_power 0 [vl x, vn, vi m, vn, vn, vn] [] (HS h hl b) Q := by
  refine lc_1 dX8_power_0 ?_
  refine ls_3 dX8_power_1 rfl (by decide) ?_
  refine ic_0 dX8_power_2 ?_
  refine is_5 dX8_power_3 rfl (by decide) ?_
  exact wX8_power_5 hδ x0 x1 m1 _ 1 0 (Nat.lt_succ_self _) (by omega) m0 rfl hQ

theorem wX9_divisor_6 {G : GT} {δ : Nat} {h hl : Nat → Int → Int} {b : Bool × Bool} {Q : V → Hp → Prop} {u w : Int} {g : Nat} (hδ : δ ≤ 1700)  : ∀ (n : Nat) (p : Nat) (q : Nat) (c1 : V) (c2 : V), (q) < n → (0 < p ∨ 0 < q) → (Nat.gcd q p = g) → (Q (vl (g : Nat)) (HS h hl b)) → WP G δ 0 0 MX9_divisor 6 [vl u, vn, vl w, vn, vl p, vn, vl q, vn, c1, c2] [] (HS h hl b) Q := by
  intro n
  induction n with
  | zero => intro p q c1 c2 hlt; exact absurd hlt (Nat.not_lt_zero _)
  | succ n ih =>
    intro p q c1 c2 hlt p0 hg hQ
    refine ll_6 dX9_divisor_6 ?_
    refine lc_0 dX9_divisor_8 ?_
    refine wp_lcmp dX9_divisor_9 ?_
    refine wp_if_eq 31 dX9_divisor_10 rfl (fun c10 => ?_) (fun c10 => ?_)
    · rw [lcmp_z] at c10
      have e1 : q = 0 := by omega
      rw [e1, Nat.gcd_zero_left] at hg
      refine ll_4 dX9_divisor_31 ?_
      refine wp_lret dX9_divisor_33 rfl ?_
      exact qvl hQ (by rw [hg])
    · rw [lcmp_z] at c10
      have q0 : 0 < q := by omega
      have ql := Nat.mod_lt p q0
      refine ll_4 dX9_divisor_13 ?_
      refine ll_6 dX9_divisor_15 ?_
      refine wp_lremN dX9_divisor_17 (by omega) (by omega) ?_
      rw [← Int.natCast_emod]
      refine ls_8 dX9_divisor_18 rfl (by decide) ?_
      refine ll_6 dX9_divisor_20 ?_
      refine ls_4 dX9_divisor_22 rfl (by decide) ?_
      refine ll_8 dX9_divisor_24 ?_
      refine ls_6 dX9_divisor_26 rfl (by decide) ?_
      refine wp_goto 6 dX9_divisor_28 rfl ?_
      refine wp_fg (ls' := [_, vn, _, vn, _, vn, _, vn, vn, vn]) ⟨Or.inr rfl, Or.inl rfl, Or.inr rfl, Or.inl rfl, Or.inr rfl, Or.inl rfl, Or.inr rfl, Or.inl rfl, Or.inl rfl, Or.inl rfl, trivial⟩ ?_
      exact ih q (p % q) _ _ (by omega) (Or.inl q0) (by rw [← hg, ← Nat.gcd_rec]) hQ

theorem wX9_divisor {G : GT} {δ : Nat} {h hl : Nat → Int → Int} {b : Bool × Bool} {Q : V → Hp → Prop} {u w : Int} (hδ : δ ≤ 1700) (u0 : 0 ≤ u) (w0 : 0 < w) (hQ : Q (vl (gI u w)) (HS h hl b)) : WP G δ 0 0 MX9_divisor 0 [vl u, vn, vl w, vn, vn, vn, vn, vn, vn, vn] [] (HS h hl b) Q := by
  obtain ⟨un, eu⟩ := Int.eq_ofNat_of_zero_le u0
  obtain ⟨wn, ew⟩ := Int.eq_ofNat_of_zero_le (show 0 ≤ w by omega)
  subst eu ew
  refine ll_0 dX9_divisor_0 ?_
  refine ls_4 dX9_divisor_1 rfl (by decide) ?_
  refine ll_2 dX9_divisor_3 ?_
  refine ls_6 dX9_divisor_4 rfl (by decide) ?_
  refine wX9_divisor_6 (g := Nat.gcd un wn) hδ _ un wn _ _ (Nat.lt_succ_self _) (by omega) (Nat.gcd_comm _ _) ?_
  unfold gI at hQ; rw [Int.toNat_natCast, Int.toNat_natCast] at hQ; exact hQ

theorem wX9_part {G : GT} {δ : Nat} {h hl : Nat → Int → Int} {b : Bool × Bool} {Q : V → Hp → Prop} {u w lo : Int} (hδ : δ ≤ 1680) (u0 : 0 ≤ u) (w0 : 0 < w) (hQ : Q (vl (lowV u w lo)) (HS h hl b)) : WP G δ 0 0 MX9_part 0 [vl u, vn, vl w, vn, vi lo] [] (HS h hl b) Q := by
  have gp := gI_pos (u := u) w0
  refine il_4 dX9_part_0 ?_
  refine wp_if_eq 9 dX9_part_2 rfl (fun c2 => ?_) (fun c2 => ?_)
  · refine ll_0 dX9_part_9 ?_
    refine ll_0 dX9_part_10 ?_
    refine ll_2 dX9_part_11 ?_
    refine c_X9_421 dX9_part_12 rfl (Nat.le_of_ble_eq_true rfl) (by omega) ?_
    refine wX9_divisor (by omega) u0 w0 ?_
    refine pv_l ?_
    refine wp_ldivN dX9_part_15 (by omega) (by omega) ?_
    refine wp_lret dX9_part_16 rfl ?_
    refine qvl hQ ?_
    unfold lowV
    first | rw [if_pos (by omega)] | rw [if_neg (by omega)]
  · refine ll_2 dX9_part_5 ?_
    refine wp_goto 10 dX9_part_6 rfl ?_
    refine ll_0 dX9_part_10 ?_
    refine ll_2 dX9_part_11 ?_
    refine c_X9_421 dX9_part_12 rfl (Nat.le_of_ble_eq_true rfl) (by omega) ?_
    refine wX9_divisor (by omega) u0 w0 ?_
    refine pv_l ?_
    refine wp_ldivN dX9_part_15 (by omega) (by omega) ?_
    refine wp_lret dX9_part_16 rfl ?_
    refine qvl hQ ?_
    unfold lowV
    first | rw [if_pos (by omega)] | rw [if_neg (by omega)]

theorem wX9_isWar {G : GT} {δ : Nat} {h hl : Nat → Int → Int} {b : Bool × Bool} {Q : V → Hp → Prop} {p q n : Int} {R : Int → Int} {L : Laws} (hδ : δ ≤ 1660) (M : MT h R L)  (hQ : Q (vi (b2i ((0 ≤ p ∧ p < R 0) ∧ (0 ≤ q ∧ q < R 0) ∧ p ≠ q ∧ 0 ≤ n ∧ n ≤ 4))) (HS h hl b)) : WP G δ 0 0 MX9_isWar 0 [vr (336), vi p, vi q, vi n] [] (HS h hl b) Q := by
  have m := M.1
  have V := M.2.1
  have vn' := V.n
  have vw := V.w
  refine al_0 dX9_isWar_0 ?_
  refine il_1 dX9_isWar_1 ?_
  refine c_X9_335 dX9_isWar_2 rfl tt336 (Nat.le_of_ble_eq_true rfl) (by omega) ?_
  refine wX9_isPerson (by omega) (by rw [m]; omega) (by rw [m]; omega) ?_
  rw [m]
  refine pv_i ?_
  refine wp_if_eq 34 dX9_isWar_5 rfl (fun c5 => ?_) (fun c5 => ?_)
  · rw [b2i_0] at c5
    refine ic_0 dX9_isWar_34 ?_
    refine wp_iretz dX9_isWar_35 rfl (by omega) ?_
    exact qv hQ (by first | exact b2i_t (by omega) | exact b2i_f (by omega))
  · rw [b2i_n0] at c5
    refine al_0 dX9_isWar_8 ?_
    refine il_2 dX9_isWar_9 ?_
    refine c_X9_335 dX9_isWar_10 rfl tt336 (Nat.le_of_ble_eq_true rfl) (by omega) ?_
    refine wX9_isPerson (by omega) (by rw [m]; omega) (by rw [m]; omega) ?_
    rw [m]
    refine pv_i ?_
    refine wp_if_eq 34 dX9_isWar_13 rfl (fun c13 => ?_) (fun c13 => ?_)
    · rw [b2i_0] at c13
      refine ic_0 dX9_isWar_34 ?_
      refine wp_iretz dX9_isWar_35 rfl (by omega) ?_
      exact qv hQ (by first | exact b2i_t (by omega) | exact b2i_f (by omega))
    · rw [b2i_n0] at c13
      refine il_1 dX9_isWar_16 ?_
      refine il_2 dX9_isWar_17 ?_
      refine wp_icmp_eq 34 dX9_isWar_18 rfl (fun c18 => ?_) (fun c18 => ?_)
      · refine ic_0 dX9_isWar_34 ?_
        refine wp_iretz dX9_isWar_35 rfl (by omega) ?_
        exact qv hQ (by first | exact b2i_t (by omega) | exact b2i_f (by omega))
      · refine il_3 dX9_isWar_21 ?_
        refine ic_0 dX9_isWar_22 ?_
        refine ic_4 dX9_isWar_23 ?_
        refine c_X9_69 dX9_isWar_24 rfl (Nat.le_of_ble_eq_true rfl) (by omega) ?_
        refine wX9_isIn (by omega) ?_
        refine pv_i ?_
        refine wp_if_eq 34 dX9_isWar_27 rfl (fun c27 => ?_) (fun c27 => ?_)
        · rw [b2i_0] at c27
          refine ic_0 dX9_isWar_34 ?_
          refine wp_iretz dX9_isWar_35 rfl (by omega) ?_
          exact qv hQ (by first | exact b2i_t (by omega) | exact b2i_f (by omega))
        · rw [b2i_n0] at c27
          refine ic_1 dX9_isWar_30 ?_
          refine wp_goto 35 dX9_isWar_31 rfl ?_
          refine wp_iretz dX9_isWar_35 rfl (by omega) ?_
          exact qv hQ (by first | exact b2i_t (by omega) | exact b2i_f (by omega))

theorem wX8_war_95 {G : GT} {δ : Nat} {h hl : Nat → Int → Int} {b : Bool × Bool} {Q : V → Hp → Prop} {p q n0 lo s w : Int} (hδ : δ ≤ 1660) (n4 : n0 ≤ 4) (s0 : 0 ≤ s) (s1 : s ≤ 100) (w0 : 0 ≤ w) (w1 : w ≤ 100) : ∀ (n : Nat) (u : Int) (a : Int) (k : Int), ((n0 - k).toNat) < n → (0 ≤ k) → (k ≤ n0) → (u = warN s w k.toNat) → (a = powN 100 k.toNat) → (Q (vl (lowV (warN s w n0.toNat) (powN 100 n0.toNat) lo)) (HS h hl b)) → WP G δ 0 0 MX8_war 95 [vr (1), vi p, vi q, vi n0, vi lo, vl s, vn, vl w, vn, vl u, vn, vl a, vn, vi k] [] (HS h hl b) Q := by
  intro n
  induction n with
  | zero => intro u a k hlt; exact absurd hlt (Nat.not_lt_zero _)
  | succ n ih =>
    intro u a k hlt k0 k1 hu ha hQ
    have ur := warN_R s0 s1 w0 w1 (k := k.toNat) (by omega)
    have ar := pow100 k.toNat (by omega)
    rw [← hu] at ur
    rw [← ha] at ar
    have pr := powN_R s0 s1 (k := k.toNat) (by omega)
    have wp := mulR w0 w1 pr.1 pr.2.1
    refine il_13 dX8_war_95 ?_
    refine il_3 dX8_war_97 ?_
    refine wp_icmp_ge 142 dX8_war_98 rfl (fun c98 => ?_) (fun c98 => ?_)
    · have e : k = n0 := by omega
      subst e
      have ar2 := ar.2.2 (by omega)
      refine ll_9 dX8_war_142 ?_
      refine ll_11 dX8_war_144 ?_
      refine il_4 dX8_war_146 ?_
      refine c_X8_274 dX8_war_148 rfl (Nat.le_of_ble_eq_true rfl) (by omega) ?_
      refine wX8_inLowest (by omega) (by omega) (by omega) (by omega) (by omega) ?_
      refine pv_l ?_
      refine wp_lret dX8_war_151 rfl ?_
      rw [← hu, ← ha] at hQ; exact hQ
    · refine ll_9 dX8_war_101 ?_
      refine wp_ldc2 (10) dX8_war_103 ⟨by decide, by decide⟩ cc_X8_268 ?_
      refine wp_lmul dX8_war_106 (r64 (by omega) (by omega)) ?_
      refine wp_ldc2 (10) dX8_war_107 ⟨by decide, by decide⟩ cc_X8_268 ?_
      refine wp_lmul dX8_war_110 (r64 (by omega) (by omega)) ?_
      refine ll_7 dX8_war_111 ?_
      refine ll_5 dX8_war_113 ?_
      refine il_13 dX8_war_115 ?_
      refine c_X8_270 dX8_war_117 rfl (Nat.le_of_ble_eq_true rfl) (by omega) ?_
      refine wX8_power (by omega) (by omega) (by omega) (by omega) (by omega) ?_
      refine pv_l ?_
      refine wp_lmul dX8_war_120 (r64 (by omega) (by omega)) ?_
      refine wp_ladd dX8_war_121 (r64 (by omega) (by omega)) ?_
      refine ls_9 dX8_war_122 rfl (by decide) ?_
      refine ll_11 dX8_war_124 ?_
      refine wp_ldc2 (10) dX8_war_126 ⟨by decide, by decide⟩ cc_X8_268 ?_
      refine wp_lmul dX8_war_129 (r64 (by omega) (by omega)) ?_
      refine wp_ldc2 (10) dX8_war_130 ⟨by decide, by decide⟩ cc_X8_268 ?_
      refine wp_lmul dX8_war_133 (r64 (by omega) (by omega)) ?_
      refine ls_11 dX8_war_134 rfl (by decide) ?_
      refine ii_13 dX8_war_136 rfl (by decide) ⟨by decide, by decide⟩ (r32 (by omega) (by omega)) ?_
      refine wp_goto 95 dX8_war_139 rfl ?_
      exact ih _ _ (k + 1) (by omega) (by omega) (by omega) (by rw [warN_s k0, ← hu]; omega) (by rw [powN_s k0, ← ha]; omega) hQ

theorem wX8_war {G : GT} {δ : Nat} {h hl : Nat → Int → Int} {b : Bool × Bool} {Q : V → Hp → Prop} {p q n lo : Int} {R : Int → Int} {L : Laws} (hδ : δ ≤ 1660) (C : CT h R L)  (hQ : Q (vl (aWar R p q n lo)) (HS h hl b)) : WP G δ 0 0 MX8_war 0 [vr (1), vi p, vi q, vi n, vi lo, vn, vn, vn, vn, vn, vn, vn, vn, vn] [] (HS h hl b) Q := by
  obtain ⟨⟨s0, s3, s4, s1, s2, s5⟩, ⟨t0, t1, t5, t6, t7⟩, ⟨g7, g8, g11, g10, g10x⟩⟩ := C.1.f
  have vn' := C.2.1.n
  have vw := C.2.1.w
  refine al_0 dX8_war_0 ?_
  refine g_X8_12 (2) dX8_war_1 rfl tt1 (rr8_0 tt1) (by omega) ?_
  refine il_1 dX8_war_4 ?_
  refine il_2 dX8_war_5 ?_
  refine c_X8_263 dX8_war_6 rfl tt2 (Nat.le_of_ble_eq_true rfl) (by omega) ?_
  refine wX7_hasTwo (by omega) ?_
  rw [s0]
  refine pv_i ?_
  refine wp_if_eq 21 dX8_war_9 rfl (fun c9 => ?_) (fun c9 => ?_)
  · rw [b2i_0] at c9
    refine wp_ldc2 (-1) dX8_war_21 ⟨by decide, by decide⟩ cc_X8_266 ?_
    refine wp_lret dX8_war_24 rfl ?_
    refine qvl hQ ?_
    unfold aWar
    rw [if_neg (by omega)]
  · rw [b2i_n0] at c9
    have sp := C.2.1.sl p (by omega) (by omega)
    have sq := C.2.1.sl q (by omega) (by omega)
    have ss := mulR (show (0 : Int) ≤ 10 - R (21 + p) by omega) (show 10 - R (21 + p) ≤ 10 by omega) (show (0 : Int) ≤ 10 - R (21 + q) by omega) (show 10 - R (21 + q) ≤ 10 by omega)
    have sw' := mulR (show (0 : Int) ≤ 10 - R (21 + p) by omega) (show 10 - R (21 + p) ≤ 10 by omega) sq.1 sq.2
    refine il_3 dX8_war_12 ?_
    refine wp_if_lt 21 dX8_war_13 rfl (fun c13 => ?_) (fun c13 => ?_)
    · refine wp_ldc2 (-1) dX8_war_21 ⟨by decide, by decide⟩ cc_X8_266 ?_
      refine wp_lret dX8_war_24 rfl ?_
      refine qvl hQ ?_
      unfold aWar
      rw [if_neg (by omega)]
    · refine il_3 dX8_war_16 ?_
      refine ic_4 dX8_war_17 ?_
      refine wp_icmp_le 25 dX8_war_18 rfl (fun c18 => ?_) (fun c18 => ?_)
      · refine bi_10 dX8_war_25 ?_
        refine al_0 dX8_war_27 ?_
        refine g_X8_12 (2) dX8_war_28 rfl tt1 (rr8_0 tt1) (by omega) ?_
        refine g_X8_152 (7) dX8_war_31 rfl tt2 (rr7_1 tt2) (by omega) ?_
        refine il_1 dX8_war_34 ?_
        refine c_X8_156 dX8_war_35 rfl tt7 (Nat.le_of_ble_eq_true rfl) (by omega) ?_
        refine wX6_at (by omega) tt7 tt8 (by decide) (by omega) (by omega) ?_
        rw [C.1.slA (by omega) (by omega)]
        refine pv_i ?_
        refine wp_isub dX8_war_38 (r32 (by omega) (by omega)) ?_
        refine bi_10 dX8_war_39 ?_
        refine al_0 dX8_war_41 ?_
        refine g_X8_12 (2) dX8_war_42 rfl tt1 (rr8_0 tt1) (by omega) ?_
        refine g_X8_152 (7) dX8_war_45 rfl tt2 (rr7_1 tt2) (by omega) ?_
        refine il_2 dX8_war_48 ?_
        refine c_X8_156 dX8_war_49 rfl tt7 (Nat.le_of_ble_eq_true rfl) (by omega) ?_
        refine wX6_at (by omega) tt7 tt8 (by decide) (by omega) (by omega) ?_
        rw [C.1.slA (by omega) (by omega)]
        refine pv_i ?_
        refine wp_isub dX8_war_52 (r32 (by omega) (by omega)) ?_
        refine wp_imul dX8_war_53 (r32 (by omega) (by omega)) ?_
        refine wp_i2l dX8_war_54 ?_
        refine ls_5 dX8_war_55 rfl (by decide) ?_
        refine bi_10 dX8_war_57 ?_
        refine al_0 dX8_war_59 ?_
        refine g_X8_12 (2) dX8_war_60 rfl tt1 (rr8_0 tt1) (by omega) ?_
        refine g_X8_152 (7) dX8_war_63 rfl tt2 (rr7_1 tt2) (by omega) ?_
        refine il_1 dX8_war_66 ?_
        refine c_X8_156 dX8_war_67 rfl tt7 (Nat.le_of_ble_eq_true rfl) (by omega) ?_
        refine wX6_at (by omega) tt7 tt8 (by decide) (by omega) (by omega) ?_
        rw [C.1.slA (by omega) (by omega)]
        refine pv_i ?_
        refine wp_isub dX8_war_70 (r32 (by omega) (by omega)) ?_
        refine al_0 dX8_war_71 ?_
        refine g_X8_12 (2) dX8_war_72 rfl tt1 (rr8_0 tt1) (by omega) ?_
        refine g_X8_152 (7) dX8_war_75 rfl tt2 (rr7_1 tt2) (by omega) ?_
        refine il_2 dX8_war_78 ?_
        refine c_X8_156 dX8_war_79 rfl tt7 (Nat.le_of_ble_eq_true rfl) (by omega) ?_
        refine wX6_at (by omega) tt7 tt8 (by decide) (by omega) (by omega) ?_
        rw [C.1.slA (by omega) (by omega)]
        refine pv_i ?_
        refine wp_imul dX8_war_82 (r32 (by omega) (by omega)) ?_
        refine wp_i2l dX8_war_83 ?_
        refine ls_7 dX8_war_84 rfl (by decide) ?_
        refine lc_0 dX8_war_86 ?_
        refine ls_9 dX8_war_87 rfl (by decide) ?_
        refine lc_1 dX8_war_89 ?_
        refine ls_11 dX8_war_90 rfl (by decide) ?_
        refine ic_0 dX8_war_92 ?_
        refine is_13 dX8_war_93 rfl (by decide) ?_
        refine wX8_war_95 (by omega) (by omega) ss.1 (by omega) sw'.1 (by omega) _ 0 1 0 (Nat.lt_succ_self _) (by omega) (by omega) rfl rfl (qvl hQ ?_)
        unfold aWar
        rw [if_pos (by omega)]; rfl
      · refine wp_ldc2 (-1) dX8_war_21 ⟨by decide, by decide⟩ cc_X8_266 ?_
        refine wp_lret dX8_war_24 rfl ?_
        refine qvl hQ ?_
        unfold aWar
        rw [if_neg (by omega)]

theorem wX9_war_26 {G : GT} {δ : Nat} {h hl : Nat → Int → Int} {b : Bool × Bool} {Q : V → Hp → Prop} {p q n0 lo : Int} {R : Int → Int} {L : Laws} (hδ : δ ≤ 1640) (M : MT h R L) (n4 : n0 ≤ 4) (p0 : 0 ≤ p) (p1 : p < R 0) (q0 : 0 ≤ q) (q1 : q < R 0) : ∀ (n : Nat) (u : Int) (a : Int) (bo : Int) (k : Int), ((n0 - k).toNat) < n → (0 ≤ k) → (k ≤ n0) → (u = warN (warS R p q) (warW R p q) k.toNat) → (a = powN 100 k.toNat) → (bo = powN (warS R p q) k.toNat) → (Q (vl (lowV (warN (warS R p q) (warW R p q) n0.toNat) (powN 100 n0.toNat) lo)) (HS h hl b)) → WP G δ 0 0 MX9_war 26 [vr (336), vi p, vi q, vi n0, vi lo, vl u, vn, vl a, vn, vl bo, vn, vi k] [] (HS h hl b) Q := by
  intro n
  induction n with
  | zero => intro u a bo k hlt; exact absurd hlt (Nat.not_lt_zero _)
  | succ n ih =>
    intro u a bo k hlt k0 k1 hu ha hb hQ
    have m := M.1
    have V := M.2.1
    have vn' := V.n
    have vw := V.w
    have sp := V.sl p (by omega) (by omega)
    have sq := V.sl q (by omega) (by omega)
    have ss := mulR (show (0 : Int) ≤ 10 - R (21 + p) by omega) (show 10 - R (21 + p) ≤ 10 by omega) (show (0 : Int) ≤ 10 - R (21 + q) by omega) (show 10 - R (21 + q) ≤ 10 by omega)
    have sw' := mulR (show (0 : Int) ≤ 10 - R (21 + p) by omega) (show 10 - R (21 + p) ≤ 10 by omega) sq.1 sq.2
    have ar := pow100 k.toNat (by omega)
    rw [← ha] at ar
    have pr := powN_R ss.1 (show (10 - R (21 + p)) * (10 - R (21 + q)) ≤ 100 by omega) (k := k.toNat) (by omega)
    rw [show (10 - R (21 + p)) * (10 - R (21 + q)) = warS R p q from rfl] at ss pr
    rw [← hb] at pr
    have x1 := mulR pr.1 pr.2.1 (show (0 : Int) ≤ 10 - R (21 + p) by omega) (show 10 - R (21 + p) ≤ 10 by omega)
    have x2 := mulR x1.1 x1.2 sq.1 sq.2
    have x3 := mulR pr.1 pr.2.1 ss.1 ss.2
    have ur := warN_R ss.1 (show warS R p q ≤ 100 by omega) (show 0 ≤ warW R p q from sw'.1) (show warW R p q ≤ 100 by unfold warW; omega) (k := k.toNat) (by omega)
    rw [← hu] at ur
    refine il_11 dX9_war_26 ?_
    refine il_3 dX9_war_28 ?_
    refine wp_icmp_ge 113 dX9_war_29 rfl (fun c29 => ?_) (fun c29 => ?_)
    · have e : k = n0 := by omega
      subst e
      refine ll_5 dX9_war_113 ?_
      refine ll_7 dX9_war_115 ?_
      refine il_4 dX9_war_117 ?_
      refine c_X9_431 dX9_war_119 rfl (Nat.le_of_ble_eq_true rfl) (by omega) ?_
      refine wX9_part (by omega) (by omega) (by omega) ?_
      refine pv_l ?_
      refine wp_lret dX9_war_122 rfl ?_
      rw [← hu, ← ha] at hQ; exact hQ
    · refine ll_5 dX9_war_32 ?_
      refine wp_ldc2 (100) dX9_war_34 ⟨by decide, by decide⟩ cc_X9_429 ?_
      refine wp_lmul dX9_war_37 (r64 (by omega) (by omega)) ?_
      refine ll_9 dX9_war_38 ?_
      refine bi_10 dX9_war_40 ?_
      refine al_0 dX9_war_42 ?_
      refine g_X9_7 (337) dX9_war_43 rfl tt336 (rr9_0 tt336) (by omega) ?_
      refine bi_21 dX9_war_46 ?_
      refine il_1 dX9_war_48 ?_
      refine wp_iadd dX9_war_49 (r32 (by omega) (by omega)) ?_
      refine wp_iaload dX9_war_50 tt337 (by omega) (by omega) ?_
      first | rw [m2] | rw [m1] | rw [m] | rw [sw_s] | skip
      refine wp_isub dX9_war_51 (r32 (by omega) (by omega)) ?_
      refine wp_i2l dX9_war_52 ?_
      refine wp_lmul dX9_war_53 (r64 (by omega) (by omega)) ?_
      refine al_0 dX9_war_54 ?_
      refine g_X9_7 (337) dX9_war_55 rfl tt336 (rr9_0 tt336) (by omega) ?_
      refine bi_21 dX9_war_58 ?_
      refine il_2 dX9_war_60 ?_
      refine wp_iadd dX9_war_61 (r32 (by omega) (by omega)) ?_
      refine wp_iaload dX9_war_62 tt337 (by omega) (by omega) ?_
      first | rw [m2] | rw [m1] | rw [m] | rw [sw_s] | skip
      refine wp_i2l dX9_war_63 ?_
      refine wp_lmul dX9_war_64 (r64 (by omega) (by omega)) ?_
      refine wp_ladd dX9_war_65 (r64 (by omega) (by omega)) ?_
      refine ls_5 dX9_war_66 rfl (by decide) ?_
      refine ll_9 dX9_war_68 ?_
      refine bi_10 dX9_war_70 ?_
      refine al_0 dX9_war_72 ?_
      refine g_X9_7 (337) dX9_war_73 rfl tt336 (rr9_0 tt336) (by omega) ?_
      refine bi_21 dX9_war_76 ?_
      refine il_1 dX9_war_78 ?_
      refine wp_iadd dX9_war_79 (r32 (by omega) (by omega)) ?_
      refine wp_iaload dX9_war_80 tt337 (by omega) (by omega) ?_
      first | rw [m2] | rw [m1] | rw [m] | rw [sw_s] | skip
      refine wp_isub dX9_war_81 (r32 (by omega) (by omega)) ?_
      refine bi_10 dX9_war_82 ?_
      refine al_0 dX9_war_84 ?_
      refine g_X9_7 (337) dX9_war_85 rfl tt336 (rr9_0 tt336) (by omega) ?_
      refine bi_21 dX9_war_88 ?_
      refine il_2 dX9_war_90 ?_
      refine wp_iadd dX9_war_91 (r32 (by omega) (by omega)) ?_
      refine wp_iaload dX9_war_92 tt337 (by omega) (by omega) ?_
      first | rw [m2] | rw [m1] | rw [m] | rw [sw_s] | skip
      refine wp_isub dX9_war_93 (r32 (by omega) (by omega)) ?_
      refine wp_imul dX9_war_94 (r32 (by rw [show (10 - R (21 + p)) * (10 - R (21 + q)) = warS R p q from rfl]; omega) (by rw [show (10 - R (21 + p)) * (10 - R (21 + q)) = warS R p q from rfl]; omega)) ?_
      rw [show (10 - R (21 + p)) * (10 - R (21 + q)) = warS R p q from rfl]
      refine wp_i2l dX9_war_95 ?_
      refine wp_lmul dX9_war_96 (r64 (by omega) (by omega)) ?_
      refine ls_9 dX9_war_97 rfl (by decide) ?_
      refine ll_7 dX9_war_99 ?_
      refine wp_ldc2 (100) dX9_war_101 ⟨by decide, by decide⟩ cc_X9_429 ?_
      refine wp_lmul dX9_war_104 (r64 (by omega) (by omega)) ?_
      refine ls_7 dX9_war_105 rfl (by decide) ?_
      refine ii_11 dX9_war_107 rfl (by decide) ⟨by decide, by decide⟩ (r32 (by omega) (by omega)) ?_
      refine wp_goto 26 dX9_war_110 rfl ?_
      exact ih _ _ _ (k + 1) (by omega) (by omega) (by omega) (by rw [warN_s k0, ← hu, ← hb]; congr 1; unfold warW; rw [Int.mul_assoc, Int.mul_comm]) (by rw [powN_s k0, ← ha]) (by rw [powN_s k0, ← hb]) hQ

theorem wX9_war {G : GT} {δ : Nat} {h hl : Nat → Int → Int} {b : Bool × Bool} {Q : V → Hp → Prop} {p q n lo : Int} {R : Int → Int} {L : Laws} (hδ : δ ≤ 1640) (M : MT h R L)  (hQ : Q (vl (aWar R p q n lo)) (HS h hl b)) : WP G δ 0 0 MX9_war 0 [vr (336), vi p, vi q, vi n, vi lo, vn, vn, vn, vn, vn, vn, vn] [] (HS h hl b) Q := by
  have m := M.1
  have V := M.2.1
  have vn' := V.n
  have vw := V.w
  refine al_0 dX9_war_0 ?_
  refine il_1 dX9_war_1 ?_
  refine il_2 dX9_war_2 ?_
  refine il_3 dX9_war_3 ?_
  refine c_X9_424 dX9_war_4 rfl tt336 (Nat.le_of_ble_eq_true rfl) (by omega) ?_
  refine wX9_isWar (by omega) M ?_
  refine pv_i ?_
  refine wp_if_ne 14 dX9_war_7 rfl (fun c7 => ?_) (fun c7 => ?_)
  · rw [b2i_n0] at c7
    refine lc_0 dX9_war_14 ?_
    refine ls_5 dX9_war_15 rfl (by decide) ?_
    refine lc_1 dX9_war_17 ?_
    refine ls_7 dX9_war_18 rfl (by decide) ?_
    refine lc_1 dX9_war_20 ?_
    refine ls_9 dX9_war_21 rfl (by decide) ?_
    refine ic_0 dX9_war_23 ?_
    refine is_11 dX9_war_24 rfl (by decide) ?_
    refine wX9_war_26 (by omega) M (by omega) (by omega) (by omega) (by omega) (by omega) _ 0 1 1 0 (Nat.lt_succ_self _) (by omega) (by omega) rfl rfl rfl (qvl hQ ?_)
    unfold aWar
    rw [if_pos (by omega)]
  · rw [b2i_0] at c7
    refine wp_ldc2 (-1) dX9_war_10 ⟨by decide, by decide⟩ cc_X9_427 ?_
    refine wp_lret dX9_war_13 rfl ?_
    refine qvl hQ ?_
    unfold aWar
    rw [if_neg (by omega)]

theorem wX8_rest {G : GT} {δ : Nat} {h hl : Nat → Int → Int} {b : Bool × Bool} {Q : V → Hp → Prop} {p q n lo : Int} {R : Int → Int} {L : Laws} (hδ : δ ≤ 1660) (C : CT h R L)  (hQ : Q (vl (aRest R p q n lo)) (HS h hl b)) : WP G δ 0 0 MX8_rest 0 [vr (1), vi p, vi q, vi n, vi lo, vn, vn] [] (HS h hl b) Q := by
  obtain ⟨⟨s0, s3, s4, s1, s2, s5⟩, ⟨t0, t1, t5, t6, t7⟩, ⟨g7, g8, g11, g10, g10x⟩⟩ := C.1.f
  have vn' := C.2.1.n
  have vw := C.2.1.w
  refine al_0 dX8_rest_0 ?_
  refine g_X8_12 (2) dX8_rest_1 rfl tt1 (rr8_0 tt1) (by omega) ?_
  refine il_1 dX8_rest_4 ?_
  refine il_2 dX8_rest_5 ?_
  refine c_X8_263 dX8_rest_6 rfl tt2 (Nat.le_of_ble_eq_true rfl) (by omega) ?_
  refine wX7_hasTwo (by omega) ?_
  rw [s0]
  refine pv_i ?_
  refine wp_if_eq 21 dX8_rest_9 rfl (fun c9 => ?_) (fun c9 => ?_)
  · rw [b2i_0] at c9
    refine wp_ldc2 (-1) dX8_rest_21 ⟨by decide, by decide⟩ cc_X8_266 ?_
    refine wp_lret dX8_rest_24 rfl ?_
    refine qvl hQ ?_
    unfold aRest
    rw [if_neg (by omega)]
  · rw [b2i_n0] at c9
    have sp := C.2.1.sl p (by omega) (by omega)
    have sq := C.2.1.sl q (by omega) (by omega)
    have ss := mulR (show (0 : Int) ≤ 10 - R (21 + p) by omega) (show 10 - R (21 + p) ≤ 10 by omega) (show (0 : Int) ≤ 10 - R (21 + q) by omega) (show 10 - R (21 + q) ≤ 10 by omega)
    have sw' := mulR (show (0 : Int) ≤ 10 - R (21 + p) by omega) (show 10 - R (21 + p) ≤ 10 by omega) sq.1 sq.2
    refine il_3 dX8_rest_12 ?_
    refine wp_if_lt 21 dX8_rest_13 rfl (fun c13 => ?_) (fun c13 => ?_)
    · refine wp_ldc2 (-1) dX8_rest_21 ⟨by decide, by decide⟩ cc_X8_266 ?_
      refine wp_lret dX8_rest_24 rfl ?_
      refine qvl hQ ?_
      unfold aRest
      rw [if_neg (by omega)]
    · refine il_3 dX8_rest_16 ?_
      refine ic_4 dX8_rest_17 ?_
      refine wp_icmp_le 25 dX8_rest_18 rfl (fun c18 => ?_) (fun c18 => ?_)
      · refine bi_10 dX8_rest_25 ?_
        refine al_0 dX8_rest_27 ?_
        refine g_X8_12 (2) dX8_rest_28 rfl tt1 (rr8_0 tt1) (by omega) ?_
        refine g_X8_152 (7) dX8_rest_31 rfl tt2 (rr7_1 tt2) (by omega) ?_
        refine il_1 dX8_rest_34 ?_
        refine c_X8_156 dX8_rest_35 rfl tt7 (Nat.le_of_ble_eq_true rfl) (by omega) ?_
        refine wX6_at (by omega) tt7 tt8 (by decide) (by omega) (by omega) ?_
        rw [C.1.slA (by omega) (by omega)]
        refine pv_i ?_
        refine wp_isub dX8_rest_38 (r32 (by omega) (by omega)) ?_
        refine bi_10 dX8_rest_39 ?_
        refine al_0 dX8_rest_41 ?_
        refine g_X8_12 (2) dX8_rest_42 rfl tt1 (rr8_0 tt1) (by omega) ?_
        refine g_X8_152 (7) dX8_rest_45 rfl tt2 (rr7_1 tt2) (by omega) ?_
        refine il_2 dX8_rest_48 ?_
        refine c_X8_156 dX8_rest_49 rfl tt7 (Nat.le_of_ble_eq_true rfl) (by omega) ?_
        refine wX6_at (by omega) tt7 tt8 (by decide) (by omega) (by omega) ?_
        rw [C.1.slA (by omega) (by omega)]
        refine pv_i ?_
        refine wp_isub dX8_rest_52 (r32 (by omega) (by omega)) ?_
        refine wp_imul dX8_rest_53 (r32 (by omega) (by omega)) ?_
        refine wp_i2l dX8_rest_54 ?_
        refine ls_5 dX8_rest_55 rfl (by decide) ?_
        refine ll_5 dX8_rest_57 ?_
        refine il_3 dX8_rest_59 ?_
        refine c_X8_270 dX8_rest_60 rfl (Nat.le_of_ble_eq_true rfl) (by omega) ?_
        refine wX8_power (by omega) (by omega) (by omega) (by omega) (by omega) ?_
        refine pv_l ?_
        refine wp_ldc2 (100) dX8_rest_63 ⟨by decide, by decide⟩ cc_X8_278 ?_
        refine il_3 dX8_rest_66 ?_
        refine c_X8_270 dX8_rest_67 rfl (Nat.le_of_ble_eq_true rfl) (by omega) ?_
        refine wX8_power (by omega) (by omega) (by omega) (by omega) (by omega) ?_
        refine pv_l ?_
        refine il_4 dX8_rest_70 ?_
        refine c_X8_274 dX8_rest_72 rfl (Nat.le_of_ble_eq_true rfl) (by omega) ?_
        have pr := powN_R ss.1 (show (10 - R (21 + p)) * (10 - R (21 + q)) ≤ 100 by omega) (k := n.toNat) (by omega)
        have ar := pow100 n.toNat (by omega)
        refine wX8_inLowest (by omega) (by omega) (by omega) (by omega) (by omega) ?_
        refine pv_l ?_
        refine wp_lret dX8_rest_75 rfl ?_
        refine qvl hQ ?_
        unfold aRest
        rw [if_pos (by omega)]; rfl
      · refine wp_ldc2 (-1) dX8_rest_21 ⟨by decide, by decide⟩ cc_X8_266 ?_
        refine wp_lret dX8_rest_24 rfl ?_
        refine qvl hQ ?_
        unfold aRest
        rw [if_neg (by omega)]

theorem wX9_rest_23 {G : GT} {δ : Nat} {h hl : Nat → Int → Int} {b : Bool × Bool} {Q : V → Hp → Prop} {p q n0 lo : Int} {R : Int → Int} {L : Laws} (hδ : δ ≤ 1640) (M : MT h R L) (n4 : n0 ≤ 4) (p0 : 0 ≤ p) (p1 : p < R 0) (q0 : 0 ≤ q) (q1 : q < R 0) : ∀ (n : Nat) (a : Int) (bo : Int) (k : Int), ((n0 - k).toNat) < n → (0 ≤ k) → (k ≤ n0) → (a = powN 100 k.toNat) → (bo = powN (warS R p q) k.toNat) → (Q (vl (lowV (powN (warS R p q) n0.toNat) (powN 100 n0.toNat) lo)) (HS h hl b)) → WP G δ 0 0 MX9_rest 23 [vr (336), vi p, vi q, vi n0, vi lo, vl a, vn, vl bo, vn, vi k] [] (HS h hl b) Q := by
  intro n
  induction n with
  | zero => intro a bo k hlt; exact absurd hlt (Nat.not_lt_zero _)
  | succ n ih =>
    intro a bo k hlt k0 k1 ha hb hQ
    have m := M.1
    have V := M.2.1
    have vn' := V.n
    have vw := V.w
    have sp := V.sl p (by omega) (by omega)
    have sq := V.sl q (by omega) (by omega)
    have ss := mulR (show (0 : Int) ≤ 10 - R (21 + p) by omega) (show 10 - R (21 + p) ≤ 10 by omega) (show (0 : Int) ≤ 10 - R (21 + q) by omega) (show 10 - R (21 + q) ≤ 10 by omega)
    have sw' := mulR (show (0 : Int) ≤ 10 - R (21 + p) by omega) (show 10 - R (21 + p) ≤ 10 by omega) sq.1 sq.2
    have ar := pow100 k.toNat (by omega)
    rw [← ha] at ar
    have pr := powN_R ss.1 (show (10 - R (21 + p)) * (10 - R (21 + q)) ≤ 100 by omega) (k := k.toNat) (by omega)
    rw [show (10 - R (21 + p)) * (10 - R (21 + q)) = warS R p q from rfl] at ss pr
    rw [← hb] at pr
    have x1 := mulR pr.1 pr.2.1 (show (0 : Int) ≤ 10 - R (21 + p) by omega) (show 10 - R (21 + p) ≤ 10 by omega)
    have x2 := mulR x1.1 x1.2 sq.1 sq.2
    have x3 := mulR pr.1 pr.2.1 ss.1 ss.2
    refine il_9 dX9_rest_23 ?_
    refine il_3 dX9_rest_25 ?_
    refine wp_icmp_ge 74 dX9_rest_26 rfl (fun c26 => ?_) (fun c26 => ?_)
    · have e : k = n0 := by omega
      subst e
      refine ll_7 dX9_rest_74 ?_
      refine ll_5 dX9_rest_76 ?_
      refine il_4 dX9_rest_78 ?_
      refine c_X9_431 dX9_rest_80 rfl (Nat.le_of_ble_eq_true rfl) (by omega) ?_
      refine wX9_part (by omega) (by omega) (by omega) ?_
      refine pv_l ?_
      refine wp_lret dX9_rest_83 rfl ?_
      rw [← hb, ← ha] at hQ; exact hQ
    · refine ll_7 dX9_rest_29 ?_
      refine bi_10 dX9_rest_31 ?_
      refine al_0 dX9_rest_33 ?_
      refine g_X9_7 (337) dX9_rest_34 rfl tt336 (rr9_0 tt336) (by omega) ?_
      refine bi_21 dX9_rest_37 ?_
      refine il_1 dX9_rest_39 ?_
      refine wp_iadd dX9_rest_40 (r32 (by omega) (by omega)) ?_
      refine wp_iaload dX9_rest_41 tt337 (by omega) (by omega) ?_
      first | rw [m2] | rw [m1] | rw [m] | rw [sw_s] | skip
      refine wp_isub dX9_rest_42 (r32 (by omega) (by omega)) ?_
      refine bi_10 dX9_rest_43 ?_
      refine al_0 dX9_rest_45 ?_
      refine g_X9_7 (337) dX9_rest_46 rfl tt336 (rr9_0 tt336) (by omega) ?_
      refine bi_21 dX9_rest_49 ?_
      refine il_2 dX9_rest_51 ?_
      refine wp_iadd dX9_rest_52 (r32 (by omega) (by omega)) ?_
      refine wp_iaload dX9_rest_53 tt337 (by omega) (by omega) ?_
      first | rw [m2] | rw [m1] | rw [m] | rw [sw_s] | skip
      refine wp_isub dX9_rest_54 (r32 (by omega) (by omega)) ?_
      refine wp_imul dX9_rest_55 (r32 (by rw [show (10 - R (21 + p)) * (10 - R (21 + q)) = warS R p q from rfl]; omega) (by rw [show (10 - R (21 + p)) * (10 - R (21 + q)) = warS R p q from rfl]; omega)) ?_
      rw [show (10 - R (21 + p)) * (10 - R (21 + q)) = warS R p q from rfl]
      refine wp_i2l dX9_rest_56 ?_
      refine wp_lmul dX9_rest_57 (r64 (by omega) (by omega)) ?_
      refine ls_7 dX9_rest_58 rfl (by decide) ?_
      refine ll_5 dX9_rest_60 ?_
      refine wp_ldc2 (100) dX9_rest_62 ⟨by decide, by decide⟩ cc_X9_429 ?_
      refine wp_lmul dX9_rest_65 (r64 (by omega) (by omega)) ?_
      refine ls_5 dX9_rest_66 rfl (by decide) ?_
      refine ii_9 dX9_rest_68 rfl (by decide) ⟨by decide, by decide⟩ (r32 (by omega) (by omega)) ?_
      refine wp_goto 23 dX9_rest_71 rfl ?_
      exact ih _ _ (k + 1) (by omega) (by omega) (by omega) (by rw [powN_s k0, ← ha]) (by rw [powN_s k0, ← hb]) hQ

theorem wX9_rest {G : GT} {δ : Nat} {h hl : Nat → Int → Int} {b : Bool × Bool} {Q : V → Hp → Prop} {p q n lo : Int} {R : Int → Int} {L : Laws} (hδ : δ ≤ 1640) (M : MT h R L)  (hQ : Q (vl (aRest R p q n lo)) (HS h hl b)) : WP G δ 0 0 MX9_rest 0 [vr (336), vi p, vi q, vi n, vi lo, vn, vn, vn, vn, vn] [] (HS h hl b) Q := by
  have m := M.1
  have V := M.2.1
  have vn' := V.n
  have vw := V.w
  refine al_0 dX9_rest_0 ?_
  refine il_1 dX9_rest_1 ?_
  refine il_2 dX9_rest_2 ?_
  refine il_3 dX9_rest_3 ?_
  refine c_X9_424 dX9_rest_4 rfl tt336 (Nat.le_of_ble_eq_true rfl) (by omega) ?_
  refine wX9_isWar (by omega) M ?_
  refine pv_i ?_
  refine wp_if_ne 14 dX9_rest_7 rfl (fun c7 => ?_) (fun c7 => ?_)
  · rw [b2i_n0] at c7
    refine lc_1 dX9_rest_14 ?_
    refine ls_5 dX9_rest_15 rfl (by decide) ?_
    refine lc_1 dX9_rest_17 ?_
    refine ls_7 dX9_rest_18 rfl (by decide) ?_
    refine ic_0 dX9_rest_20 ?_
    refine is_9 dX9_rest_21 rfl (by decide) ?_
    refine wX9_rest_23 (by omega) M (by omega) (by omega) (by omega) (by omega) (by omega) _ 1 1 0 (Nat.lt_succ_self _) (by omega) (by omega) rfl rfl (qvl hQ ?_)
    unfold aRest
    rw [if_pos (by omega)]
  · rw [b2i_0] at c7
    refine wp_ldc2 (-1) dX9_rest_10 ⟨by decide, by decide⟩ cc_X9_427 ?_
    refine wp_lret dX9_rest_13 rfl ?_
    refine qvl hQ ?_
    unfold aRest
    rw [if_neg (by omega)]

theorem wX8_belief_8 {G : GT} {δ : Nat} {h hl : Nat → Int → Int} {b : Bool × Bool} {Q : V → Hp → Prop} {lo : Int} {R : Int → Int} {L : Laws} (hδ : δ ≤ 1680) (C : CT h R L) : ∀ (n : Nat) (s : Int) (n1 : Int) (k : Int) (c1 : V) (c2 : V) (c3 : V), ((R 6 - k).toNat) < n → (0 ≤ k) → (k ≤ R 6) → (s = (beN R k.toNat).1) → (n1 = (beN R k.toNat).2) → (Q (vl (aBelief R lo)) (HS h hl b)) → WP G δ 0 0 MX8_belief 8 [vr (1), vi lo, vl s, vn, vl n1, vn, vi k, c1, c2, c3] [] (HS h hl b) Q := by
  intro n
  induction n with
  | zero => intro s n1 k c1 c2 c3 hlt; exact absurd hlt (Nat.not_lt_zero _)
  | succ n ih =>
    intro s n1 k c1 c2 c3 hlt k0 k1 hs hn hQ
    obtain ⟨⟨s0, s3, s4, s1, s2, s5⟩, ⟨t0, t1, t5, t6, t7⟩, ⟨g7, g8, g11, g10, g10x⟩⟩ := C.1.f
    have vn' := C.2.1.n
    have vw := C.2.1.w
    have br := beN_R C.2.1 k.toNat (by omega)
    rw [← hs, ← hn] at br
    refine il_6 dX8_belief_8 ?_
    refine al_0 dX8_belief_10 ?_
    refine g_X8_12 (2) dX8_belief_11 rfl tt1 (rr8_0 tt1) (by omega) ?_
    refine g_X8_280 (13) dX8_belief_14 rfl tt2 (rr7_4 tt2) (by omega) ?_
    refine g_X8_249 dX8_belief_17 rfl tt13 ?_
    rw [t6]
    refine wp_icmp_ge 116 dX8_belief_20 rfl (fun c20 => ?_) (fun c20 => ?_)
    · have e : k = R 6 := by omega
      subst e
      refine ll_2 dX8_belief_116 ?_
      refine ll_4 dX8_belief_117 ?_
      refine wp_ladd dX8_belief_119 (r64 (by omega) (by omega)) ?_
      refine lc_0 dX8_belief_120 ?_
      refine wp_lcmp dX8_belief_121 ?_
      refine wp_if_ne 131 dX8_belief_122 rfl (fun c122 => ?_) (fun c122 => ?_)
      · rw [lcmp_z] at c122
        refine ll_2 dX8_belief_131 ?_
        refine ll_2 dX8_belief_132 ?_
        refine ll_4 dX8_belief_133 ?_
        refine wp_ladd dX8_belief_135 (r64 (by omega) (by omega)) ?_
        refine il_1 dX8_belief_136 ?_
        refine c_X8_274 dX8_belief_137 rfl (Nat.le_of_ble_eq_true rfl) (by omega) ?_
        refine wX8_inLowest (by omega) (by omega) (by omega) (by omega) (by omega) ?_
        refine pv_l ?_
        refine wp_lret dX8_belief_140 rfl ?_
        refine qvl hQ ?_
        unfold aBelief
        rw [← hs, ← hn]
        first | rw [if_pos (by omega)] | rw [if_neg (by omega)]
      · rw [lcmp_z] at c122
        refine wp_ldc2 (-1) dX8_belief_125 ⟨by decide, by decide⟩ cc_X8_266 ?_
        refine wp_goto 140 dX8_belief_128 rfl ?_
        refine wp_lret dX8_belief_140 rfl ?_
        refine qvl hQ ?_
        unfold aBelief
        rw [← hs, ← hn]
        first | rw [if_pos (by omega)] | rw [if_neg (by omega)]
    · refine al_0 dX8_belief_23 ?_
      refine g_X8_12 (2) dX8_belief_24 rfl tt1 (rr8_0 tt1) (by omega) ?_
      refine g_X8_280 (13) dX8_belief_27 rfl tt2 (rr7_4 tt2) (by omega) ?_
      refine il_6 dX8_belief_30 ?_
      refine c_X8_156 dX8_belief_32 rfl tt13 (Nat.le_of_ble_eq_true rfl) (by omega) ?_
      refine wX6_at (by omega) tt13 tt14 (by decide) (by omega) (by omega) ?_
      rw [C.1.veA k0 (by omega)]
      have ve := C.2.1.ve k (by omega) (by omega)
      have sl := C.2.1.sl (R (43 + 2 * k)) ve.1 ve.2.1
      have b1 := mulR br.1.1 br.1.2 sl.1 sl.2
      have b2 := mulR br.1.1 br.1.2 (show (0 : Int) ≤ 10 - R (21 + R (43 + 2 * k)) by omega) (show 10 - R (21 + R (43 + 2 * k)) ≤ 10 by omega)
      have b3 := mulR br.2.1 br.2.2 sl.1 sl.2
      have b4 := mulR br.2.1 br.2.2 (show (0 : Int) ≤ 10 - R (21 + R (43 + 2 * k)) by omega) (show 10 - R (21 + R (43 + 2 * k)) ≤ 10 by omega)
      refine pv_i ?_
      refine is_7 dX8_belief_35 rfl (by decide) ?_
      refine al_0 dX8_belief_37 ?_
      refine g_X8_12 (2) dX8_belief_38 rfl tt1 (rr8_0 tt1) (by omega) ?_
      refine g_X8_152 (7) dX8_belief_41 rfl tt2 (rr7_1 tt2) (by omega) ?_
      refine il_7 dX8_belief_44 ?_
      refine ic_2 dX8_belief_46 ?_
      refine wp_idivN dX8_belief_47 (by omega) (by omega) ?_
      rw [show (R (43 + 2 * k) * 2 + R (44 + 2 * k)) / 2 = R (43 + 2 * k) by omega]
      refine c_X8_156 dX8_belief_48 rfl tt7 (Nat.le_of_ble_eq_true rfl) (by omega) ?_
      refine wX6_at (by omega) tt7 tt8 (by decide) (by omega) (by omega) ?_
      rw [C.1.slA (by omega) (by omega)]
      refine pv_i ?_
      refine is_8 dX8_belief_51 rfl (by decide) ?_
      refine il_7 dX8_belief_53 ?_
      refine ic_2 dX8_belief_55 ?_
      refine wp_iremN dX8_belief_56 (by omega) (by omega) ?_
      rw [show (R (43 + 2 * k) * 2 + R (44 + 2 * k)) % 2 = R (44 + 2 * k) by omega]
      refine ic_1 dX8_belief_57 ?_
      refine wp_icmp_ne 65 dX8_belief_58 rfl (fun c58 => ?_) (fun c58 => ?_)
      · refine ic_0 dX8_belief_65 ?_
        refine is_9 dX8_belief_66 rfl (by decide) ?_
        refine ll_2 dX8_belief_68 ?_
        refine il_9 dX8_belief_69 ?_
        refine wp_if_eq 83 dX8_belief_71 rfl (fun c71 => ?_) (fun c71 => ?_)
        · refine il_8 dX8_belief_83 ?_
          refine wp_i2l dX8_belief_85 ?_
          refine wp_lmul dX8_belief_86 (r64 (by omega) (by omega)) ?_
          refine ls_2 dX8_belief_87 rfl (by decide) ?_
          refine ll_4 dX8_belief_88 ?_
          refine il_9 dX8_belief_90 ?_
          refine wp_if_eq 101 dX8_belief_92 rfl (fun c92 => ?_) (fun c92 => ?_)
          · refine bi_10 dX8_belief_101 ?_
            refine il_8 dX8_belief_103 ?_
            refine wp_isub dX8_belief_105 (r32 (by omega) (by omega)) ?_
            refine wp_i2l dX8_belief_106 ?_
            refine wp_lmul dX8_belief_107 (r64 (by omega) (by omega)) ?_
            refine ls_4 dX8_belief_108 rfl (by decide) ?_
            refine ii_6 dX8_belief_110 rfl (by decide) ⟨by decide, by decide⟩ (r32 (by omega) (by omega)) ?_
            refine wp_goto 8 dX8_belief_113 rfl ?_
            refine wp_fg (ls' := [_, _, _, vn, _, vn, _, vn, vn, vn]) ⟨Or.inr rfl, Or.inr rfl, Or.inr rfl, Or.inl rfl, Or.inr rfl, Or.inl rfl, Or.inr rfl, Or.inl rfl, Or.inl rfl, Or.inl rfl, trivial⟩ ?_
            first
              | (exfalso; omega)
              | exact ih _ _ (k + 1) _ _ _ (by omega) (by omega) (by omega) (by rw [beN_s k0]; dsimp only; rw [if_pos (by omega), ← hs]) (by rw [beN_s k0]; dsimp only; rw [if_pos (by omega), ← hn]) hQ
              | exact ih _ _ (k + 1) _ _ _ (by omega) (by omega) (by omega) (by rw [beN_s k0]; dsimp only; rw [if_neg (by omega), ← hs]) (by rw [beN_s k0]; dsimp only; rw [if_neg (by omega), ← hn]) hQ
          · refine il_8 dX8_belief_95 ?_
            refine wp_i2l dX8_belief_97 ?_
            refine wp_goto 107 dX8_belief_98 rfl ?_
            refine wp_lmul dX8_belief_107 (r64 (by omega) (by omega)) ?_
            refine ls_4 dX8_belief_108 rfl (by decide) ?_
            refine ii_6 dX8_belief_110 rfl (by decide) ⟨by decide, by decide⟩ (r32 (by omega) (by omega)) ?_
            refine wp_goto 8 dX8_belief_113 rfl ?_
            refine wp_fg (ls' := [_, _, _, vn, _, vn, _, vn, vn, vn]) ⟨Or.inr rfl, Or.inr rfl, Or.inr rfl, Or.inl rfl, Or.inr rfl, Or.inl rfl, Or.inr rfl, Or.inl rfl, Or.inl rfl, Or.inl rfl, trivial⟩ ?_
            first
              | (exfalso; omega)
              | exact ih _ _ (k + 1) _ _ _ (by omega) (by omega) (by omega) (by rw [beN_s k0]; dsimp only; rw [if_pos (by omega), ← hs]) (by rw [beN_s k0]; dsimp only; rw [if_pos (by omega), ← hn]) hQ
              | exact ih _ _ (k + 1) _ _ _ (by omega) (by omega) (by omega) (by rw [beN_s k0]; dsimp only; rw [if_neg (by omega), ← hs]) (by rw [beN_s k0]; dsimp only; rw [if_neg (by omega), ← hn]) hQ
        · refine bi_10 dX8_belief_74 ?_
          refine il_8 dX8_belief_76 ?_
          refine wp_isub dX8_belief_78 (r32 (by omega) (by omega)) ?_
          refine wp_i2l dX8_belief_79 ?_
          refine wp_goto 86 dX8_belief_80 rfl ?_
          refine wp_lmul dX8_belief_86 (r64 (by omega) (by omega)) ?_
          refine ls_2 dX8_belief_87 rfl (by decide) ?_
          refine ll_4 dX8_belief_88 ?_
          refine il_9 dX8_belief_90 ?_
          refine wp_if_eq 101 dX8_belief_92 rfl (fun c92 => ?_) (fun c92 => ?_)
          · refine bi_10 dX8_belief_101 ?_
            refine il_8 dX8_belief_103 ?_
            refine wp_isub dX8_belief_105 (r32 (by omega) (by omega)) ?_
            refine wp_i2l dX8_belief_106 ?_
            refine wp_lmul dX8_belief_107 (r64 (by omega) (by omega)) ?_
            refine ls_4 dX8_belief_108 rfl (by decide) ?_
            refine ii_6 dX8_belief_110 rfl (by decide) ⟨by decide, by decide⟩ (r32 (by omega) (by omega)) ?_
            refine wp_goto 8 dX8_belief_113 rfl ?_
            refine wp_fg (ls' := [_, _, _, vn, _, vn, _, vn, vn, vn]) ⟨Or.inr rfl, Or.inr rfl, Or.inr rfl, Or.inl rfl, Or.inr rfl, Or.inl rfl, Or.inr rfl, Or.inl rfl, Or.inl rfl, Or.inl rfl, trivial⟩ ?_
            first
              | (exfalso; omega)
              | exact ih _ _ (k + 1) _ _ _ (by omega) (by omega) (by omega) (by rw [beN_s k0]; dsimp only; rw [if_pos (by omega), ← hs]) (by rw [beN_s k0]; dsimp only; rw [if_pos (by omega), ← hn]) hQ
              | exact ih _ _ (k + 1) _ _ _ (by omega) (by omega) (by omega) (by rw [beN_s k0]; dsimp only; rw [if_neg (by omega), ← hs]) (by rw [beN_s k0]; dsimp only; rw [if_neg (by omega), ← hn]) hQ
          · refine il_8 dX8_belief_95 ?_
            refine wp_i2l dX8_belief_97 ?_
            refine wp_goto 107 dX8_belief_98 rfl ?_
            refine wp_lmul dX8_belief_107 (r64 (by omega) (by omega)) ?_
            refine ls_4 dX8_belief_108 rfl (by decide) ?_
            refine ii_6 dX8_belief_110 rfl (by decide) ⟨by decide, by decide⟩ (r32 (by omega) (by omega)) ?_
            refine wp_goto 8 dX8_belief_113 rfl ?_
            refine wp_fg (ls' := [_, _, _, vn, _, vn, _, vn, vn, vn]) ⟨Or.inr rfl, Or.inr rfl, Or.inr rfl, Or.inl rfl, Or.inr rfl, Or.inl rfl, Or.inr rfl, Or.inl rfl, Or.inl rfl, Or.inl rfl, trivial⟩ ?_
            first
              | (exfalso; omega)
              | exact ih _ _ (k + 1) _ _ _ (by omega) (by omega) (by omega) (by rw [beN_s k0]; dsimp only; rw [if_pos (by omega), ← hs]) (by rw [beN_s k0]; dsimp only; rw [if_pos (by omega), ← hn]) hQ
              | exact ih _ _ (k + 1) _ _ _ (by omega) (by omega) (by omega) (by rw [beN_s k0]; dsimp only; rw [if_neg (by omega), ← hs]) (by rw [beN_s k0]; dsimp only; rw [if_neg (by omega), ← hn]) hQ
      · refine ic_1 dX8_belief_61 ?_
        refine wp_goto 66 dX8_belief_62 rfl ?_
        refine is_9 dX8_belief_66 rfl (by decide) ?_
        refine ll_2 dX8_belief_68 ?_
        refine il_9 dX8_belief_69 ?_
        refine wp_if_eq 83 dX8_belief_71 rfl (fun c71 => ?_) (fun c71 => ?_)
        · refine il_8 dX8_belief_83 ?_
          refine wp_i2l dX8_belief_85 ?_
          refine wp_lmul dX8_belief_86 (r64 (by omega) (by omega)) ?_
          refine ls_2 dX8_belief_87 rfl (by decide) ?_
          refine ll_4 dX8_belief_88 ?_
          refine il_9 dX8_belief_90 ?_
          refine wp_if_eq 101 dX8_belief_92 rfl (fun c92 => ?_) (fun c92 => ?_)
          · refine bi_10 dX8_belief_101 ?_
            refine il_8 dX8_belief_103 ?_
            refine wp_isub dX8_belief_105 (r32 (by omega) (by omega)) ?_
            refine wp_i2l dX8_belief_106 ?_
            refine wp_lmul dX8_belief_107 (r64 (by omega) (by omega)) ?_
            refine ls_4 dX8_belief_108 rfl (by decide) ?_
            refine ii_6 dX8_belief_110 rfl (by decide) ⟨by decide, by decide⟩ (r32 (by omega) (by omega)) ?_
            refine wp_goto 8 dX8_belief_113 rfl ?_
            refine wp_fg (ls' := [_, _, _, vn, _, vn, _, vn, vn, vn]) ⟨Or.inr rfl, Or.inr rfl, Or.inr rfl, Or.inl rfl, Or.inr rfl, Or.inl rfl, Or.inr rfl, Or.inl rfl, Or.inl rfl, Or.inl rfl, trivial⟩ ?_
            first
              | (exfalso; omega)
              | exact ih _ _ (k + 1) _ _ _ (by omega) (by omega) (by omega) (by rw [beN_s k0]; dsimp only; rw [if_pos (by omega), ← hs]) (by rw [beN_s k0]; dsimp only; rw [if_pos (by omega), ← hn]) hQ
              | exact ih _ _ (k + 1) _ _ _ (by omega) (by omega) (by omega) (by rw [beN_s k0]; dsimp only; rw [if_neg (by omega), ← hs]) (by rw [beN_s k0]; dsimp only; rw [if_neg (by omega), ← hn]) hQ
          · refine il_8 dX8_belief_95 ?_
            refine wp_i2l dX8_belief_97 ?_
            refine wp_goto 107 dX8_belief_98 rfl ?_
            refine wp_lmul dX8_belief_107 (r64 (by omega) (by omega)) ?_
            refine ls_4 dX8_belief_108 rfl (by decide) ?_
            refine ii_6 dX8_belief_110 rfl (by decide) ⟨by decide, by decide⟩ (r32 (by omega) (by omega)) ?_
            refine wp_goto 8 dX8_belief_113 rfl ?_
            refine wp_fg (ls' := [_, _, _, vn, _, vn, _, vn, vn, vn]) ⟨Or.inr rfl, Or.inr rfl, Or.inr rfl, Or.inl rfl, Or.inr rfl, Or.inl rfl, Or.inr rfl, Or.inl rfl, Or.inl rfl, Or.inl rfl, trivial⟩ ?_
            first
              | (exfalso; omega)
              | exact ih _ _ (k + 1) _ _ _ (by omega) (by omega) (by omega) (by rw [beN_s k0]; dsimp only; rw [if_pos (by omega), ← hs]) (by rw [beN_s k0]; dsimp only; rw [if_pos (by omega), ← hn]) hQ
              | exact ih _ _ (k + 1) _ _ _ (by omega) (by omega) (by omega) (by rw [beN_s k0]; dsimp only; rw [if_neg (by omega), ← hs]) (by rw [beN_s k0]; dsimp only; rw [if_neg (by omega), ← hn]) hQ
        · refine bi_10 dX8_belief_74 ?_
          refine il_8 dX8_belief_76 ?_
          refine wp_isub dX8_belief_78 (r32 (by omega) (by omega)) ?_
          refine wp_i2l dX8_belief_79 ?_
          refine wp_goto 86 dX8_belief_80 rfl ?_
          refine wp_lmul dX8_belief_86 (r64 (by omega) (by omega)) ?_
          refine ls_2 dX8_belief_87 rfl (by decide) ?_
          refine ll_4 dX8_belief_88 ?_
          refine il_9 dX8_belief_90 ?_
          refine wp_if_eq 101 dX8_belief_92 rfl (fun c92 => ?_) (fun c92 => ?_)
          · refine bi_10 dX8_belief_101 ?_
            refine il_8 dX8_belief_103 ?_
            refine wp_isub dX8_belief_105 (r32 (by omega) (by omega)) ?_
            refine wp_i2l dX8_belief_106 ?_
            refine wp_lmul dX8_belief_107 (r64 (by omega) (by omega)) ?_
            refine ls_4 dX8_belief_108 rfl (by decide) ?_
            refine ii_6 dX8_belief_110 rfl (by decide) ⟨by decide, by decide⟩ (r32 (by omega) (by omega)) ?_
            refine wp_goto 8 dX8_belief_113 rfl ?_
            refine wp_fg (ls' := [_, _, _, vn, _, vn, _, vn, vn, vn]) ⟨Or.inr rfl, Or.inr rfl, Or.inr rfl, Or.inl rfl, Or.inr rfl, Or.inl rfl, Or.inr rfl, Or.inl rfl, Or.inl rfl, Or.inl rfl, trivial⟩ ?_
            first
              | (exfalso; omega)
              | exact ih _ _ (k + 1) _ _ _ (by omega) (by omega) (by omega) (by rw [beN_s k0]; dsimp only; rw [if_pos (by omega), ← hs]) (by rw [beN_s k0]; dsimp only; rw [if_pos (by omega), ← hn]) hQ
              | exact ih _ _ (k + 1) _ _ _ (by omega) (by omega) (by omega) (by rw [beN_s k0]; dsimp only; rw [if_neg (by omega), ← hs]) (by rw [beN_s k0]; dsimp only; rw [if_neg (by omega), ← hn]) hQ
          · refine il_8 dX8_belief_95 ?_
            refine wp_i2l dX8_belief_97 ?_
            refine wp_goto 107 dX8_belief_98 rfl ?_
            refine wp_lmul dX8_belief_107 (r64 (by omega) (by omega)) ?_
            refine ls_4 dX8_belief_108 rfl (by decide) ?_
            refine ii_6 dX8_belief_110 rfl (by decide) ⟨by decide, by decide⟩ (r32 (by omega) (by omega)) ?_
            refine wp_goto 8 dX8_belief_113 rfl ?_
            refine wp_fg (ls' := [_, _, _, vn, _, vn, _, vn, vn, vn]) ⟨Or.inr rfl, Or.inr rfl, Or.inr rfl, Or.inl rfl, Or.inr rfl, Or.inl rfl, Or.inr rfl, Or.inl rfl, Or.inl rfl, Or.inl rfl, trivial⟩ ?_
            first
              | (exfalso; omega)
              | exact ih _ _ (k + 1) _ _ _ (by omega) (by omega) (by omega) (by rw [beN_s k0]; dsimp only; rw [if_pos (by omega), ← hs]) (by rw [beN_s k0]; dsimp only; rw [if_pos (by omega), ← hn]) hQ
              | exact ih _ _ (k + 1) _ _ _ (by omega) (by omega) (by omega) (by rw [beN_s k0]; dsimp only; rw [if_neg (by omega), ← hs]) (by rw [beN_s k0]; dsimp only; rw [if_neg (by omega), ← hn]) hQ

theorem wX8_belief {G : GT} {δ : Nat} {h hl : Nat → Int → Int} {b : Bool × Bool} {Q : V → Hp → Prop} {lo : Int} {R : Int → Int} {L : Laws} (hδ : δ ≤ 1680) (C : CT h R L)  (hQ : Q (vl (aBelief R lo)) (HS h hl b)) : WP G δ 0 0 MX8_belief 0 [vr (1), vi lo, vn, vn, vn, vn, vn, vn, vn, vn] [] (HS h hl b) Q := by
  obtain ⟨⟨s0, s3, s4, s1, s2, s5⟩, ⟨t0, t1, t5, t6, t7⟩, ⟨g7, g8, g11, g10, g10x⟩⟩ := C.1.f
  have vn' := C.2.1.n
  have vw := C.2.1.w
  refine lc_1 dX8_belief_0 ?_
  refine ls_2 dX8_belief_1 rfl (by decide) ?_
  refine lc_1 dX8_belief_2 ?_
  refine ls_4 dX8_belief_3 rfl (by decide) ?_
  refine ic_0 dX8_belief_5 ?_
  refine is_6 dX8_belief_6 rfl (by decide) ?_
  exact wX8_belief_8 (by omega) C _ 1 1 0 _ _ _ (Nat.lt_succ_self _) (by omega) (by omega) rfl rfl hQ

theorem wX9_belief_9 {G : GT} {δ : Nat} {h hl : Nat → Int → Int} {b : Bool × Bool} {Q : V → Hp → Prop} {lo : Int} {R : Int → Int} {L : Laws} (hδ : δ ≤ 1660) (M : MT h R L)  : ∀ (n : Nat) (s : Int) (n1 : Int) (x : Int) (k : Int) (c1 : V), ((R 6 - k).toNat) < n → (0 ≤ k) → (k ≤ R 6) → (x = 43 + 2 * k) → (s = (beN R k.toNat).1) → (n1 = (beN R k.toNat).2) → (Q (vl (aBelief R lo)) (HS h hl b)) → WP G δ 0 0 MX9_belief 9 [vr (336), vi lo, vl s, vn, vl n1, vn, vi x, c1] [] (HS h hl b) Q := by
  intro n
  induction n with
  | zero => intro s n1 x k c1 hlt; exact absurd hlt (Nat.not_lt_zero _)
  | succ n ih =>
    intro s n1 x k c1 hlt k0 k1 hx hs hn hQ
    have m := M.1
    have V := M.2.1
    have vn' := V.n
    have vw := V.w
    have br := beN_R V k.toNat (by omega)
    rw [← hs, ← hn] at br
    refine il_6 dX9_belief_9 ?_
    refine bi_43 dX9_belief_11 ?_
    refine ic_2 dX9_belief_13 ?_
    refine al_0 dX9_belief_14 ?_
    refine g_X9_7 (337) dX9_belief_15 rfl tt336 (rr9_0 tt336) (by omega) ?_
    refine bi_6 dX9_belief_18 ?_
    refine wp_iaload dX9_belief_20 tt337 (by omega) (by omega) ?_
    first | rw [m2] | rw [m1] | rw [m] | rw [sw_s] | skip
    refine wp_imul dX9_belief_21 (r32 (by omega) (by omega)) ?_
    refine wp_iadd dX9_belief_22 (r32 (by omega) (by omega)) ?_
    refine wp_icmp_ge 107 dX9_belief_23 rfl (fun c23 => ?_) (fun c23 => ?_)
    · have e : k = R 6 := by omega
      subst e
      refine ll_2 dX9_belief_107 ?_
      refine ll_4 dX9_belief_108 ?_
      refine wp_ladd dX9_belief_110 (r64 (by omega) (by omega)) ?_
      refine lc_0 dX9_belief_111 ?_
      refine wp_lcmp dX9_belief_112 ?_
      refine wp_if_ne 122 dX9_belief_113 rfl (fun c113 => ?_) (fun c113 => ?_)
      · rw [lcmp_z] at c113
        refine ll_2 dX9_belief_122 ?_
        refine ll_2 dX9_belief_123 ?_
        refine ll_4 dX9_belief_124 ?_
        refine wp_ladd dX9_belief_126 (r64 (by omega) (by omega)) ?_
        refine il_1 dX9_belief_127 ?_
        refine c_X9_431 dX9_belief_128 rfl (Nat.le_of_ble_eq_true rfl) (by omega) ?_
        refine wX9_part (by omega) (by omega) (by omega) ?_
        refine pv_l ?_
        refine wp_lret dX9_belief_131 rfl ?_
        refine qvl hQ ?_
        unfold aBelief
        rw [← hs, ← hn]
        first | rw [if_pos (by omega)] | rw [if_neg (by omega)]
      · rw [lcmp_z] at c113
        refine wp_ldc2 (-1) dX9_belief_116 ⟨by decide, by decide⟩ cc_X9_427 ?_
        refine wp_goto 131 dX9_belief_119 rfl ?_
        refine wp_lret dX9_belief_131 rfl ?_
        refine qvl hQ ?_
        unfold aBelief
        rw [← hs, ← hn]
        first | rw [if_pos (by omega)] | rw [if_neg (by omega)]
    · have ve := V.ve k (by omega) (by omega)
      have sl := V.sl (R (43 + 2 * k)) ve.1 ve.2.1
      have b1 := mulR br.1.1 br.1.2 sl.1 sl.2
      have b2 := mulR br.1.1 br.1.2 (show (0 : Int) ≤ 10 - R (21 + R (43 + 2 * k)) by omega) (show 10 - R (21 + R (43 + 2 * k)) ≤ 10 by omega)
      have b3 := mulR br.2.1 br.2.2 sl.1 sl.2
      have b4 := mulR br.2.1 br.2.2 (show (0 : Int) ≤ 10 - R (21 + R (43 + 2 * k)) by omega) (show 10 - R (21 + R (43 + 2 * k)) ≤ 10 by omega)
      refine al_0 dX9_belief_26 ?_
      refine g_X9_7 (337) dX9_belief_27 rfl tt336 (rr9_0 tt336) (by omega) ?_
      refine bi_21 dX9_belief_30 ?_
      refine al_0 dX9_belief_32 ?_
      refine g_X9_7 (337) dX9_belief_33 rfl tt336 (rr9_0 tt336) (by omega) ?_
      refine il_6 dX9_belief_36 ?_
      refine wp_iaload dX9_belief_38 tt337 (by omega) (by omega) ?_
      rw [m, hx]
      refine wp_iadd dX9_belief_39 (r32 (by omega) (by omega)) ?_
      refine wp_iaload dX9_belief_40 tt337 (by omega) (by omega) ?_
      first | rw [m2] | rw [m1] | rw [m] | rw [sw_s] | skip
      refine is_7 dX9_belief_41 rfl (by decide) ?_
      refine ll_2 dX9_belief_43 ?_
      refine al_0 dX9_belief_44 ?_
      refine g_X9_7 (337) dX9_belief_45 rfl tt336 (rr9_0 tt336) (by omega) ?_
      refine il_6 dX9_belief_48 ?_
      refine ic_1 dX9_belief_50 ?_
      refine wp_iadd dX9_belief_51 (r32 (by omega) (by omega)) ?_
      refine wp_iaload dX9_belief_52 tt337 (by omega) (by omega) ?_
      rw [m, show 43 + 2 * k + 1 = 44 + 2 * k by omega]
      refine ic_1 dX9_belief_53 ?_
      refine wp_icmp_ne 66 dX9_belief_54 rfl (fun c54 => ?_) (fun c54 => ?_)
      · refine il_7 dX9_belief_66 ?_
        refine wp_i2l dX9_belief_68 ?_
        refine wp_lmul dX9_belief_69 (r64 (by omega) (by omega)) ?_
        refine ls_2 dX9_belief_70 rfl (by decide) ?_
        refine ll_4 dX9_belief_71 ?_
        refine al_0 dX9_belief_73 ?_
        refine g_X9_7 (337) dX9_belief_74 rfl tt336 (rr9_0 tt336) (by omega) ?_
        refine il_6 dX9_belief_77 ?_
        refine ic_1 dX9_belief_79 ?_
        refine wp_iadd dX9_belief_80 (r32 (by omega) (by omega)) ?_
        refine wp_iaload dX9_belief_81 tt337 (by omega) (by omega) ?_
        rw [m, show 43 + 2 * k + 1 = 44 + 2 * k by omega]
        refine ic_1 dX9_belief_82 ?_
        refine wp_icmp_ne 92 dX9_belief_83 rfl (fun c83 => ?_) (fun c83 => ?_)
        · refine bi_10 dX9_belief_92 ?_
          refine il_7 dX9_belief_94 ?_
          refine wp_isub dX9_belief_96 (r32 (by omega) (by omega)) ?_
          refine wp_i2l dX9_belief_97 ?_
          refine wp_lmul dX9_belief_98 (r64 (by omega) (by omega)) ?_
          refine ls_4 dX9_belief_99 rfl (by decide) ?_
          refine ii_6 dX9_belief_101 rfl (by decide) ⟨by decide, by decide⟩ (r32 (by omega) (by omega)) ?_
          refine wp_goto 9 dX9_belief_104 rfl ?_
          refine wp_fg (ls' := [_, _, _, vn, _, vn, _, vn]) ⟨Or.inr rfl, Or.inr rfl, Or.inr rfl, Or.inl rfl, Or.inr rfl, Or.inl rfl, Or.inr rfl, Or.inl rfl, trivial⟩ ?_
          first
            | (exfalso; omega)
            | exact ih _ _ _ (k + 1) _ (by omega) (by omega) (by omega) (by omega) (by rw [beN_s k0]; dsimp only; rw [if_pos (by omega), ← hs]) (by rw [beN_s k0]; dsimp only; rw [if_pos (by omega), ← hn]) hQ
            | exact ih _ _ _ (k + 1) _ (by omega) (by omega) (by omega) (by omega) (by rw [beN_s k0]; dsimp only; rw [if_neg (by omega), ← hs]) (by rw [beN_s k0]; dsimp only; rw [if_neg (by omega), ← hn]) hQ
        · refine il_7 dX9_belief_86 ?_
          refine wp_i2l dX9_belief_88 ?_
          refine wp_goto 98 dX9_belief_89 rfl ?_
          refine wp_lmul dX9_belief_98 (r64 (by omega) (by omega)) ?_
          refine ls_4 dX9_belief_99 rfl (by decide) ?_
          refine ii_6 dX9_belief_101 rfl (by decide) ⟨by decide, by decide⟩ (r32 (by omega) (by omega)) ?_
          refine wp_goto 9 dX9_belief_104 rfl ?_
          refine wp_fg (ls' := [_, _, _, vn, _, vn, _, vn]) ⟨Or.inr rfl, Or.inr rfl, Or.inr rfl, Or.inl rfl, Or.inr rfl, Or.inl rfl, Or.inr rfl, Or.inl rfl, trivial⟩ ?_
          first
            | (exfalso; omega)
            | exact ih _ _ _ (k + 1) _ (by omega) (by omega) (by omega) (by omega) (by rw [beN_s k0]; dsimp only; rw [if_pos (by omega), ← hs]) (by rw [beN_s k0]; dsimp only; rw [if_pos (by omega), ← hn]) hQ
            | exact ih _ _ _ (k + 1) _ (by omega) (by omega) (by omega) (by omega) (by rw [beN_s k0]; dsimp only; rw [if_neg (by omega), ← hs]) (by rw [beN_s k0]; dsimp only; rw [if_neg (by omega), ← hn]) hQ
      · refine bi_10 dX9_belief_57 ?_
        refine il_7 dX9_belief_59 ?_
        refine wp_isub dX9_belief_61 (r32 (by omega) (by omega)) ?_
        refine wp_i2l dX9_belief_62 ?_
        refine wp_goto 69 dX9_belief_63 rfl ?_
        refine wp_lmul dX9_belief_69 (r64 (by omega) (by omega)) ?_
        refine ls_2 dX9_belief_70 rfl (by decide) ?_
        refine ll_4 dX9_belief_71 ?_
        refine al_0 dX9_belief_73 ?_
        refine g_X9_7 (337) dX9_belief_74 rfl tt336 (rr9_0 tt336) (by omega) ?_
        refine il_6 dX9_belief_77 ?_
        refine ic_1 dX9_belief_79 ?_
        refine wp_iadd dX9_belief_80 (r32 (by omega) (by omega)) ?_
        refine wp_iaload dX9_belief_81 tt337 (by omega) (by omega) ?_
        rw [m, show 43 + 2 * k + 1 = 44 + 2 * k by omega]
        refine ic_1 dX9_belief_82 ?_
        refine wp_icmp_ne 92 dX9_belief_83 rfl (fun c83 => ?_) (fun c83 => ?_)
        · refine bi_10 dX9_belief_92 ?_
          refine il_7 dX9_belief_94 ?_
          refine wp_isub dX9_belief_96 (r32 (by omega) (by omega)) ?_
          refine wp_i2l dX9_belief_97 ?_
          refine wp_lmul dX9_belief_98 (r64 (by omega) (by omega)) ?_
          refine ls_4 dX9_belief_99 rfl (by decide) ?_
          refine ii_6 dX9_belief_101 rfl (by decide) ⟨by decide, by decide⟩ (r32 (by omega) (by omega)) ?_
          refine wp_goto 9 dX9_belief_104 rfl ?_
          refine wp_fg (ls' := [_, _, _, vn, _, vn, _, vn]) ⟨Or.inr rfl, Or.inr rfl, Or.inr rfl, Or.inl rfl, Or.inr rfl, Or.inl rfl, Or.inr rfl, Or.inl rfl, trivial⟩ ?_
          first
            | (exfalso; omega)
            | exact ih _ _ _ (k + 1) _ (by omega) (by omega) (by omega) (by omega) (by rw [beN_s k0]; dsimp only; rw [if_pos (by omega), ← hs]) (by rw [beN_s k0]; dsimp only; rw [if_pos (by omega), ← hn]) hQ
            | exact ih _ _ _ (k + 1) _ (by omega) (by omega) (by omega) (by omega) (by rw [beN_s k0]; dsimp only; rw [if_neg (by omega), ← hs]) (by rw [beN_s k0]; dsimp only; rw [if_neg (by omega), ← hn]) hQ
        · refine il_7 dX9_belief_86 ?_
          refine wp_i2l dX9_belief_88 ?_
          refine wp_goto 98 dX9_belief_89 rfl ?_
          refine wp_lmul dX9_belief_98 (r64 (by omega) (by omega)) ?_
          refine ls_4 dX9_belief_99 rfl (by decide) ?_
          refine ii_6 dX9_belief_101 rfl (by decide) ⟨by decide, by decide⟩ (r32 (by omega) (by omega)) ?_
          refine wp_goto 9 dX9_belief_104 rfl ?_
          refine wp_fg (ls' := [_, _, _, vn, _, vn, _, vn]) ⟨Or.inr rfl, Or.inr rfl, Or.inr rfl, Or.inl rfl, Or.inr rfl, Or.inl rfl, Or.inr rfl, Or.inl rfl, trivial⟩ ?_
          first
            | (exfalso; omega)
            | exact ih _ _ _ (k + 1) _ (by omega) (by omega) (by omega) (by omega) (by rw [beN_s k0]; dsimp only; rw [if_pos (by omega), ← hs]) (by rw [beN_s k0]; dsimp only; rw [if_pos (by omega), ← hn]) hQ
            | exact ih _ _ _ (k + 1) _ (by omega) (by omega) (by omega) (by omega) (by rw [beN_s k0]; dsimp only; rw [if_neg (by omega), ← hs]) (by rw [beN_s k0]; dsimp only; rw [if_neg (by omega), ← hn]) hQ

theorem wX9_belief {G : GT} {δ : Nat} {h hl : Nat → Int → Int} {b : Bool × Bool} {Q : V → Hp → Prop} {lo : Int} {R : Int → Int} {L : Laws} (hδ : δ ≤ 1660) (M : MT h R L)  (hQ : Q (vl (aBelief R lo)) (HS h hl b)) : WP G δ 0 0 MX9_belief 0 [vr (336), vi lo, vn, vn, vn, vn, vn, vn] [] (HS h hl b) Q := by
  have m := M.1
  have V := M.2.1
  have vn' := V.n
  have vw := V.w
  refine lc_1 dX9_belief_0 ?_
  refine ls_2 dX9_belief_1 rfl (by decide) ?_
  refine lc_1 dX9_belief_2 ?_
  refine ls_4 dX9_belief_3 rfl (by decide) ?_
  refine bi_43 dX9_belief_5 ?_
  refine is_6 dX9_belief_7 rfl (by decide) ?_
  exact wX9_belief_9 (by omega) M _ 1 1 43 0 _ (Nat.lt_succ_self _) (by omega) (by omega) rfl rfl rfl hQ
