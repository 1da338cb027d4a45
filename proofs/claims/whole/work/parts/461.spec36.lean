theorem wX0_digit {G : GT} {δ : Nat} {h hl : Nat → Int → Int} {b : Bool × Bool} {Q : V → Hp → Prop} {d : Int} (hδ : δ ≤ 1700) (d0 : 0 ≤ d) (d8 : d < 8) (hQ : Q (vi (dgI d)) (HS h hl b)) : WP G δ 0 0 MX0_digit 0 [vi d] [] (HS h hl b) Q := by
  refine ic_1 dX0_digit_0 ?_
  refine ic_2 dX0_digit_1 ?_
  refine bi_7 dX0_digit_2 ?_
  refine il_0 dX0_digit_4 ?_
  refine wp_isub dX0_digit_5 (r32 (by omega) (by omega)) ?_
  refine wp_imul dX0_digit_6 (r32 (by omega) (by omega)) ?_
  refine wp_ishl dX0_digit_7 ?_
  refine wp_ireti dX0_digit_8 rfl ?_
  exact hQ

theorem wX0_leastWith_5 {G : GT} {δ : Nat} {h hl : Nat → Int → Int} {b : Bool × Bool} {Q : V → Hp → Prop} {c l : Nat → Int} {D S : Nat} (hδ : δ ≤ 1680) (Hc : ∀ T : Nat, T < 256 → h 329 T = c T) (Hl : ∀ T : Nat, T &&& D = T → h (LO b) T = l T) (hD : D < 256) (hS : S &&& D = S) (bc : ∀ T : Nat, c T = 268435456 ∨ 0 ≤ c T ∧ c T ≤ 5111808) (bl : ∀ T : Nat, T &&& D = T → l T = 268435456 ∨ 0 ≤ l T ∧ l T ≤ 5111808) : ∀ (n : Nat) (v : Int) (x : Int), ((x + 1).toNat) < n → (x = -1 ∨ ∃ lo : Nat, x = lo ∧ lo &&& S = lo) → (LWv c l S (x + 1).toNat v) → (∀ v, LWv c l S 0 v → Q (vi v) (HS h hl b)) → WP G δ 0 0 MX0_leastWith 5 [vr (328), vi (S : Int), vi v, vi x] [] (HS h hl b) Q := by
  intro n
  induction n with
  | zero => intro v x hlt; exact absurd hlt (Nat.not_lt_zero _)
  | succ n ih =>
    intro v x hlt hx hv hQ
    have S8 : S < 256 := by have := Nat.and_le_right (n := S) (m := D); omega
    have v1 := hv.1
    have v2 : 0 ≤ v := by
      rcases hv.2.1 with z | ⟨T, t1, t2, t3, t4⟩
      · omega
      · have a := bc T
        have e := bl _ (xor_sub t1 hS).1
        omega
    refine il_3 dX0_leastWith_5 ?_
    refine wp_if_lt 70 dX0_leastWith_6 rfl (fun c6 => ?_) (fun c6 => ?_)
    · have ex : x = -1 := by rcases hx with z | ⟨lo, e, _⟩ <;> omega
      subst ex
      refine il_2 dX0_leastWith_70 ?_
      refine wp_ireti dX0_leastWith_71 rfl ?_
      exact hQ _ hv
    · obtain ⟨lo, rfl, tS⟩ : ∃ lo : Nat, x = lo ∧ lo &&& S = lo := by
        rcases hx with z | z
        · omega
        · exact z
      clear hx
      have ll : lo ≤ S := by have := Nat.and_le_right (n := lo) (m := S); omega
      have bx := bx_nat (a := S) (c := lo) (by omega) (by omega)
      have bxl : S ^^^ lo < 256 := Nat.xor_lt_two_pow (n := 8) (by omega) (by omega)
      have xs := (xor_sub tS hS).1
      have b1 := bc lo
      have b2 := bl _ xs
      rw [show ((lo : Int) + 1).toNat = lo + 1 by omega] at hv
      refine al_0 dX0_leastWith_9 ?_
      refine g_X0_9 (329) dX0_leastWith_10 rfl tt328 (rr0_0 tt328) (by omega) ?_
      refine il_3 dX0_leastWith_13 ?_
      refine wp_iaload dX0_leastWith_14 tt329 (by omega) (by omega) ?_
      rw [Hc lo (by omega)]
      refine wp_ldc (268435456) dX0_leastWith_15 ⟨by decide, by decide⟩ cc_X0_21 ?_
      refine wp_icmp_ge 53 dX0_leastWith_17 rfl (fun c17 => ?_) (fun c17 => ?_)
      · refine il_3 dX0_leastWith_53 ?_
        refine wp_if_ne 61 dX0_leastWith_54 rfl (fun c54 => ?_) (fun c54 => ?_)
        · refine il_3 dX0_leastWith_61 ?_
          refine ic_1 dX0_leastWith_62 ?_
          refine wp_isub dX0_leastWith_63 (r32 (by omega) (by omega)) ?_
          refine il_1 dX0_leastWith_64 ?_
          refine wp_iand dX0_leastWith_65 ?_
          rw [show (lo : Int) - 1 = ((lo - 1 : Nat) : Int) by omega, band_nn (by omega) (by omega) (by omega) (by omega), Int.toNat_natCast, Int.toNat_natCast]
          refine is_3 dX0_leastWith_66 rfl (by decide) ?_
          refine wp_goto 5 dX0_leastWith_67 rfl ?_
          have nl : (lo - 1) &&& S ≤ lo - 1 := Nat.and_le_left
          first
            | (have hw := LW_a hv (fun z => by omega)
               first
                 | (refine ih _ (-1) (by omega) (Or.inl rfl) ?_ hQ
                    have z0 : lo = 0 := by omega
                    rw [z0] at hw; exact hw)
                 | (refine ih _ _ (by omega) (Or.inr ⟨_, rfl, b_sub (fun j q => sub_b (S := S) (by rw [Nat.and_assoc, Nat.and_self]) q)⟩) ?_ hQ
                    exact LW_n hw S8 tS))
            | (have hw := LW_b hv tS (by omega) (by omega)
               first
                 | (refine ih _ (-1) (by omega) (Or.inl rfl) ?_ hQ
                    have z0 : lo = 0 := by omega
                    rw [z0] at hw ⊢; exact hw)
                 | (refine ih _ _ (by omega) (Or.inr ⟨_, rfl, b_sub (fun j q => sub_b (S := S) (by rw [Nat.and_assoc, Nat.and_self]) q)⟩) ?_ hQ
                    exact LW_n hw S8 tS))
        · refine ic_m1 dX0_leastWith_57 ?_
          refine wp_goto 66 dX0_leastWith_58 rfl ?_
          refine is_3 dX0_leastWith_66 rfl (by decide) ?_
          refine wp_goto 5 dX0_leastWith_67 rfl ?_
          have nl : (lo - 1) &&& S ≤ lo - 1 := Nat.and_le_left
          first
            | (have hw := LW_a hv (fun z => by omega)
               first
                 | (refine ih _ (-1) (by omega) (Or.inl rfl) ?_ hQ
                    have z0 : lo = 0 := by omega
                    rw [z0] at hw; exact hw)
                 | (refine ih _ _ (by omega) (Or.inr ⟨_, rfl, b_sub (fun j q => sub_b (S := S) (by rw [Nat.and_assoc, Nat.and_self]) q)⟩) ?_ hQ
                    exact LW_n hw S8 tS))
            | (have hw := LW_b hv tS (by omega) (by omega)
               first
                 | (refine ih _ (-1) (by omega) (Or.inl rfl) ?_ hQ
                    have z0 : lo = 0 := by omega
                    rw [z0] at hw ⊢; exact hw)
                 | (refine ih _ _ (by omega) (Or.inr ⟨_, rfl, b_sub (fun j q => sub_b (S := S) (by rw [Nat.and_assoc, Nat.and_self]) q)⟩) ?_ hQ
                    exact LW_n hw S8 tS))
      · refine al_0 dX0_leastWith_20 ?_
        refine g_X0_15 (LO b) dX0_leastWith_21 rfl tt328 (rrLO b) (LO_0 b) ?_
        refine il_1 dX0_leastWith_24 ?_
        refine il_3 dX0_leastWith_25 ?_
        refine wp_ixor dX0_leastWith_26 ?_
        rw [bx]
        refine wp_iaload dX0_leastWith_27 (tyLO b) (by omega) (by omega) ?_
        rw [Hl _ xs]
        refine wp_ldc (268435456) dX0_leastWith_28 ⟨by decide, by decide⟩ cc_X0_21 ?_
        refine wp_icmp_ge 53 dX0_leastWith_30 rfl (fun c30 => ?_) (fun c30 => ?_)
        · refine il_3 dX0_leastWith_53 ?_
          refine wp_if_ne 61 dX0_leastWith_54 rfl (fun c54 => ?_) (fun c54 => ?_)
          · refine il_3 dX0_leastWith_61 ?_
            refine ic_1 dX0_leastWith_62 ?_
            refine wp_isub dX0_leastWith_63 (r32 (by omega) (by omega)) ?_
            refine il_1 dX0_leastWith_64 ?_
            refine wp_iand dX0_leastWith_65 ?_
            rw [show (lo : Int) - 1 = ((lo - 1 : Nat) : Int) by omega, band_nn (by omega) (by omega) (by omega) (by omega), Int.toNat_natCast, Int.toNat_natCast]
            refine is_3 dX0_leastWith_66 rfl (by decide) ?_
            refine wp_goto 5 dX0_leastWith_67 rfl ?_
            have nl : (lo - 1) &&& S ≤ lo - 1 := Nat.and_le_left
            first
              | (have hw := LW_a hv (fun z => by omega)
                 first
                   | (refine ih _ (-1) (by omega) (Or.inl rfl) ?_ hQ
                      have z0 : lo = 0 := by omega
                      rw [z0] at hw; exact hw)
                   | (refine ih _ _ (by omega) (Or.inr ⟨_, rfl, b_sub (fun j q => sub_b (S := S) (by rw [Nat.and_assoc, Nat.and_self]) q)⟩) ?_ hQ
                      exact LW_n hw S8 tS))
              | (have hw := LW_b hv tS (by omega) (by omega)
                 first
                   | (refine ih _ (-1) (by omega) (Or.inl rfl) ?_ hQ
                      have z0 : lo = 0 := by omega
                      rw [z0] at hw ⊢; exact hw)
                   | (refine ih _ _ (by omega) (Or.inr ⟨_, rfl, b_sub (fun j q => sub_b (S := S) (by rw [Nat.and_assoc, Nat.and_self]) q)⟩) ?_ hQ
                      exact LW_n hw S8 tS))
          · refine ic_m1 dX0_leastWith_57 ?_
            refine wp_goto 66 dX0_leastWith_58 rfl ?_
            refine is_3 dX0_leastWith_66 rfl (by decide) ?_
            refine wp_goto 5 dX0_leastWith_67 rfl ?_
            have nl : (lo - 1) &&& S ≤ lo - 1 := Nat.and_le_left
            first
              | (have hw := LW_a hv (fun z => by omega)
                 first
                   | (refine ih _ (-1) (by omega) (Or.inl rfl) ?_ hQ
                      have z0 : lo = 0 := by omega
                      rw [z0] at hw; exact hw)
                   | (refine ih _ _ (by omega) (Or.inr ⟨_, rfl, b_sub (fun j q => sub_b (S := S) (by rw [Nat.and_assoc, Nat.and_self]) q)⟩) ?_ hQ
                      exact LW_n hw S8 tS))
              | (have hw := LW_b hv tS (by omega) (by omega)
                 first
                   | (refine ih _ (-1) (by omega) (Or.inl rfl) ?_ hQ
                      have z0 : lo = 0 := by omega
                      rw [z0] at hw ⊢; exact hw)
                   | (refine ih _ _ (by omega) (Or.inr ⟨_, rfl, b_sub (fun j q => sub_b (S := S) (by rw [Nat.and_assoc, Nat.and_self]) q)⟩) ?_ hQ
                      exact LW_n hw S8 tS))
        · refine il_2 dX0_leastWith_33 ?_
          refine al_0 dX0_leastWith_34 ?_
          refine g_X0_9 (329) dX0_leastWith_35 rfl tt328 (rr0_0 tt328) (by omega) ?_
          refine il_3 dX0_leastWith_38 ?_
          refine wp_iaload dX0_leastWith_39 tt329 (by omega) (by omega) ?_
          rw [Hc lo (by omega)]
          refine al_0 dX0_leastWith_40 ?_
          refine g_X0_15 (LO b) dX0_leastWith_41 rfl tt328 (rrLO b) (LO_0 b) ?_
          refine il_1 dX0_leastWith_44 ?_
          refine il_3 dX0_leastWith_45 ?_
          refine wp_ixor dX0_leastWith_46 ?_
          rw [bx]
          refine wp_iaload dX0_leastWith_47 (tyLO b) (by omega) (by omega) ?_
          rw [Hl _ xs]
          refine wp_iadd dX0_leastWith_48 (r32 (by omega) (by omega)) ?_
          refine c_X0_56 dX0_leastWith_49 rfl (by simp) (by omega) ?_
          refine is_2 dX0_leastWith_52 rfl (by decide) ?_
          refine il_3 dX0_leastWith_53 ?_
          refine wp_if_ne 61 dX0_leastWith_54 rfl (fun c54 => ?_) (fun c54 => ?_)
          · refine il_3 dX0_leastWith_61 ?_
            refine ic_1 dX0_leastWith_62 ?_
            refine wp_isub dX0_leastWith_63 (r32 (by omega) (by omega)) ?_
            refine il_1 dX0_leastWith_64 ?_
            refine wp_iand dX0_leastWith_65 ?_
            rw [show (lo : Int) - 1 = ((lo - 1 : Nat) : Int) by omega, band_nn (by omega) (by omega) (by omega) (by omega), Int.toNat_natCast, Int.toNat_natCast]
            refine is_3 dX0_leastWith_66 rfl (by decide) ?_
            refine wp_goto 5 dX0_leastWith_67 rfl ?_
            have nl : (lo - 1) &&& S ≤ lo - 1 := Nat.and_le_left
            first
              | (have hw := LW_a hv (fun z => by omega)
                 first
                   | (refine ih _ (-1) (by omega) (Or.inl rfl) ?_ hQ
                      have z0 : lo = 0 := by omega
                      rw [z0] at hw; exact hw)
                   | (refine ih _ _ (by omega) (Or.inr ⟨_, rfl, b_sub (fun j q => sub_b (S := S) (by rw [Nat.and_assoc, Nat.and_self]) q)⟩) ?_ hQ
                      exact LW_n hw S8 tS))
              | (have hw := LW_b hv tS (by omega) (by omega)
                 first
                   | (refine ih _ (-1) (by omega) (Or.inl rfl) ?_ hQ
                      have z0 : lo = 0 := by omega
                      rw [z0] at hw ⊢; exact hw)
                   | (refine ih _ _ (by omega) (Or.inr ⟨_, rfl, b_sub (fun j q => sub_b (S := S) (by rw [Nat.and_assoc, Nat.and_self]) q)⟩) ?_ hQ
                      exact LW_n hw S8 tS))
          · refine ic_m1 dX0_leastWith_57 ?_
            refine wp_goto 66 dX0_leastWith_58 rfl ?_
            refine is_3 dX0_leastWith_66 rfl (by decide) ?_
            refine wp_goto 5 dX0_leastWith_67 rfl ?_
            have nl : (lo - 1) &&& S ≤ lo - 1 := Nat.and_le_left
            first
              | (have hw := LW_a hv (fun z => by omega)
                 first
                   | (refine ih _ (-1) (by omega) (Or.inl rfl) ?_ hQ
                      have z0 : lo = 0 := by omega
                      rw [z0] at hw; exact hw)
                   | (refine ih _ _ (by omega) (Or.inr ⟨_, rfl, b_sub (fun j q => sub_b (S := S) (by rw [Nat.and_assoc, Nat.and_self]) q)⟩) ?_ hQ
                      exact LW_n hw S8 tS))
              | (have hw := LW_b hv tS (by omega) (by omega)
                 first
                   | (refine ih _ (-1) (by omega) (Or.inl rfl) ?_ hQ
                      have z0 : lo = 0 := by omega
                      rw [z0] at hw ⊢; exact hw)
                   | (refine ih _ _ (by omega) (Or.inr ⟨_, rfl, b_sub (fun j q => sub_b (S := S) (by rw [Nat.and_assoc, Nat.and_self]) q)⟩) ?_ hQ
                      exact LW_n hw S8 tS))

theorem wX0_leastWith {G : GT} {δ : Nat} {h hl : Nat → Int → Int} {b : Bool × Bool} {Q : V → Hp → Prop} {c l : Nat → Int} {D S : Nat} (hδ : δ ≤ 1680) (Hc : ∀ T : Nat, T < 256 → h 329 T = c T) (Hl : ∀ T : Nat, T &&& D = T → h (LO b) T = l T) (hD : D < 256) (hS : S &&& D = S) (bc : ∀ T : Nat, c T = 268435456 ∨ 0 ≤ c T ∧ c T ≤ 5111808) (bl : ∀ T : Nat, T &&& D = T → l T = 268435456 ∨ 0 ≤ l T ∧ l T ≤ 5111808) (hQ : ∀ v, LWv c l S 0 v → Q (vi v) (HS h hl b)) : WP G δ 0 0 MX0_leastWith 0 [vr (328), vi (S : Int), vn, vn] [] (HS h hl b) Q := by
  refine wp_ldc (268435456) dX0_leastWith_0 ⟨by decide, by decide⟩ cc_X0_21 ?_
  refine is_2 dX0_leastWith_2 rfl (by decide) ?_
  refine il_1 dX0_leastWith_3 ?_
  refine is_3 dX0_leastWith_4 rfl (by decide) ?_
  have S8 : S < 256 := by have := Nat.and_le_right (n := S) (m := D); omega
  refine wX0_leastWith_5 (by omega) Hc Hl hD hS bc bl _ _ _ (Nat.lt_succ_self _) (Or.inr ⟨S, rfl, Nat.and_self S⟩) ⟨by omega, Or.inl rfl, fun T a q => ?_⟩ hQ
  exfalso
  have := Nat.and_le_right (n := T) (m := S)
  omega

theorem wX0_priceAll_77 {G : GT} {δ : Nat} {hl : Nat → Int → Int} {b : Bool × Bool} {Q : V → Hp → Prop} {p as px : Int} {D d : Nat} {h0 : Nat → Int → Int} {R : Int → Int} {L : Laws} (hδ : δ ≤ 1620) (C0 : CT h0 R L) (p0 : 0 ≤ p) (p1 : p < R 0) (hD : (D : Int) < nS R) (d8 : d < 8) (hp : px = (if D.testBit d = true then PRc (FN L R) p d else 268435456)) : ∀ (n : Nat) (T : Nat) (c9 : Option (Int ⊕ Int ⊕ Nat ⊕ Nat)) (h : Nat → Int → Int), ((2 ^ d - T)) < n → (eqX BLL h0 h) → (T ≤ 2 ^ d) → (∀ j : Nat, j < 2 ^ d → h 329 j = CSTv (FN L R) (ON R) D p j) → (∀ j : Nat, j < T → h 329 ((2 ^ d + j : Nat) : Int) = CSTv (FN L R) (ON R) D p (2 ^ d + j)) → (∀ o, o = LO b → h o = h0 o) → (∀ h' : Nat → Int → Int, eqX BLL h0 h' → (∀ j : Nat, j < 2 ^ (d + 1) → h' 329 j = CSTv (FN L R) (ON R) D p j) → (∀ o, o = LO b → h' o = h0 o) → WP G δ 0 0 MX0_priceAll 141 [vr 328, vr 2, vi p, vi (D : Int), vi (d : Int), vn, vn, vn, vn, vn] [] (HS h' hl b) Q) → WP G δ 0 0 MX0_priceAll 77 [vr (328), vr (2), vi p, vi (D : Int), vi (d : Int), vi ((2 ^ d : Nat) : Int), vi as, vi px, vi (T : Int), c9] [] (HS h hl b) Q := by
  intro n
  induction n with
  | zero => intro T c9 h hlt; exact absurd hlt (Nat.not_lt_zero _)
  | succ n ih =>
    intro T c9 h hlt E t1 A B EL hQ
    have C := C0.bl E
    obtain ⟨⟨s0, s3, s4, s1, s2, s5⟩, ⟨t0, t1, t5, t6, t7⟩, ⟨g7, g8, g11, g10, g10x⟩⟩ := C.1.f
    have vn' := C.2.1.n
    have vw := C.2.1.w
    have p2 := two_R d (by omega)
    have p3 := two_mono d (by omega) 8 (by decide) (by omega)
    have oo := C.2.1.oil p p0 p1
    have cR := CST_R (O := ON R) (FN_R (L := L) (R := R)) p0 (show p < 4 by omega) (D := D) (T := T)
    have pR := PRc_R (FN_R (L := L) (R := R)) p0 (show p < 4 by omega) (show (0 : Int) ≤ d by omega) (by omega)
    have px_ : 0 ≤ px ∧ px ≤ 268435456 := by rw [hp]; split <;> omega
    refine il_8 dX0_priceAll_77 ?_
    refine il_5 dX0_priceAll_79 ?_
    refine wp_icmp_ge 141 dX0_priceAll_81 rfl (fun c81 => ?_) (fun c81 => ?_)
    · have e : T = 2 ^ d := by omega
      refine wp_fg (ls' := [_, _, _, _, _, vn, vn, vn, vn, vn]) ⟨Or.inr rfl, Or.inr rfl, Or.inr rfl, Or.inr rfl, Or.inr rfl, Or.inl rfl, Or.inl rfl, Or.inl rfl, Or.inl rfl, Or.inl rfl, trivial⟩ ?_
      refine hQ h E (fun j hj => ?_) EL
      have q : (2 ^ (d + 1) : Nat) = 2 ^ d * 2 := Nat.pow_succ _ _
      by_cases z : j < 2 ^ d
      · exact A j z
      · obtain ⟨k, ek⟩ : ∃ k, j = 2 ^ d + k := ⟨j - 2 ^ d, by omega⟩
        subst ek
        exact B k (by omega)
    · have cu := CST_up (O := ON R) (FN_R (L := L) (R := R)) p0 (show p < 4 by omega) (show 0 ≤ ON R p by unfold ON; omega) (show ON R p ≤ 99 by unfold ON; omega) (D := D) d8 (T := T) (by omega)
      rw [← hp] at cu
      refine al_0 dX0_priceAll_84 ?_
      refine g_X0_9 (329) dX0_priceAll_85 rfl tt328 (rr0_0 tt328) (by omega) ?_
      refine il_8 dX0_priceAll_88 ?_
      refine wp_iaload dX0_priceAll_90 tt329 (by omega) (by omega) ?_
      rw [A T (by omega)]
      refine il_7 dX0_priceAll_91 ?_
      refine wp_iadd dX0_priceAll_93 (r32 (by omega) (by omega)) ?_
      refine wp_ldc (268435456) dX0_priceAll_94 ⟨by decide, by decide⟩ cc_X0_21 ?_
      refine c_X0_56 dX0_priceAll_96 rfl (by simp) (by omega) ?_
      refine is_9 dX0_priceAll_99 rfl (by decide) ?_
      refine al_0 dX0_priceAll_101 ?_
      refine g_X0_9 (329) dX0_priceAll_102 rfl tt328 (rr0_0 tt328) (by omega) ?_
      refine il_5 dX0_priceAll_105 ?_
      refine il_8 dX0_priceAll_107 ?_
      refine wp_iadd dX0_priceAll_109 (r32 (by omega) (by omega)) ?_
      refine il_9 dX0_priceAll_110 ?_
      refine wp_ldc (65536) dX0_priceAll_112 ⟨by decide, by decide⟩ cc_X0_52 ?_
      refine wp_idivN dX0_priceAll_114 (by omega) (by omega) ?_
      refine al_1 dX0_priceAll_115 ?_
      refine g_X0_26 (3) dX0_priceAll_116 rfl tt2 (rr7_0 tt2) (by omega) ?_
      refine g_X0_62 (4) dX0_priceAll_119 rfl tt3 (rr5_6 tt3) (by omega) ?_
      refine il_2 dX0_priceAll_122 ?_
      refine wp_iaload dX0_priceAll_123 tt4 (by omega) (by omega) ?_
      rw [C.1.oil p p0 p1]
      refine wp_icmp_le 132 dX0_priceAll_124 rfl (fun c124 => ?_) (fun c124 => ?_)
      · refine il_9 dX0_priceAll_132 ?_
        refine wp_iastore dX0_priceAll_134 tt329 (by omega) (by omega) ?_
        refine ii_8 dX0_priceAll_135 rfl (by decide) ⟨by decide, by decide⟩ (r32 (by omega) (by omega)) ?_
        refine wp_goto 77 dX0_priceAll_138 rfl ?_
        refine wp_fg (ls' := [_, _, _, _, _, _, _, _, _, vn]) ⟨Or.inr rfl, Or.inr rfl, Or.inr rfl, Or.inr rfl, Or.inr rfl, Or.inr rfl, Or.inr rfl, Or.inr rfl, Or.inr rfl, Or.inl rfl, trivial⟩ ?_
        rw [show ((2 ^ d : Nat) : Int) + (T : Int) = ((2 ^ d + T : Nat) : Int) by omega]
        refine ih (T + 1) _ _ (by omega) (E.up (by decide)) (by omega) (fun j hj => ?_) (fun j hj => ?_) (fun o ho => ?_) hQ
        · rw [up_k (by omega)]; exact A j hj
        · by_cases e : j = T
          · subst e
            rw [up_s, cu]
            have eo : ON R p = R (13 + 2 * p) := rfl
            first | rw [if_pos (by omega)] | rw [if_neg (by omega)]
          · rw [up_k (by omega)]; exact B j (by omega)
        · rw [← EL o ho]; funext y; exact up_o (by rw [ho]; exact (LO_k b).1)
      · refine wp_ldc (268435456) dX0_priceAll_127 ⟨by decide, by decide⟩ cc_X0_21 ?_
        refine wp_goto 134 dX0_priceAll_129 rfl ?_
        refine wp_iastore dX0_priceAll_134 tt329 (by omega) (by omega) ?_
        refine ii_8 dX0_priceAll_135 rfl (by decide) ⟨by decide, by decide⟩ (r32 (by omega) (by omega)) ?_
        refine wp_goto 77 dX0_priceAll_138 rfl ?_
        refine wp_fg (ls' := [_, _, _, _, _, _, _, _, _, vn]) ⟨Or.inr rfl, Or.inr rfl, Or.inr rfl, Or.inr rfl, Or.inr rfl, Or.inr rfl, Or.inr rfl, Or.inr rfl, Or.inr rfl, Or.inl rfl, trivial⟩ ?_
        rw [show ((2 ^ d : Nat) : Int) + (T : Int) = ((2 ^ d + T : Nat) : Int) by omega]
        refine ih (T + 1) _ _ (by omega) (E.up (by decide)) (by omega) (fun j hj => ?_) (fun j hj => ?_) (fun o ho => ?_) hQ
        · rw [up_k (by omega)]; exact A j hj
        · by_cases e : j = T
          · subst e
            rw [up_s, cu]
            have eo : ON R p = R (13 + 2 * p) := rfl
            first | rw [if_pos (by omega)] | rw [if_neg (by omega)]
          · rw [up_k (by omega)]; exact B j (by omega)
        · rw [← EL o ho]; funext y; exact up_o (by rw [ho]; exact (LO_k b).1)

theorem dsp {R : Int → Int} {D d : Nat} (V : RV R) (hD : (D : Int) < nS R) (q : D.testBit d = true) : (d : Int) < R 1 := by
  have n := V.n
  have e := nS_e V
  rcases Int.lt_or_le (d : Int) (R 1) with z | z
  · exact z
  · rw [Nat.testBit_lt_two_pow (Nat.lt_of_lt_of_le (show D < 2 ^ (R 1).toNat by omega) (Nat.pow_le_pow_right (by decide) (by omega)))] at q; cases q

theorem wX0_priceAll_10 {G : GT} {δ : Nat} {hl : Nat → Int → Int} {b : Bool × Bool} {Q : V → Hp → Prop} {p : Int} {D : Nat} {h0 : Nat → Int → Int} {R : Int → Int} {L : Laws} (hδ : δ ≤ 1620) (C0 : CT h0 R L) (p0 : 0 ≤ p) (p1 : p < R 0) (hD : (D : Int) < nS R) : ∀ (n : Nat) (d : Nat) (c5 : Option (Int ⊕ Int ⊕ Nat ⊕ Nat)) (c6 : Option (Int ⊕ Int ⊕ Nat ⊕ Nat)) (c7 : Option (Int ⊕ Int ⊕ Nat ⊕ Nat)) (c8 : Option (Int ⊕ Int ⊕ Nat ⊕ Nat)) (c9 : Option (Int ⊕ Int ⊕ Nat ⊕ Nat)) (h : Nat → Int → Int), ((8 - d)) < n → (eqX BLL h0 h) → (d ≤ 8) → (∀ j : Nat, j < 2 ^ d → h 329 j = CSTv (FN L R) (ON R) D p j) → (∀ o, o = LO b → h o = h0 o) → (∀ h' : Nat → Int → Int, eqX BLL h0 h' → (∀ j : Nat, j < 256 → h' 329 j = CSTv (FN L R) (ON R) D p j) → (∀ o, o = LO b → h' o = h0 o) → Q vn (HS h' hl b)) → WP G δ 0 0 MX0_priceAll 10 [vr (328), vr (2), vi p, vi (D : Int), vi (d : Int), c5, c6, c7, c8, c9] [] (HS h hl b) Q := by
  intro n
  induction n with
  | zero => intro d c5 c6 c7 c8 c9 h hlt; exact absurd hlt (Nat.not_lt_zero _)
  | succ n ih =>
    intro d c5 c6 c7 c8 c9 h hlt E d1 A EL hQ
    have C := C0.bl E
    obtain ⟨⟨s0, s3, s4, s1, s2, s5⟩, ⟨t0, t1, t5, t6, t7⟩, ⟨g7, g8, g11, g10, g10x⟩⟩ := C.1.f
    have vn' := C.2.1.n
    have vw := C.2.1.w
    have nn := nS_e C.2.1
    refine il_4 dX0_priceAll_10 ?_
    refine bi_8 dX0_priceAll_12 ?_
    refine wp_icmp_ge 147 dX0_priceAll_14 rfl (fun c14 => ?_) (fun c14 => ?_)
    · have e : d = 8 := by omega
      subst e
      refine wp_vret dX0_priceAll_147 rfl ?_
      exact hQ h E A EL
    · refine ic_1 dX0_priceAll_17 ?_
      refine il_4 dX0_priceAll_18 ?_
      refine wp_ishl dX0_priceAll_20 ?_
      rw [shl_2 d (by omega)]
      refine is_5 dX0_priceAll_21 rfl (by decide) ?_
      refine il_3 dX0_priceAll_23 ?_
      refine il_4 dX0_priceAll_24 ?_
      refine wp_ishr dX0_priceAll_26 ?_
      refine ic_1 dX0_priceAll_27 ?_
      refine wp_iand dX0_priceAll_28 ?_
      rw [has_tb (by omega) (by omega) (by omega) (by omega)]
      refine ic_1 dX0_priceAll_29 ?_
      refine wp_icmp_ne 37 dX0_priceAll_30 rfl (fun c30 => ?_) (fun c30 => ?_)
      · have q : D.testBit d = false := by
          cases z : D.testBit d with
          | false => rfl
          | true => rw [show tb (D : Int) (d : Int) = D.testBit d from rfl, z] at c30; exact absurd rfl c30
        refine ic_0 dX0_priceAll_37 ?_
        refine is_6 dX0_priceAll_38 rfl (by decide) ?_
        refine il_6 dX0_priceAll_40 ?_
        refine wp_if_eq 70 dX0_priceAll_42 rfl (fun c42 => ?_) (fun c42 => ?_)
        · refine wp_ldc (268435456) dX0_priceAll_70 ⟨by decide, by decide⟩ cc_X0_21 ?_
          refine is_7 dX0_priceAll_72 rfl (by decide) ?_
          refine ic_0 dX0_priceAll_74 ?_
          refine is_8 dX0_priceAll_75 rfl (by decide) ?_
          refine wX0_priceAll_77 (by omega) C0 p0 p1 hD (by omega) (by rw [q]; rfl) _ 0 _ _ (Nat.lt_succ_self _) E (Nat.zero_le _) A (fun j hj => by omega) EL (fun h2 E2 A2 EL2 => ?_)
          refine ii_4 dX0_priceAll_141 rfl (by decide) ⟨by decide, by decide⟩ (r32 (by omega) (by omega)) ?_
          refine wp_goto 10 dX0_priceAll_144 rfl ?_
          exact ih (d + 1) _ _ _ _ _ h2 (by omega) E2 (by omega) A2 EL2 hQ
        · exact absurd rfl c42
      · have q : D.testBit d = true := by
          cases z : D.testBit d with
          | true => rfl
          | false => rw [show tb (D : Int) (d : Int) = D.testBit d from rfl, z] at c30; exact absurd c30 (by decide)
        refine ic_1 dX0_priceAll_33 ?_
        refine wp_goto 38 dX0_priceAll_34 rfl ?_
        refine is_6 dX0_priceAll_38 rfl (by decide) ?_
        refine il_6 dX0_priceAll_40 ?_
        refine wp_if_eq 70 dX0_priceAll_42 rfl (fun c42 => ?_) (fun c42 => ?_)
        · exact absurd c42 (by decide)
        · refine al_1 dX0_priceAll_45 ?_
          refine al_1 dX0_priceAll_46 ?_
          refine g_X0_45 dX0_priceAll_47 rfl tt2 ?_
          rw [g8]
          refine il_4 dX0_priceAll_50 ?_
          refine il_2 dX0_priceAll_52 ?_
          refine c_X0_48 dX0_priceAll_53 rfl tt2 (Nat.le_of_ble_eq_true rfl) (by omega) ?_
          have d1 : (d : Int) < R 1 := dsp C.2.1 hD q
          refine wX7_fillsBy (by omega) C.1 C.2.1 C.2.2 (by omega) d1 p0 p1 (fun h1 E1 => ?_)
          refine pv_i ?_
          refine wp_ldc (65536) dX0_priceAll_56 ⟨by decide, by decide⟩ cc_X0_52 ?_
          refine wp_imul dX0_priceAll_58 (by have fr := fillsV_R (L := L) (R := R) (t := R 3) (d := (d : Int)) (p := p); exact r32 (by omega) (by omega)) ?_
          refine il_2 dX0_priceAll_59 ?_
          refine il_4 dX0_priceAll_60 ?_
          refine c_X0_53 dX0_priceAll_62 rfl (Nat.le_of_ble_eq_true rfl) (by omega) ?_
          have dr := dgI_R (d := (d : Int)) (by omega) (by omega)
          have pm := mulR p0 (show p ≤ 3 by omega) (show 0 ≤ dgI (d : Int) by omega) dr.2
          refine wX0_digit (by omega) (by omega) (by omega) ?_
          refine pv_i ?_
          refine wp_imul dX0_priceAll_65 (r32 (by omega) (by omega)) ?_
          refine wp_iadd dX0_priceAll_66 (by have fr := fillsV_R (L := L) (R := R) (t := R 3) (d := (d : Int)) (p := p); exact r32 (by omega) (by omega)) ?_
          refine wp_goto 72 dX0_priceAll_67 rfl ?_
          refine is_7 dX0_priceAll_72 rfl (by decide) ?_
          refine ic_0 dX0_priceAll_74 ?_
          refine is_8 dX0_priceAll_75 rfl (by decide) ?_
          refine wX0_priceAll_77 (by omega) C0 p0 p1 hD (by omega) (by rw [q, if_pos rfl]; rfl) _ 0 _ _ (Nat.lt_succ_self _) (E.tr (E1.mono (by decide))) (Nat.zero_le _) (fun j hj => by rw [E1 329 (by decide)]; exact A j hj) (fun j hj => by omega) (fun o ho => by rw [E1 o (by rw [ho]; exact (LO_k b).2.2.2.2.1)]; exact EL o ho) (fun h2 E2 A2 EL2 => ?_)
          refine ii_4 dX0_priceAll_141 rfl (by decide) ⟨by decide, by decide⟩ (r32 (by omega) (by omega)) ?_
          refine wp_goto 10 dX0_priceAll_144 rfl ?_
          exact ih (d + 1) _ _ _ _ _ h2 (by omega) E2 (by omega) A2 EL2 hQ

theorem wX0_priceAll {G : GT} {δ : Nat} {h hl : Nat → Int → Int} {b : Bool × Bool} {Q : V → Hp → Prop} {p : Int} {D : Nat} {R : Int → Int} {L : Laws} (hδ : δ ≤ 1620) (C : CT h R L) (p0 : 0 ≤ p) (p1 : p < R 0) (hD : (D : Int) < nS R) (hQ : ∀ h' : Nat → Int → Int, eqX BLL h h' → (∀ j : Nat, j < 256 → h' 329 j = CSTv (FN L R) (ON R) D p j) → (∀ o, o = LO b → h' o = h o) → Q vn (HS h' hl b)) : WP G δ 0 0 MX0_priceAll 0 [vr (328), vr (2), vi p, vi (D : Int), vn, vn, vn, vn, vn, vn] [] (HS h hl b) Q := by
  have V := C.2.1
  have n := V.n
  have oo := V.oil p p0 p1
  refine al_0 dX0_priceAll_0 ?_
  refine g_X0_9 (329) dX0_priceAll_1 rfl tt328 (rr0_0 tt328) (by omega) ?_
  refine ic_0 dX0_priceAll_4 ?_
  refine ic_0 dX0_priceAll_5 ?_
  refine wp_iastore dX0_priceAll_6 tt329 (by omega) (by omega) ?_
  refine ic_0 dX0_priceAll_7 ?_
  refine is_4 dX0_priceAll_8 rfl (by decide) ?_
  refine wX0_priceAll_10 (by omega) C p0 p1 hD _ 0 _ _ _ _ _ _ (Nat.lt_succ_self _) (show eqX BLL h (up h 329 0 0) from eqX.rf.up (by decide)) (by omega) (fun j hj => ?_) (fun o ho => by funext y; exact up_o (by rw [ho]; exact (LO_k b).1)) hQ
  have z : j = 0 := by simpa using hj
  subst z
  rw [CST_0 (by unfold ON; omega)]
  exact up_s

theorem wX0_solve_2 {G : GT} {δ : Nat} {hl : Nat → Int → Int} {b : Bool × Bool} {Q : V → Hp → Prop} {D : Int} {h0 : Nat → Int → Int} (hδ : δ ≤ 1600)  : ∀ (n : Nat) (s : Int) (h : Nat → Int → Int), ((256 - s).toNat) < n → (eqX BLL h0 h) → (0 ≤ s) → (s ≤ 256) → (∀ S : Nat, (S : Int) < s → h (LO b) S = if S = 0 then 0 else 268435456) → (∀ h' : Nat → Int → Int, eqX BLL h0 h' → (∀ S : Nat, S < 256 → h' (LO b) S = if S = 0 then 0 else 268435456) → WP G δ 0 0 MX0_solve 31 [vr 328, vr 2, vi D, vn, vn] [] (HS h' hl b) Q) → WP G δ 0 0 MX0_solve 2 [vr (328), vr (2), vi D, vi s, vn] [] (HS h hl b) Q := by
  intro n
  induction n with
  | zero => intro s h hlt; exact absurd hlt (Nat.not_lt_zero _)
  | succ n ih =>
    intro s h hlt E s0 s1 A hQ
    refine il_3 dX0_solve_2 ?_
    refine si_256 dX0_solve_3 ?_
    refine wp_icmp_ge 31 dX0_solve_6 rfl (fun c6 => ?_) (fun c6 => ?_)
    · have e : s = 256 := by omega
      subst e
      refine wp_fg (ls' := [_, _, _, vn, vn]) ⟨Or.inr rfl, Or.inr rfl, Or.inr rfl, Or.inl rfl, Or.inl rfl, trivial⟩ ?_
      exact hQ h E (fun S hS => A S (by omega))
    · refine al_0 dX0_solve_9 ?_
      refine g_X0_15 (LO b) dX0_solve_10 rfl tt328 (rrLO b) (LO_0 b) ?_
      refine il_3 dX0_solve_13 ?_
      refine il_3 dX0_solve_14 ?_
      refine wp_if_ne 22 dX0_solve_15 rfl (fun c15 => ?_) (fun c15 => ?_)
      · refine wp_ldc (268435456) dX0_solve_22 ⟨by decide, by decide⟩ cc_X0_21 ?_
        refine wp_iastore dX0_solve_24 (tyLO b) (by omega) (by omega) ?_
        refine ii_3 dX0_solve_25 rfl (by decide) ⟨by decide, by decide⟩ (r32 (by omega) (by omega)) ?_
        refine wp_goto 2 dX0_solve_28 rfl ?_
        refine ih (s + 1) _ (by omega) (E.up (LO_m b)) (by omega) (by omega) (fun S hS => ?_) hQ
        by_cases e : (S : Int) = s
        · rw [e, up_s]
          first | rw [if_pos (by omega)] | rw [if_neg (by omega)]
        · rw [up_k e]; exact A S (by omega)
      · refine ic_0 dX0_solve_18 ?_
        refine wp_goto 24 dX0_solve_19 rfl ?_
        refine wp_iastore dX0_solve_24 (tyLO b) (by omega) (by omega) ?_
        refine ii_3 dX0_solve_25 rfl (by decide) ⟨by decide, by decide⟩ (r32 (by omega) (by omega)) ?_
        refine wp_goto 2 dX0_solve_28 rfl ?_
        refine ih (s + 1) _ (by omega) (E.up (LO_m b)) (by omega) (by omega) (fun S hS => ?_) hQ
        by_cases e : (S : Int) = s
        · rw [e, up_s]
          first | rw [if_pos (by omega)] | rw [if_neg (by omega)]
        · rw [up_k e]; exact A S (by omega)

theorem wX0_solve_54 {G : GT} {δ : Nat} {hl : Nat → Int → Int} {b : Bool × Bool} {Q : V → Hp → Prop} {p : Int} {D : Nat} {l : Nat → Int} {h0 : Nat → Int → Int} {R : Int → Int} {L : Laws} (hδ : δ ≤ 1600) (p0 : 0 ≤ p) (p4 : p < 4) (hD : D < 256) (hl_ : ∀ S : Nat, S &&& D = S → BV (FN L R) (ON R) p S (l S)) : ∀ (n : Nat) (s : Nat) (h : Nat → Int → Int), ((256 - s)) < n → (eqX BLL h0 h) → (s ≤ 256) → (∀ T : Nat, T < 256 → h 329 T = CSTv (FN L R) (ON R) D p T) → (∀ S : Nat, S &&& D = S → h (LO b) S = l S) → (∀ S : Nat, S &&& D = S → S < s → BV (FN L R) (ON R) (p + 1) S (h (NL b) S)) → (∀ h' : Nat → Int → Int, eqX BLL h0 h' → (∀ S : Nat, S &&& D = S → BV (FN L R) (ON R) (p + 1) S (h' (NL b) S)) → WP G δ 0 0 MX0_solve 101 [vr 328, vr 2, vi (D : Int), vi p, vn] [] (HS h' hl b) Q) → WP G δ 0 0 MX0_solve 54 [vr (328), vr (2), vi (D : Int), vi p, vi (s : Int)] [] (HS h hl b) Q := by
  intro n
  induction n with
  | zero => intro s h hlt; exact absurd hlt (Nat.not_lt_zero _)
  | succ n ih =>
    intro s h hlt E s1 Hc Hl B hQ
    refine il_4 dX0_solve_54 ?_
    refine il_2 dX0_solve_56 ?_
    refine wp_icmp_gt 101 dX0_solve_57 rfl (fun c57 => ?_) (fun c57 => ?_)
    · refine wp_fg (ls' := [_, _, _, _, vn]) ⟨Or.inr rfl, Or.inr rfl, Or.inr rfl, Or.inr rfl, Or.inl rfl, trivial⟩ ?_
      refine hQ h E (fun S hS => B S hS ?_)
      have := Nat.and_le_right (n := S) (m := D)
      omega
    · refine il_4 dX0_solve_60 ?_
      refine si_256 dX0_solve_62 ?_
      refine wp_icmp_ge 101 dX0_solve_65 rfl (fun c65 => ?_) (fun c65 => ?_)
      · refine wp_fg (ls' := [_, _, _, _, vn]) ⟨Or.inr rfl, Or.inr rfl, Or.inr rfl, Or.inr rfl, Or.inl rfl, trivial⟩ ?_
        refine hQ h E (fun S hS => B S hS ?_)
        have := Nat.and_le_right (n := S) (m := D)
        omega
      · refine al_0 dX0_solve_68 ?_
        refine g_X0_18 (NL b) dX0_solve_69 rfl tt328 (rrNL b) (NL_0 b) ?_
        refine il_4 dX0_solve_72 ?_
        refine il_4 dX0_solve_74 ?_
        refine il_2 dX0_solve_76 ?_
        refine ic_m1 dX0_solve_77 ?_
        refine wp_ixor dX0_solve_78 ?_
        refine wp_iand dX0_solve_79 ?_
        refine wp_if_ne 92 dX0_solve_80 rfl (fun c80 => ?_) (fun c80 => ?_)
        · have sD : ¬ s &&& D = s := fun z => c80 ((nbD D hD s (by omega)).2 z)
          refine wp_ldc (268435456) dX0_solve_92 ⟨by decide, by decide⟩ cc_X0_21 ?_
          refine wp_iastore dX0_solve_94 (tyNL b) (by omega) (by omega) ?_
          refine ii_4 dX0_solve_95 rfl (by decide) ⟨by decide, by decide⟩ (r32 (by omega) (by omega)) ?_
          refine wp_goto 54 dX0_solve_98 rfl ?_
          refine ih (s + 1) _ (by omega) (E.up (NL_m b)) (by omega) (fun T hT => ?_) (fun S hS => ?_) (fun S hS h2 => ?_) hQ
          · rw [up_o (fun z => (LO_k b).2.1 z.symm)]; exact Hc T hT
          · rw [up_o (LN b)]; exact Hl S hS
          · by_cases e : S = s
            · subst e
              rw [up_s]
              first | exact bv | exact absurd hS sD
            · rw [up_k (by omega)]; exact B S hS (by omega)
        · have sD := (nbD D hD s (by omega)).1 c80
          refine al_0 dX0_solve_83 ?_
          refine il_4 dX0_solve_84 ?_
          refine c_X0_41 dX0_solve_86 rfl tt328 (Nat.le_of_ble_eq_true rfl) (by omega) ?_
          refine wX0_leastWith (by omega) Hc Hl hD sD (fun T => ?_) (fun T hT => ?_) (fun v hv => ?_)
          · have := CST_R (O := ON R) (FN_R (L := L) (R := R)) p0 p4 (D := D) (T := T); omega
          · obtain ⟨a, q, _⟩ := hl_ T hT
            rcases q with q | ⟨y, y1, y2⟩
            · exact Or.inl q
            · have := COST_R (FN_R (L := L) (R := R)) (show p ≤ 4 by omega) y1; omega
          have bv := BV_s FN_R p0 p4 hD sD hl_ hv
          refine pv_i ?_
          refine wp_goto 94 dX0_solve_89 rfl ?_
          refine wp_iastore dX0_solve_94 (tyNL b) (by omega) (by omega) ?_
          refine ii_4 dX0_solve_95 rfl (by decide) ⟨by decide, by decide⟩ (r32 (by omega) (by omega)) ?_
          refine wp_goto 54 dX0_solve_98 rfl ?_
          refine ih (s + 1) _ (by omega) (E.up (NL_m b)) (by omega) (fun T hT => ?_) (fun S hS => ?_) (fun S hS h2 => ?_) hQ
          · rw [up_o (fun z => (LO_k b).2.1 z.symm)]; exact Hc T hT
          · rw [up_o (LN b)]; exact Hl S hS
          · by_cases e : S = s
            · subst e
              rw [up_s]
              first | exact bv | exact absurd hS sD
            · rw [up_k (by omega)]; exact B S hS (by omega)

theorem wX0_solve_33 {G : GT} {δ : Nat} {hl : Nat → Int → Int} {Q : V → Hp → Prop} {D : Nat} {h0 : Nat → Int → Int} {R : Int → Int} {L : Laws} (hδ : δ ≤ 1600) (C0 : CT h0 R L) (hD : (D : Int) < nS R) : ∀ (n : Nat) (p : Nat) (h : Nat → Int → Int) (c4 : Option (Int ⊕ Int ⊕ Nat ⊕ Nat)) (b : Bool × Bool), (((R 0).toNat - p)) < n → (eqX BLL h0 h) → ((p : Int) ≤ R 0) → (∀ S : Nat, S &&& D = S → BV (FN L R) (ON R) p S (h (LO b) S)) → (∀ h' : Nat → Int → Int, ∀ b' : Bool × Bool, ∀ v : Int, eqX BLL h0 h' → BV (FN L R) (ON R) (R 0) D v → h' 328 3 = v → Q (vi (b2i (v < 268435456))) (HS h' hl b')) → WP G δ 0 0 MX0_solve 33 [vr (328), vr (2), vi (D : Int), vi (p : Int), c4] [] (HS h hl b) Q := by
  intro n
  induction n with
  | zero => intro p h c4 b hlt; exact absurd hlt (Nat.not_lt_zero _)
  | succ n ih =>
    intro p h c4 b hlt E p1 A hQ
    have C := C0.bl E
    obtain ⟨⟨s0, s3, s4, s1, s2, s5⟩, ⟨t0, t1, t5, t6, t7⟩, ⟨g7, g8, g11, g10, g10x⟩⟩ := C.1.f
    have vn' := C.2.1.n
    have vw := C.2.1.w
    have nn := nS_e C.2.1
    have AD := A D (Nat.and_self D)
    refine il_3 dX0_solve_33 ?_
    refine al_1 dX0_solve_34 ?_
    refine g_X0_26 (3) dX0_solve_35 rfl tt2 (rr7_0 tt2) (by omega) ?_
    refine g_X0_32 dX0_solve_38 rfl tt3 ?_
    rw [s0]
    refine wp_icmp_ge 127 dX0_solve_41 rfl (fun c41 => ?_) (fun c41 => ?_)
    · have e : R 0 = p := by omega
      rw [← e] at AD
      refine al_0 dX0_solve_127 ?_
      refine il_2 dX0_solve_128 ?_
      refine wp_if_lt 148 dX0_solve_129 rfl (fun c129 => ?_) (fun c129 => ?_)
      · omega
      · refine il_2 dX0_solve_132 ?_
        refine si_256 dX0_solve_133 ?_
        refine wp_icmp_ge 148 dX0_solve_136 rfl (fun c136 => ?_) (fun c136 => ?_)
        · omega
        · refine al_0 dX0_solve_139 ?_
          refine g_X0_15 (LO b) dX0_solve_140 rfl tt328 (rrLO b) (LO_0 b) ?_
          refine il_2 dX0_solve_143 ?_
          refine wp_iaload dX0_solve_144 (tyLO b) (by omega) (by omega) ?_
          refine wp_goto 150 dX0_solve_145 rfl ?_
          refine p_X0_22 dX0_solve_150 rfl tt328 ?_
          refine al_0 dX0_solve_153 ?_
          refine g_X0_22 dX0_solve_154 rfl tt328 ?_
          rw [up_s]
          refine wp_ldc (268435456) dX0_solve_157 ⟨by decide, by decide⟩ cc_X0_21 ?_
          refine wp_icmp_ge 166 dX0_solve_159 rfl (fun c159 => ?_) (fun c159 => ?_)
          · refine ic_0 dX0_solve_166 ?_
            refine wp_iretz dX0_solve_167 rfl (by omega) ?_
            first
              | exact qv (hQ _ b _ (E.up (by decide)) AD (by rw [up_s])) (b2i_f (by omega))
              | exact qv (hQ _ b _ (E.up (by decide)) AD (by rw [up_s])) (b2i_t (by omega))
          · refine ic_1 dX0_solve_162 ?_
            refine wp_goto 167 dX0_solve_163 rfl ?_
            refine wp_iretz dX0_solve_167 rfl (by omega) ?_
            first
              | exact qv (hQ _ b _ (E.up (by decide)) AD (by rw [up_s])) (b2i_f (by omega))
              | exact qv (hQ _ b _ (E.up (by decide)) AD (by rw [up_s])) (b2i_t (by omega))
    · refine al_0 dX0_solve_44 ?_
      refine al_1 dX0_solve_45 ?_
      refine il_3 dX0_solve_46 ?_
      refine il_2 dX0_solve_47 ?_
      refine c_X0_37 dX0_solve_48 rfl tt328 (Nat.le_of_ble_eq_true rfl) (by omega) ?_
      refine wX0_priceAll (by omega) C (by omega) (by omega) hD (fun h1 E1 A1 EL1 => ?_)
      refine pv_n ?_
      refine ic_0 dX0_solve_51 ?_
      refine is_4 dX0_solve_52 rfl (by decide) ?_
      refine wX0_solve_54 (l := fun S => h (LO b) S) (p := (p : Int)) (by omega) (by omega) (by omega) (by omega) A _ 0 h1 (Nat.lt_succ_self _) E1 (by omega) A1 (fun S hS => by rw [EL1 _ rfl]) (fun S hS h2 => by omega) (fun h2 E2 B2 => ?_)
      refine al_0 dX0_solve_101 ?_
      refine g_X0_15 (LO b) dX0_solve_102 rfl tt328 (rrLO b) (LO_0 b) ?_
      refine as_4 dX0_solve_105 rfl (by decide) ?_
      refine al_0 dX0_solve_107 ?_
      refine al_0 dX0_solve_108 ?_
      refine g_X0_18 (NL b) dX0_solve_109 rfl tt328 (rrNL b) (NL_0 b) ?_
      refine p_X0_15 dX0_solve_112 rfl tt328 (NL_0 b) ?_
      refine al_0 dX0_solve_115 ?_
      refine al_4 dX0_solve_116 ?_
      refine p_X0_18 dX0_solve_118 rfl tt328 (LO_0 b) ?_
      refine ii_3 dX0_solve_121 rfl (by decide) ⟨by decide, by decide⟩ (r32 (by omega) (by omega)) ?_
      refine wp_goto 33 dX0_solve_124 rfl ?_
      show WP G δ 0 0 MX0_solve 33 _ [] (TT, h2, hl, up (up (RR b) 328 1 (NL b)) 328 2 (LO b)) Q
      rw [swapB]
      refine ih (p + 1) h2 _ (b.1, !b.2) (by omega) (E.tr E2) (by omega) (fun S hS => ?_) hQ
      rw [LO_sw]; exact B2 S hS

theorem wX0_solve {G : GT} {δ : Nat} {h hl : Nat → Int → Int} {b : Bool × Bool} {Q : V → Hp → Prop} {D : Nat} {R : Int → Int} {L : Laws} (hδ : δ ≤ 1600) (C : CT h R L) (hD : (D : Int) < nS R) (hQ : ∀ h' : Nat → Int → Int, ∀ b' : Bool × Bool, ∀ v : Int, eqX BLL h h' → BV (FN L R) (ON R) (R 0) D v → h' 328 3 = v → Q (vi (b2i (v < 268435456))) (HS h' hl b')) : WP G δ 0 0 MX0_solve 0 [vr (328), vr (2), vi (D : Int), vn, vn] [] (HS h hl b) Q := by
  refine ic_0 dX0_solve_0 ?_
  refine is_3 dX0_solve_1 rfl (by decide) ?_
  refine wX0_solve_2 (by omega) _ 0 h (Nat.lt_succ_self _) eqX.rf (by omega) (by omega) (fun S hS => by omega) (fun h1 E1 A1 => ?_)
  have nn := nS_e C.2.1
  have n := C.2.1.n
  refine ic_0 dX0_solve_31 ?_
  refine is_3 dX0_solve_32 rfl (by decide) ?_
  refine wX0_solve_33 (by omega) C hD _ 0 h1 _ b (Nat.lt_succ_self _) E1 (by omega) (fun S hS => ?_) hQ
  have S8 : S < 256 := by have := Nat.and_le_right (n := S) (m := D); omega
  rw [A1 S S8]; exact BV_0 S8
