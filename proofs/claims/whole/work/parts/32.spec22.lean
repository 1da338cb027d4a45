/-! calls that look -/
def aOf (R : Int → Int) (p w : Int) : Int := if 0 ≤ p ∧ p < R 0 then (if w = 0 then R (13 + 2 * p) else if w = 1 then R (21 + p) else if w = 2 then R (14 + 2 * p) else -2) else -2
def aLamps (R : Int → Int) (d : Int) : Int := if 0 ≤ d ∧ d < R 1 then R (29 + d) else -1
def aIs (R : Int → Int) (w : Int) : Int := if 0 ≤ w ∧ w ≤ 2 then R (8 + w) else if w = 3 then allOil R else if w = 4 then R 11 else -2
def entV (R : Int → Int) (i w : Int) : Int := if w = 0 then R (1253 + i) / 32768 else if w = 1 then R (1253 + i) / 4096 % 8 else if w = 2 then R (1253 + i) / 1024 % 4 else R (1253 + i) % 1024
def aBook (R : Int → Int) (i w : Int) : Int := if i = -1 then R 12 else if (0 ≤ i ∧ i < R 12) ∧ 0 ≤ w ∧ w ≤ 3 then entV R i w else -2
def aLedger (R : Int → Int) (p : Int) : Int := if p = -1 then R 12 else if 0 ≤ p ∧ p < R 0 then cntN (fun j => entV R j 2 == p) (R 12).toNat else -2
def aSurest (R : Int → Int) : Int := minIx (fun i j => decide (R (21 + i) < R (21 + j))) (R 0).toNat
def aPoorest (R : Int → Int) : Int := minIx (fun i j => decide (R (13 + 2 * i) < R (13 + 2 * j))) (R 0).toNat
def foN (f : Int → Int) : Nat → Int
  | 0 => -1
  | n + 1 => if (if foN f n = -1 then 0 else f (foN f n)) < f n then n else foN f n
theorem foN_s {f : Int → Int} {p : Int} (h : 0 ≤ p) : foN f (p + 1).toNat = if (if foN f p.toNat = -1 then 0 else f (foN f p.toNat)) < f p then p else foN f p.toNat := by
  obtain ⟨n, rfl⟩ := Int.eq_ofNat_of_zero_le h
  rfl
theorem foN_R {f : Int → Int} : ∀ n : Nat, -1 ≤ foN f n ∧ foN f n < n
  | 0 => by unfold foN; omega
  | n + 1 => by
    have := foN_R (f := f) n
    unfold foN
    split <;> omega
def aFool (R : Int → Int) : Int := foN (fun i => R (14 + 2 * i)) (R 0).toNat
def blLt (R : Int → Int) (m : Int) (i j : Int) : Bool := if m = 0 then decide (pc (bxor (R 10) (R (29 + i))) < pc (bxor (R 10) (R (29 + j)))) else decide (pc (bxor (R 10) (R (29 + j))) < pc (bxor (R 10) (R (29 + i))))
def aBlaze (R : Int → Int) (m : Int) : Int := minIx (blLt R m) (R 1).toNat
def allN (P : Int → Bool) : Nat → Bool
  | 0 => true
  | n + 1 => allN P n && P n
theorem allN_s {P : Int → Bool} {p : Int} (h : 0 ≤ p) : allN P (p + 1).toNat = (allN P p.toNat && P p) := by
  obtain ⟨n, rfl⟩ := Int.eq_ofNat_of_zero_le h
  rfl
theorem allN_f {P : Int → Bool} : ∀ (n : Nat) (i : Int), 0 ≤ i → i < n → P i = false → allN P n = false
  | 0, i, h0, h1, _ => by omega
  | n + 1, i, h0, h1, e => by
    unfold allN
    by_cases q : i = n
    · rw [← q, e]; simp
    · rw [allN_f n i h0 (by omega) e]; rfl
def setN (P : Int → Bool) : Nat → Int
  | 0 => 0
  | n + 1 => if P n then bor (setN P n) (shl 1 n) else setN P n
theorem setN_s {P : Int → Bool} {p : Int} (h : 0 ≤ p) : setN P (p + 1).toNat = if P p then bor (setN P p.toNat) (shl 1 p) else setN P p.toNat := by
  obtain ⟨n, rfl⟩ := Int.eq_ofNat_of_zero_le h
  rfl
theorem bor_z {a : Int} (a0 : 0 ≤ a) (a1 : a < 2147483648) : bor a 0 = a := by
  rw [bor_nn a0 a1 (by omega) (by omega)]; simp; omega
theorem shl1 : ∀ n : Nat, n < 8 → 0 ≤ shl 1 (n : Int) ∧ shl 1 (n : Int) < 256 := by decide +kernel
theorem setN_R {P : Int → Bool} : ∀ n : Nat, n ≤ 8 → 0 ≤ setN P n ∧ setN P n < 256
  | 0, _ => by unfold setN; omega
  | n + 1, h => by
    have ih := setN_R (P := P) n (by omega)
    have s := shl1 n (by omega)
    unfold setN
    split
    · rw [bor_nn ih.1 (by omega) s.1 (by omega)]
      have hx : (setN P n).toNat ||| (shl 1 (n : Int)).toNat < 2 ^ 8 := Nat.or_lt_two_pow (by omega) (by omega)
      omega
    · exact ih
def aSolvent (L : Laws) (R : Int → Int) : Int := setN (fun p => allN (fun d => decide (fillsV L R (R 3) d p ≤ R (13 + 2 * p))) (R 1).toNat) (R 0).toNat
def aWhose (L : Laws) (R : Int → Int) : Int := setN (fun t => allN (fun k => decide (fillsV L R t (R (59 + 3 * k)) (R (60 + 3 * k)) = R (61 + 3 * k))) (R 7).toNat) (R 2).toNat
theorem strs_t : ∀ n : Nat, n < 1024 → pc (band (n : Int) (bxor (bor (shl (n : Int) 1) (shr (n : Int) 9)) (-1))) = cntN (fun l => tb (n : Int) l && !tb (n : Int) ((l + 1) % 10)) 10 ∧ 0 ≤ band (n : Int) (bxor (bor (shl (n : Int) 1) (shr (n : Int) 9)) (-1)) ∧ band (n : Int) (bxor (bor (shl (n : Int) 1) (shr (n : Int) 9)) (-1)) < 1024 := by decide +kernel
def aStretches (R : Int → Int) : Int := if R 10 = 1023 then 1 else cntN (fun l => tb (R 10) l && !tb (R 10) ((l + 1) % 10)) 10
def stN (P : Int → Bool) : Nat → Int × Int
  | 0 => (0, 0)
  | n + 1 => (max (stN P n).1 (if P n then (stN P n).2 + 1 else 0), if P n then (stN P n).2 + 1 else 0)
theorem stN_s {P : Int → Bool} {p : Int} (h : 0 ≤ p) : stN P (p + 1).toNat = (max (stN P p.toNat).1 (if P p then (stN P p.toNat).2 + 1 else 0), if P p then (stN P p.toNat).2 + 1 else 0) := by
  obtain ⟨n, rfl⟩ := Int.eq_ofNat_of_zero_le h
  rfl
theorem stN_R {P : Int → Bool} : ∀ n : Nat, 0 ≤ (stN P n).2 ∧ (stN P n).2 ≤ n ∧ 0 ≤ (stN P n).1 ∧ (stN P n).1 ≤ n
  | 0 => by simp [stN]
  | n + 1 => by
    have := stN_R (P := P) n
    unfold stN
    dsimp only
    split <;> omega
theorem wnt_t : ∀ n : Nat, n < 1024 → (∀ j : Nat, j < 10 → tb (band 1023 (bxor (n : Int) (-1))) (j : Int) = !tb (n : Int) (j : Int)) ∧ 0 ≤ band 1023 (bxor (n : Int) (-1)) ∧ band 1023 (bxor (n : Int) (-1)) < 1024 := by decide +kernel
def stP (R : Int → Int) (m : Int) (k : Int) : Bool := decide (b2i (tb (R 10) (k % 10) = true) = m)
def aStretch (R : Int → Int) (m : Int) : Int := min (stN (stP R m) 20).1 10
def aAbout (R : Int → Int) (tp w : Int) : Int := if 0 ≤ w ∧ w ≤ 7 then R w else if w = 8 then tp else -2
def aLoses (L : Laws) (R : Int → Int) (d p q : Int) : Int := if (0 ≤ d ∧ d < R 1) ∧ (0 ≤ p ∧ p < R 0) ∧ (0 ≤ q ∧ q < R 0) ∧ p ≠ q then oddsV L R d p q else -100
def aFills (L : Laws) (R : Int → Int) (d p : Int) : Int := if (0 ≤ d ∧ d < R 1) ∧ 0 ≤ p ∧ p < R 0 then fillsV L R (R 3) d p else -100

theorem wX8_of {G : GT} {δ : Nat} {h hl : Nat → Int → Int} {b : Bool × Bool} {Q : V → Hp → Prop} {p w : Int} {R : Int → Int} {L : Laws} (hδ : δ ≤ 1680) (C : CT h R L)  (hQ : Q (vi (aOf R p w)) (HS h hl b)) : WP G δ 0 0 MX8_of 0 [vr (1), vi p, vi w] [] (HS h hl b) Q := by
  obtain ⟨⟨s0, s3, s4, s1, s2, s5⟩, ⟨t0, t1, t5, t6, t7⟩, ⟨g7, g8, g11, g10, g10x⟩⟩ := C.1.f
  have vn' := C.2.1.n
  have vw := C.2.1.w
  refine al_0 dX8_of_0 ?_
  refine g_X8_12 (2) dX8_of_1 rfl tt1 (rr8_0 tt1) (by omega) ?_
  refine il_1 dX8_of_4 ?_
  refine c_X8_145 dX8_of_5 rfl tt2 (Nat.le_of_ble_eq_true rfl) (by omega) ?_
  refine wX7_hasPerson (by omega) ?_
  rw [s0]
  refine pv_i ?_
  refine wp_if_ne 14 dX8_of_8 rfl (fun c8 => ?_) (fun c8 => ?_)
  · rw [b2i_n0] at c8
    refine il_2 dX8_of_14 ?_
    rcases (show ((w) < 0 ∨ 2 < (w)) ∨ ((w) = 0) ∨ ((w) = 1) ∨ ((w) = 2) by omega) with c15 | c15 | c15 | c15
    · refine wp_tswD 78 dX8_of_15 (by omega) rfl ?_
      refine bi_m2 dX8_of_78 ?_
      refine wp_ireti dX8_of_80 rfl ?_
      refine qv hQ ?_
      unfold aOf
      repeat first | rw [if_pos (by omega)] | rw [if_neg (by omega)]
    · refine wp_tsw 40 dX8_of_15 (by omega) (by omega) (25) (by rw [c15]; rfl) rfl ?_
      refine al_0 dX8_of_40 ?_
      refine g_X8_12 (2) dX8_of_41 rfl tt1 (rr8_0 tt1) (by omega) ?_
      refine g_X8_112 (3) dX8_of_44 rfl tt2 (rr7_0 tt2) (by omega) ?_
      refine g_X8_148 (4) dX8_of_47 rfl tt3 (rr5_6 tt3) (by omega) ?_
      refine il_1 dX8_of_50 ?_
      refine wp_iaload dX8_of_51 tt4 (by omega) (by omega) ?_
      rw [C.1.oil p (by omega) (by omega)]
      refine wp_ireti dX8_of_52 rfl ?_
      refine qv hQ ?_
      unfold aOf
      repeat first | rw [if_pos (by omega)] | rw [if_neg (by omega)]
    · refine wp_tsw 53 dX8_of_15 (by omega) (by omega) (38) (by rw [c15]; rfl) rfl ?_
      refine al_0 dX8_of_53 ?_
      refine g_X8_12 (2) dX8_of_54 rfl tt1 (rr8_0 tt1) (by omega) ?_
      refine g_X8_152 (7) dX8_of_57 rfl tt2 (rr7_1 tt2) (by omega) ?_
      refine il_1 dX8_of_60 ?_
      refine c_X8_156 dX8_of_61 rfl tt7 (Nat.le_of_ble_eq_true rfl) (by omega) ?_
      refine wX6_at (by omega) tt7 tt8 (by decide) (by omega) (by omega) ?_
      rw [C.1.slA (by omega) (by omega)]
      refine pv_i ?_
      refine wp_ireti dX8_of_64 rfl ?_
      refine qv hQ ?_
      unfold aOf
      repeat first | rw [if_pos (by omega)] | rw [if_neg (by omega)]
    · refine wp_tsw 65 dX8_of_15 (by omega) (by omega) (50) (by rw [c15]; rfl) rfl ?_
      refine al_0 dX8_of_65 ?_
      refine g_X8_12 (2) dX8_of_66 rfl tt1 (rr8_0 tt1) (by omega) ?_
      refine g_X8_112 (3) dX8_of_69 rfl tt2 (rr7_0 tt2) (by omega) ?_
      refine g_X8_161 (5) dX8_of_72 rfl tt3 (rr5_7 tt3) (by omega) ?_
      refine il_1 dX8_of_75 ?_
      refine wp_iaload dX8_of_76 tt5 (by omega) (by omega) ?_
      rw [C.1.wr p (by omega) (by omega)]
      refine wp_ireti dX8_of_77 rfl ?_
      refine qv hQ ?_
      unfold aOf
      repeat first | rw [if_pos (by omega)] | rw [if_neg (by omega)]
  · rw [b2i_0] at c8
    refine bi_m2 dX8_of_11 ?_
    refine wp_ireti dX8_of_13 rfl ?_
    refine qv hQ ?_
    unfold aOf
    repeat first | rw [if_pos (by omega)] | rw [if_neg (by omega)]

theorem wX9_of {G : GT} {δ : Nat} {h hl : Nat → Int → Int} {b : Bool × Bool} {Q : V → Hp → Prop} {p w : Int} {R : Int → Int} {L : Laws} (hδ : δ ≤ 1660) (M : MT h R L)  (hQ : Q (vi (aOf R p w)) (HS h hl b)) : WP G δ 0 0 MX9_of 0 [vr (336), vi p, vi w] [] (HS h hl b) Q := by
  have m := M.1
  have V := M.2.1
  have vn' := V.n
  have vw := V.w
  refine al_0 dX9_of_0 ?_
  refine il_1 dX9_of_1 ?_
  refine c_X9_335 dX9_of_2 rfl tt336 (Nat.le_of_ble_eq_true rfl) (by omega) ?_
  refine wX9_isPerson (by omega) (by rw [m]; omega) (by rw [m]; omega) ?_
  rw [m]
  refine pv_i ?_
  refine wp_if_ne 11 dX9_of_5 rfl (fun c5 => ?_) (fun c5 => ?_)
  · rw [b2i_n0] at c5
    refine il_2 dX9_of_11 ?_
    refine wp_if_ne 23 dX9_of_12 rfl (fun c12 => ?_) (fun c12 => ?_)
    · refine il_2 dX9_of_23 ?_
      refine ic_1 dX9_of_24 ?_
      refine wp_icmp_ne 40 dX9_of_25 rfl (fun c25 => ?_) (fun c25 => ?_)
      · refine il_2 dX9_of_40 ?_
        refine ic_2 dX9_of_41 ?_
        refine wp_icmp_ne 53 dX9_of_42 rfl (fun c42 => ?_) (fun c42 => ?_)
        · refine bi_m2 dX9_of_53 ?_
          refine wp_ireti dX9_of_55 rfl ?_
          refine qv hQ ?_
          unfold aOf
          repeat first | rw [if_pos (by omega)] | rw [if_neg (by omega)]
        · refine al_0 dX9_of_45 ?_
          refine il_1 dX9_of_46 ?_
          refine c_X9_301 dX9_of_47 rfl tt336 (Nat.le_of_ble_eq_true rfl) (by omega) ?_
          refine wX9_wrongOf (by omega) (by omega) (by omega) ?_
          rw [m]
          rw [show 13 + 2 * p + 1 = 14 + 2 * p by omega]
          refine pv_i ?_
          refine wp_goto 55 dX9_of_50 rfl ?_
          refine wp_ireti dX9_of_55 rfl ?_
          refine qv hQ ?_
          unfold aOf
          repeat first | rw [if_pos (by omega)] | rw [if_neg (by omega)]
      · refine al_0 dX9_of_28 ?_
        refine g_X9_7 (337) dX9_of_29 rfl tt336 (rr9_0 tt336) (by omega) ?_
        refine bi_21 dX9_of_32 ?_
        refine il_1 dX9_of_34 ?_
        refine wp_iadd dX9_of_35 (r32 (by omega) (by omega)) ?_
        refine wp_iaload dX9_of_36 tt337 (by omega) (by omega) ?_
        first | rw [m2] | rw [m1] | rw [m] | rw [sw_s] | skip
        refine wp_goto 55 dX9_of_37 rfl ?_
        refine wp_ireti dX9_of_55 rfl ?_
        refine qv hQ ?_
        unfold aOf
        repeat first | rw [if_pos (by omega)] | rw [if_neg (by omega)]
    · refine al_0 dX9_of_15 ?_
      refine il_1 dX9_of_16 ?_
      refine c_X9_73 dX9_of_17 rfl tt336 (Nat.le_of_ble_eq_true rfl) (by omega) ?_
      refine wX9_oilOf (by omega) (by omega) (by omega) ?_
      rw [m]
      refine pv_i ?_
      refine wp_goto 55 dX9_of_20 rfl ?_
      refine wp_ireti dX9_of_55 rfl ?_
      refine qv hQ ?_
      unfold aOf
      repeat first | rw [if_pos (by omega)] | rw [if_neg (by omega)]
  · rw [b2i_0] at c5
    refine bi_m2 dX9_of_8 ?_
    refine wp_ireti dX9_of_10 rfl ?_
    refine qv hQ ?_
    unfold aOf
    repeat first | rw [if_pos (by omega)] | rw [if_neg (by omega)]

theorem wX8_lamps {G : GT} {δ : Nat} {h hl : Nat → Int → Int} {b : Bool × Bool} {Q : V → Hp → Prop} {d : Int} {R : Int → Int} {L : Laws} (hδ : δ ≤ 1680) (C : CT h R L)  (hQ : Q (vi (aLamps R d)) (HS h hl b)) : WP G δ 0 0 MX8_lamps 0 [vr (1), vi d] [] (HS h hl b) Q := by
  obtain ⟨⟨s0, s3, s4, s1, s2, s5⟩, ⟨t0, t1, t5, t6, t7⟩, ⟨g7, g8, g11, g10, g10x⟩⟩ := C.1.f
  have vn' := C.2.1.n
  have vw := C.2.1.w
  refine al_0 dX8_lamps_0 ?_
  refine g_X8_12 (2) dX8_lamps_1 rfl tt1 (rr8_0 tt1) (by omega) ?_
  refine il_1 dX8_lamps_4 ?_
  refine c_X8_164 dX8_lamps_5 rfl tt2 (Nat.le_of_ble_eq_true rfl) (by omega) ?_
  refine wX7_hasDispute (by omega) ?_
  rw [t1]
  refine pv_i ?_
  refine wp_if_eq 25 dX8_lamps_8 rfl (fun c8 => ?_) (fun c8 => ?_)
  · rw [b2i_0] at c8
    refine ic_m1 dX8_lamps_25 ?_
    refine wp_ireti dX8_lamps_26 rfl ?_
    refine qv hQ ?_
    unfold aLamps
    repeat first | rw [if_pos (by omega)] | rw [if_neg (by omega)]
  · rw [b2i_n0] at c8
    refine al_0 dX8_lamps_11 ?_
    refine g_X8_12 (2) dX8_lamps_12 rfl tt1 (rr8_0 tt1) (by omega) ?_
    refine g_X8_167 (9) dX8_lamps_15 rfl tt2 (rr7_2 tt2) (by omega) ?_
    refine il_1 dX8_lamps_18 ?_
    refine c_X8_156 dX8_lamps_19 rfl tt9 (Nat.le_of_ble_eq_true rfl) (by omega) ?_
    refine wX6_at (by omega) tt9 tt10 (by decide) (by omega) (by omega) ?_
    rw [C.1.diA (by omega) (by omega)]
    refine pv_i ?_
    refine wp_goto 26 dX8_lamps_22 rfl ?_
    refine wp_ireti dX8_lamps_26 rfl ?_
    refine qv hQ ?_
    unfold aLamps
    repeat first | rw [if_pos (by omega)] | rw [if_neg (by omega)]

theorem wX9_lamps {G : GT} {δ : Nat} {h hl : Nat → Int → Int} {b : Bool × Bool} {Q : V → Hp → Prop} {d : Int} {R : Int → Int} {L : Laws} (hδ : δ ≤ 1660) (M : MT h R L)  (hQ : Q (vi (aLamps R d)) (HS h hl b)) : WP G δ 0 0 MX9_lamps 0 [vr (336), vi d] [] (HS h hl b) Q := by
  have m := M.1
  have V := M.2.1
  have vn' := V.n
  have vw := V.w
  refine al_0 dX9_lamps_0 ?_
  refine il_1 dX9_lamps_1 ?_
  refine c_X9_332 dX9_lamps_2 rfl tt336 (Nat.le_of_ble_eq_true rfl) (by omega) ?_
  refine wX9_isDispute (by omega) (by rw [m]; omega) (by rw [m]; omega) ?_
  rw [m]
  refine pv_i ?_
  refine wp_if_eq 20 dX9_lamps_5 rfl (fun c5 => ?_) (fun c5 => ?_)
  · rw [b2i_0] at c5
    refine ic_m1 dX9_lamps_20 ?_
    refine wp_ireti dX9_lamps_21 rfl ?_
    refine qv hQ ?_
    unfold aLamps
    repeat first | rw [if_pos (by omega)] | rw [if_neg (by omega)]
  · rw [b2i_n0] at c5
    refine al_0 dX9_lamps_8 ?_
    refine g_X9_7 (337) dX9_lamps_9 rfl tt336 (rr9_0 tt336) (by omega) ?_
    refine bi_29 dX9_lamps_12 ?_
    refine il_1 dX9_lamps_14 ?_
    refine wp_iadd dX9_lamps_15 (r32 (by omega) (by omega)) ?_
    refine wp_iaload dX9_lamps_16 tt337 (by omega) (by omega) ?_
    first | rw [m2] | rw [m1] | rw [m] | rw [sw_s] | skip
    refine wp_goto 21 dX9_lamps_17 rfl ?_
    refine wp_ireti dX9_lamps_21 rfl ?_
    refine qv hQ ?_
    unfold aLamps
    repeat first | rw [if_pos (by omega)] | rw [if_neg (by omega)]

theorem wX8_is {G : GT} {δ : Nat} {h hl : Nat → Int → Int} {b : Bool × Bool} {Q : V → Hp → Prop} {w : Int} {R : Int → Int} {L : Laws} (hδ : δ ≤ 1680) (C : CT h R L)  (hQ : Q (vi (aIs R w)) (HS h hl b)) : WP G δ 0 0 MX8_is 0 [vr (1), vi w] [] (HS h hl b) Q := by
  obtain ⟨⟨s0, s3, s4, s1, s2, s5⟩, ⟨t0, t1, t5, t6, t7⟩, ⟨g7, g8, g11, g10, g10x⟩⟩ := C.1.f
  have vn' := C.2.1.n
  have vw := C.2.1.w
  refine il_1 dX8_is_0 ?_
  rcases (show ((w) < 0 ∨ 4 < (w)) ∨ ((w) = 0) ∨ ((w) = 1) ∨ ((w) = 2) ∨ ((w) = 3) ∨ ((w) = 4) by omega) with c1 | c1 | c1 | c1 | c1 | c1
  · refine wp_tswD 91 dX8_is_1 (by omega) rfl ?_
    refine bi_m2 dX8_is_91 ?_
    refine wp_ireti dX8_is_93 rfl ?_
    refine qv hQ ?_
    unfold aIs
    first
      | (rw [if_pos (by omega), c1]; rfl)
      | (repeat first | rw [if_pos (by omega)] | rw [if_neg (by omega)])
  · refine wp_tsw 36 dX8_is_1 (by omega) (by omega) (35) (by rw [c1]; rfl) rfl ?_
    refine al_0 dX8_is_36 ?_
    refine g_X8_12 (2) dX8_is_37 rfl tt1 (rr8_0 tt1) (by omega) ?_
    refine g_X8_112 (3) dX8_is_40 rfl tt2 (rr7_0 tt2) (by omega) ?_
    refine g_X8_115 dX8_is_43 rfl tt3 ?_
    rw [s3]
    refine wp_ireti dX8_is_46 rfl ?_
    refine qv hQ ?_
    unfold aIs
    first
      | (rw [if_pos (by omega), c1]; rfl)
      | (repeat first | rw [if_pos (by omega)] | rw [if_neg (by omega)])
  · refine wp_tsw 47 dX8_is_1 (by omega) (by omega) (46) (by rw [c1]; rfl) rfl ?_
    refine al_0 dX8_is_47 ?_
    refine g_X8_12 (2) dX8_is_48 rfl tt1 (rr8_0 tt1) (by omega) ?_
    refine g_X8_112 (3) dX8_is_51 rfl tt2 (rr7_0 tt2) (by omega) ?_
    refine g_X8_136 dX8_is_54 rfl tt3 ?_
    rw [s4]
    refine wp_ireti dX8_is_57 rfl ?_
    refine qv hQ ?_
    unfold aIs
    first
      | (rw [if_pos (by omega), c1]; rfl)
      | (repeat first | rw [if_pos (by omega)] | rw [if_neg (by omega)])
  · refine wp_tsw 58 dX8_is_1 (by omega) (by omega) (57) (by rw [c1]; rfl) rfl ?_
    refine al_0 dX8_is_58 ?_
    refine g_X8_12 (2) dX8_is_59 rfl tt1 (rr8_0 tt1) (by omega) ?_
    refine g_X8_112 (3) dX8_is_62 rfl tt2 (rr7_0 tt2) (by omega) ?_
    refine g_X8_170 dX8_is_65 rfl tt3 ?_
    rw [s1]
    refine wp_ireti dX8_is_68 rfl ?_
    refine qv hQ ?_
    unfold aIs
    first
      | (rw [if_pos (by omega), c1]; rfl)
      | (repeat first | rw [if_pos (by omega)] | rw [if_neg (by omega)])
  · refine wp_tsw 69 dX8_is_1 (by omega) (by omega) (68) (by rw [c1]; rfl) rfl ?_
    refine al_0 dX8_is_69 ?_
    refine g_X8_12 (2) dX8_is_70 rfl tt1 (rr8_0 tt1) (by omega) ?_
    refine g_X8_112 (3) dX8_is_73 rfl tt2 (rr7_0 tt2) (by omega) ?_
    refine c_X8_118 dX8_is_76 rfl tt3 (Nat.le_of_ble_eq_true rfl) (by omega) ?_
    refine wX5_oilOfAll (by omega) (by omega) (by omega) (fun j j0 j1 => by rw [C.1.oil j j0 (by omega)]; exact C.2.1.oil j j0 (by omega)) ?_
    rw [show sumN (h 4) (h 3 0).toNat = allOil R from by rw [s0]; exact sumN_c _ (fun j j0 j1 => C.1.oil j j0 (by omega))]
    refine pv_i ?_
    refine wp_ireti dX8_is_79 rfl ?_
    refine qv hQ ?_
    unfold aIs
    first
      | (rw [if_pos (by omega), c1]; rfl)
      | (repeat first | rw [if_pos (by omega)] | rw [if_neg (by omega)])
  · refine wp_tsw 80 dX8_is_1 (by omega) (by omega) (79) (by rw [c1]; rfl) rfl ?_
    refine al_0 dX8_is_80 ?_
    refine g_X8_12 (2) dX8_is_81 rfl tt1 (rr8_0 tt1) (by omega) ?_
    refine g_X8_112 (3) dX8_is_84 rfl tt2 (rr7_0 tt2) (by omega) ?_
    refine g_X8_173 dX8_is_87 rfl tt3 ?_
    rw [s2]
    refine wp_ireti dX8_is_90 rfl ?_
    refine qv hQ ?_
    unfold aIs
    first
      | (rw [if_pos (by omega), c1]; rfl)
      | (repeat first | rw [if_pos (by omega)] | rw [if_neg (by omega)])

theorem wX9_is {G : GT} {δ : Nat} {h hl : Nat → Int → Int} {b : Bool × Bool} {Q : V → Hp → Prop} {w : Int} {R : Int → Int} {L : Laws} (hδ : δ ≤ 1660) (M : MT h R L)  (hQ : Q (vi (aIs R w)) (HS h hl b)) : WP G δ 0 0 MX9_is 0 [vr (336), vi w] [] (HS h hl b) Q := by
  have m := M.1
  have V := M.2.1
  have vn' := V.n
  have vw := V.w
  refine il_1 dX9_is_0 ?_
  refine ic_0 dX9_is_1 ?_
  refine ic_2 dX9_is_2 ?_
  refine c_X9_69 dX9_is_3 rfl (Nat.le_of_ble_eq_true rfl) (by omega) ?_
  refine wX9_isIn (by omega) ?_
  refine pv_i ?_
  refine wp_if_eq 21 dX9_is_6 rfl (fun c6 => ?_) (fun c6 => ?_)
  · rw [b2i_0] at c6
    refine il_1 dX9_is_21 ?_
    refine ic_3 dX9_is_22 ?_
    refine wp_icmp_ne 33 dX9_is_23 rfl (fun c23 => ?_) (fun c23 => ?_)
    · refine il_1 dX9_is_33 ?_
      refine ic_4 dX9_is_34 ?_
      refine wp_icmp_ne 48 dX9_is_35 rfl (fun c35 => ?_) (fun c35 => ?_)
      · refine bi_m2 dX9_is_48 ?_
        refine wp_ireti dX9_is_50 rfl ?_
        refine qv hQ ?_
        unfold aIs
        repeat first | rw [if_pos (by omega)] | rw [if_neg (by omega)]
      · refine al_0 dX9_is_38 ?_
        refine g_X9_7 (337) dX9_is_39 rfl tt336 (rr9_0 tt336) (by omega) ?_
        refine bi_11 dX9_is_42 ?_
        refine wp_iaload dX9_is_44 tt337 (by omega) (by omega) ?_
        first | rw [m2] | rw [m1] | rw [m] | rw [sw_s] | skip
        refine wp_goto 50 dX9_is_45 rfl ?_
        refine wp_ireti dX9_is_50 rfl ?_
        refine qv hQ ?_
        unfold aIs
        repeat first | rw [if_pos (by omega)] | rw [if_neg (by omega)]
    · refine al_0 dX9_is_26 ?_
      refine c_X9_386 dX9_is_27 rfl tt336 (Nat.le_of_ble_eq_true rfl) (by omega) ?_
      refine wX9_allOil (by omega) (by rw [m]; omega) (by rw [m]; omega) (by rw [m]; exact V.oil) ?_
      rw [m, show sumN (fun i => R (13 + 2 * i)) (R 0).toNat = allOil R from rfl]
      refine pv_i ?_
      refine wp_goto 50 dX9_is_30 rfl ?_
      refine wp_ireti dX9_is_50 rfl ?_
      refine qv hQ ?_
      unfold aIs
      repeat first | rw [if_pos (by omega)] | rw [if_neg (by omega)]
  · rw [b2i_n0] at c6
    refine al_0 dX9_is_9 ?_
    refine g_X9_7 (337) dX9_is_10 rfl tt336 (rr9_0 tt336) (by omega) ?_
    refine bi_8 dX9_is_13 ?_
    refine il_1 dX9_is_15 ?_
    refine wp_iadd dX9_is_16 (r32 (by omega) (by omega)) ?_
    refine wp_iaload dX9_is_17 tt337 (by omega) (by omega) ?_
    first | rw [m2] | rw [m1] | rw [m] | rw [sw_s] | skip
    refine wp_goto 50 dX9_is_18 rfl ?_
    refine wp_ireti dX9_is_50 rfl ?_
    refine qv hQ ?_
    unfold aIs
    repeat first | rw [if_pos (by omega)] | rw [if_neg (by omega)]

theorem wX8_loses {G : GT} {δ : Nat} {h hl : Nat → Int → Int} {b : Bool × Bool} {Q : V → Hp → Prop} {d p q : Int} {R : Int → Int} {L : Laws} (hδ : δ ≤ 1620) (C : CT h R L)  (hQ : ∀ h', eqX [19, 20, 21] h h' → Q (vi (aLoses L R d p q)) (HS h' hl b)) : WP G δ 0 0 MX8_loses 0 [vr (1), vi d, vi p, vi q] [] (HS h hl b) Q := by
  obtain ⟨⟨s0, s3, s4, s1, s2, s5⟩, ⟨t0, t1, t5, t6, t7⟩, ⟨g7, g8, g11, g10, g10x⟩⟩ := C.1.f
  have vn' := C.2.1.n
  have vw := C.2.1.w
  refine al_0 dX8_loses_0 ?_
  refine g_X8_12 (2) dX8_loses_1 rfl tt1 (rr8_0 tt1) (by omega) ?_
  refine il_1 dX8_loses_4 ?_
  refine il_2 dX8_loses_5 ?_
  refine il_3 dX8_loses_6 ?_
  refine c_X8_176 dX8_loses_7 rfl tt2 (Nat.le_of_ble_eq_true rfl) (by omega) ?_
  refine wX7_canArgue (by omega) ?_
  rw [t1, s0]
  refine pv_i ?_
  refine wp_if_eq 26 dX8_loses_10 rfl (fun c10 => ?_) (fun c10 => ?_)
  · rw [b2i_0] at c10
    refine bi_m100 dX8_loses_26 ?_
    refine wp_ireti dX8_loses_28 rfl ?_
    first
      | exact qv (hQ h1 E1) (by unfold aLoses; rw [if_pos c10])
      | exact qv (hQ h eqX.rf) (by unfold aLoses; rw [if_neg c10])
  · rw [b2i_n0] at c10
    refine al_0 dX8_loses_13 ?_
    refine g_X8_12 (2) dX8_loses_14 rfl tt1 (rr8_0 tt1) (by omega) ?_
    refine il_1 dX8_loses_17 ?_
    refine il_2 dX8_loses_18 ?_
    refine il_3 dX8_loses_19 ?_
    refine c_X8_180 dX8_loses_20 rfl tt2 (Nat.le_of_ble_eq_true rfl) (by omega) ?_
    refine wX7_oddsOf (by omega) C.1 C.2.1 C.2.2 (by omega) (by omega) (by omega) (by omega) (by omega) (by omega) (fun h1 E1 => ?_)
    refine pv_i ?_
    refine wp_goto 28 dX8_loses_23 rfl ?_
    refine wp_ireti dX8_loses_28 rfl ?_
    first
      | exact qv (hQ h1 E1) (by unfold aLoses; rw [if_pos c10])
      | exact qv (hQ h eqX.rf) (by unfold aLoses; rw [if_neg c10])

theorem wX9_loses {G : GT} {δ : Nat} {h hl : Nat → Int → Int} {b : Bool × Bool} {Q : V → Hp → Prop} {d p q : Int} {R : Int → Int} {L : Laws} (hδ : δ ≤ 1600) (M : MT h R L)  (hQ : ∀ h' hl', eqX [342, 344] h h' → Q (vi (aLoses L R d p q)) (HS h' hl' b)) : WP G δ 0 0 MX9_loses 0 [vr (336), vi d, vi p, vi q] [] (HS h hl b) Q := by
  have m := M.1
  have V := M.2.1
  have vn' := V.n
  have vw := V.w
  refine al_0 dX9_loses_0 ?_
  refine il_1 dX9_loses_1 ?_
  refine il_2 dX9_loses_2 ?_
  refine il_3 dX9_loses_3 ?_
  refine c_X9_344 dX9_loses_4 rfl tt336 (Nat.le_of_ble_eq_true rfl) (by omega) ?_
  refine wX9_canArgue (by omega) (by rw [m]; omega) (by rw [m]; omega) (by rw [m]; omega) (by rw [m]; omega) ?_
  rw [m]
  refine pv_i ?_
  refine wp_if_eq 20 dX9_loses_7 rfl (fun c7 => ?_) (fun c7 => ?_)
  · rw [b2i_0] at c7
    refine bi_m100 dX9_loses_20 ?_
    refine wp_ireti dX9_loses_22 rfl ?_
    first
      | exact qv (hQ h1 hl1 E1) (by unfold aLoses; rw [if_pos c7])
      | exact qv (hQ h hl eqX.rf) (by unfold aLoses; rw [if_neg c7])
  · rw [b2i_n0] at c7
    refine al_0 dX9_loses_10 ?_
    refine il_1 dX9_loses_11 ?_
    refine il_2 dX9_loses_12 ?_
    refine il_3 dX9_loses_13 ?_
    refine c_X9_320 dX9_loses_14 rfl tt336 (Nat.le_of_ble_eq_true rfl) (by omega) ?_
    refine wX9_losesOf (by omega) M (by omega) (by omega) (by omega) (by omega) (by omega) (by omega) (fun h1 hl1 E1 => ?_)
    refine pv_i ?_
    refine wp_goto 22 dX9_loses_17 rfl ?_
    refine wp_ireti dX9_loses_22 rfl ?_
    first
      | exact qv (hQ h1 hl1 E1) (by unfold aLoses; rw [if_pos c7])
      | exact qv (hQ h hl eqX.rf) (by unfold aLoses; rw [if_neg c7])

theorem wX8_fills {G : GT} {δ : Nat} {h hl : Nat → Int → Int} {b : Bool × Bool} {Q : V → Hp → Prop} {d p : Int} {R : Int → Int} {L : Laws} (hδ : δ ≤ 1620) (C : CT h R L)  (hQ : ∀ h', eqX [19, 20, 21] h h' → Q (vi (aFills L R d p)) (HS h' hl b)) : WP G δ 0 0 MX8_fills 0 [vr (1), vi d, vi p] [] (HS h hl b) Q := by
  obtain ⟨⟨s0, s3, s4, s1, s2, s5⟩, ⟨t0, t1, t5, t6, t7⟩, ⟨g7, g8, g11, g10, g10x⟩⟩ := C.1.f
  have vn' := C.2.1.n
  have vw := C.2.1.w
  refine al_0 dX8_fills_0 ?_
  refine g_X8_12 (2) dX8_fills_1 rfl tt1 (rr8_0 tt1) (by omega) ?_
  refine il_1 dX8_fills_4 ?_
  refine c_X8_164 dX8_fills_5 rfl tt2 (Nat.le_of_ble_eq_true rfl) (by omega) ?_
  refine wX7_hasDispute (by omega) ?_
  rw [t1]
  refine pv_i ?_
  refine wp_if_eq 22 dX8_fills_8 rfl (fun c8 => ?_) (fun c8 => ?_)
  · rw [b2i_0] at c8
    refine bi_m100 dX8_fills_22 ?_
    refine wp_ireti dX8_fills_24 rfl ?_
    first
      | exact qv (hQ h1 E1) (by unfold aFills; rw [if_pos (by omega)])
      | exact qv (hQ h eqX.rf) (by unfold aFills; rw [if_neg (by omega)])
  · rw [b2i_n0] at c8
    refine al_0 dX8_fills_11 ?_
    refine g_X8_12 (2) dX8_fills_12 rfl tt1 (rr8_0 tt1) (by omega) ?_
    refine il_2 dX8_fills_15 ?_
    refine c_X8_145 dX8_fills_16 rfl tt2 (Nat.le_of_ble_eq_true rfl) (by omega) ?_
    refine wX7_hasPerson (by omega) ?_
    rw [s0]
    refine pv_i ?_
    refine wp_if_ne 25 dX8_fills_19 rfl (fun c19 => ?_) (fun c19 => ?_)
    · rw [b2i_n0] at c19
      refine al_0 dX8_fills_25 ?_
      refine g_X8_12 (2) dX8_fills_26 rfl tt1 (rr8_0 tt1) (by omega) ?_
      refine al_0 dX8_fills_29 ?_
      refine g_X8_12 (2) dX8_fills_30 rfl tt1 (rr8_0 tt1) (by omega) ?_
      refine g_X8_98 dX8_fills_33 rfl tt2 ?_
      rw [g8]
      refine il_1 dX8_fills_36 ?_
      refine il_2 dX8_fills_37 ?_
      refine c_X8_183 dX8_fills_38 rfl tt2 (Nat.le_of_ble_eq_true rfl) (by omega) ?_
      refine wX7_fillsBy (by omega) C.1 C.2.1 C.2.2 (by omega) (by omega) (by omega) (by omega) (fun h1 E1 => ?_)
      refine pv_i ?_
      refine wp_ireti dX8_fills_41 rfl ?_
      first
        | exact qv (hQ h1 E1) (by unfold aFills; rw [if_pos (by omega)])
        | exact qv (hQ h eqX.rf) (by unfold aFills; rw [if_neg (by omega)])
    · rw [b2i_0] at c19
      refine bi_m100 dX8_fills_22 ?_
      refine wp_ireti dX8_fills_24 rfl ?_
      first
        | exact qv (hQ h1 E1) (by unfold aFills; rw [if_pos (by omega)])
        | exact qv (hQ h eqX.rf) (by unfold aFills; rw [if_neg (by omega)])

theorem wX9_fills {G : GT} {δ : Nat} {h hl : Nat → Int → Int} {b : Bool × Bool} {Q : V → Hp → Prop} {d p : Int} {R : Int → Int} {L : Laws} (hδ : δ ≤ 1600) (M : MT h R L)  (hQ : ∀ h' hl', eqX [342, 344] h h' → Q (vi (aFills L R d p)) (HS h' hl' b)) : WP G δ 0 0 MX9_fills 0 [vr (336), vi d, vi p] [] (HS h hl b) Q := by
  have m := M.1
  have V := M.2.1
  have vn' := V.n
  have vw := V.w
  refine al_0 dX9_fills_0 ?_
  refine il_1 dX9_fills_1 ?_
  refine c_X9_332 dX9_fills_2 rfl tt336 (Nat.le_of_ble_eq_true rfl) (by omega) ?_
  refine wX9_isDispute (by omega) (by rw [m]; omega) (by rw [m]; omega) ?_
  rw [m]
  refine pv_i ?_
  refine wp_if_eq 31 dX9_fills_5 rfl (fun c5 => ?_) (fun c5 => ?_)
  · rw [b2i_0] at c5
    refine bi_m100 dX9_fills_31 ?_
    refine wp_ireti dX9_fills_33 rfl ?_
    first
      | exact qv (hQ h1 hl1 E1) (by unfold aFills; rw [if_pos (by omega)])
      | exact qv (hQ h hl eqX.rf) (by unfold aFills; rw [if_neg (by omega)])
  · rw [b2i_n0] at c5
    refine al_0 dX9_fills_8 ?_
    refine il_2 dX9_fills_9 ?_
    refine c_X9_335 dX9_fills_10 rfl tt336 (Nat.le_of_ble_eq_true rfl) (by omega) ?_
    refine wX9_isPerson (by omega) (by rw [m]; omega) (by rw [m]; omega) ?_
    rw [m]
    refine pv_i ?_
    refine wp_if_eq 31 dX9_fills_13 rfl (fun c13 => ?_) (fun c13 => ?_)
    · rw [b2i_0] at c13
      refine bi_m100 dX9_fills_31 ?_
      refine wp_ireti dX9_fills_33 rfl ?_
      first
        | exact qv (hQ h1 hl1 E1) (by unfold aFills; rw [if_pos (by omega)])
        | exact qv (hQ h hl eqX.rf) (by unfold aFills; rw [if_neg (by omega)])
    · rw [b2i_n0] at c13
      refine al_0 dX9_fills_16 ?_
      refine al_0 dX9_fills_17 ?_
      refine g_X9_7 (337) dX9_fills_18 rfl tt336 (rr9_0 tt336) (by omega) ?_
      refine ic_3 dX9_fills_21 ?_
      refine wp_iaload dX9_fills_22 tt337 (by omega) (by omega) ?_
      first | rw [m2] | rw [m1] | rw [m] | rw [sw_s] | skip
      refine il_1 dX9_fills_23 ?_
      refine il_2 dX9_fills_24 ?_
      refine c_X9_323 dX9_fills_25 rfl tt336 (Nat.le_of_ble_eq_true rfl) (by omega) ?_
      refine wX9_fillsOf (by omega) M (by omega) (by omega) (by omega) (by omega) (by omega) (by omega) (fun h1 hl1 E1 => ?_)
      refine pv_i ?_
      refine wp_goto 33 dX9_fills_28 rfl ?_
      refine wp_ireti dX9_fills_33 rfl ?_
      first
        | exact qv (hQ h1 hl1 E1) (by unfold aFills; rw [if_pos (by omega)])
        | exact qv (hQ h hl eqX.rf) (by unfold aFills; rw [if_neg (by omega)])

theorem rdB_e {h : Nat → Int → Int} {R : Int → Int} {L : Laws} (C : CT h R L) (i w : Int) : rdB h i w = if (0 ≤ i ∧ i < R 12) ∧ 0 ≤ w ∧ w ≤ 3 then entV R i w else -2 := by
  have s5 := C.1.f.1.2.2.2.2.2
  unfold rdB entV
  rw [s5]
  by_cases e : 0 ≤ i ∧ i < R 12
  · rw [if_pos e, C.1.bk i e.1 e.2]
    by_cases w0 : w = 0
    · rw [if_pos w0, if_pos (by omega), if_pos w0]; omega
    · rw [if_neg w0]
      by_cases w1 : w = 1
      · rw [if_pos w1, if_pos (by omega), if_neg w0, if_pos w1]; omega
      · rw [if_neg w1]
        by_cases w2 : w = 2
        · rw [if_pos w2, if_pos (by omega), if_neg w0, if_neg w1, if_pos w2]
        · rw [if_neg w2]
          by_cases w3 : w = 3
          · rw [if_pos w3, if_pos (by omega), if_neg w0, if_neg w1, if_neg w2]
          · rw [if_neg w3, if_neg (by omega)]
  · rw [if_neg e, if_neg (by omega)]

theorem wX8_book {G : GT} {δ : Nat} {h hl : Nat → Int → Int} {b : Bool × Bool} {Q : V → Hp → Prop} {i w : Int} {R : Int → Int} {L : Laws} (hδ : δ ≤ 1680) (C : CT h R L)  (hQ : Q (vi (aBook R i w)) (HS h hl b)) : WP G δ 0 0 MX8_book 0 [vr (1), vi i, vi w] [] (HS h hl b) Q := by
  obtain ⟨⟨s0, s3, s4, s1, s2, s5⟩, ⟨t0, t1, t5, t6, t7⟩, ⟨g7, g8, g11, g10, g10x⟩⟩ := C.1.f
  have vn' := C.2.1.n
  have vw := C.2.1.w
  refine il_1 dX8_book_0 ?_
  refine ic_m1 dX8_book_1 ?_
  refine wp_icmp_ne 16 dX8_book_2 rfl (fun c2 => ?_) (fun c2 => ?_)
  · refine al_0 dX8_book_16 ?_
    refine g_X8_12 (2) dX8_book_17 rfl tt1 (rr8_0 tt1) (by omega) ?_
    refine g_X8_112 (3) dX8_book_20 rfl tt2 (rr7_0 tt2) (by omega) ?_
    refine il_1 dX8_book_23 ?_
    refine il_2 dX8_book_24 ?_
    refine c_X8_189 dX8_book_25 rfl tt3 (Nat.le_of_ble_eq_true rfl) (by omega) ?_
    refine wX5_read (by omega) (by omega) (fun j j0 j1 => by rw [C.1.bk j j0 (by omega)]; exact (C.2.1.bk j j0 (by omega)).1) ?_
    rw [rdB_e C]
    refine pv_i ?_
    refine wp_ireti dX8_book_28 rfl ?_
    refine qv hQ ?_
    unfold aBook
    first | rw [if_pos (by omega)] | rw [if_neg (by omega)]
  · refine al_0 dX8_book_5 ?_
    refine g_X8_12 (2) dX8_book_6 rfl tt1 (rr8_0 tt1) (by omega) ?_
    refine g_X8_112 (3) dX8_book_9 rfl tt2 (rr7_0 tt2) (by omega) ?_
    refine g_X8_186 dX8_book_12 rfl tt3 ?_
    rw [s5]
    refine wp_ireti dX8_book_15 rfl ?_
    refine qv hQ ?_
    unfold aBook
    first | rw [if_pos (by omega)] | rw [if_neg (by omega)]

theorem wX9_entry {G : GT} {δ : Nat} {h hl : Nat → Int → Int} {b : Bool × Bool} {Q : V → Hp → Prop} {i w : Int} {R : Int → Int} {L : Laws} (hδ : δ ≤ 1700) (M : MT h R L) (i0 : 0 ≤ i) (i1 : i < R 12) (hQ : Q (vi (entV R i w)) (HS h hl b)) : WP G δ 0 0 MX9_entry 0 [vr (336), vi i, vi w, vn] [] (HS h hl b) Q := by
  have m := M.1
  have V := M.2.1
  have vn' := V.n
  have vw := V.w
  have bk := V.bk i i0 i1
  refine al_0 dX9_entry_0 ?_
  refine g_X9_7 (337) dX9_entry_1 rfl tt336 (rr9_0 tt336) (by omega) ?_
  refine si_1253 dX9_entry_4 ?_
  refine il_1 dX9_entry_7 ?_
  refine wp_iadd dX9_entry_8 (r32 (by omega) (by omega)) ?_
  refine wp_iaload dX9_entry_9 tt337 (by omega) (by omega) ?_
  first | rw [m2] | rw [m1] | rw [m] | rw [sw_s] | skip
  refine is_3 dX9_entry_10 rfl (by decide) ?_
  refine il_2 dX9_entry_11 ?_
  refine wp_if_ne 23 dX9_entry_12 rfl (fun c12 => ?_) (fun c12 => ?_)
  · refine il_2 dX9_entry_23 ?_
    refine ic_1 dX9_entry_24 ?_
    refine wp_icmp_ne 39 dX9_entry_25 rfl (fun c25 => ?_) (fun c25 => ?_)
    · refine il_2 dX9_entry_39 ?_
      refine ic_2 dX9_entry_40 ?_
      refine wp_icmp_ne 54 dX9_entry_41 rfl (fun c41 => ?_) (fun c41 => ?_)
      · refine il_3 dX9_entry_54 ?_
        refine si_1024 dX9_entry_55 ?_
        refine wp_iremN dX9_entry_58 (by omega) (by omega) ?_
        refine wp_ireti dX9_entry_59 rfl ?_
        refine qv hQ ?_
        unfold entV
        repeat first | rw [if_pos (by omega)] | rw [if_neg (by omega)]
      · refine il_3 dX9_entry_44 ?_
        refine si_1024 dX9_entry_45 ?_
        refine wp_idivN dX9_entry_48 (by omega) (by omega) ?_
        refine ic_4 dX9_entry_49 ?_
        refine wp_iremN dX9_entry_50 (by omega) (by omega) ?_
        refine wp_goto 59 dX9_entry_51 rfl ?_
        refine wp_ireti dX9_entry_59 rfl ?_
        refine qv hQ ?_
        unfold entV
        repeat first | rw [if_pos (by omega)] | rw [if_neg (by omega)]
    · refine il_3 dX9_entry_28 ?_
      refine si_4096 dX9_entry_29 ?_
      refine wp_idivN dX9_entry_32 (by omega) (by omega) ?_
      refine bi_8 dX9_entry_33 ?_
      refine wp_iremN dX9_entry_35 (by omega) (by omega) ?_
      refine wp_goto 59 dX9_entry_36 rfl ?_
      refine wp_ireti dX9_entry_59 rfl ?_
      refine qv hQ ?_
      unfold entV
      repeat first | rw [if_pos (by omega)] | rw [if_neg (by omega)]
  · refine il_3 dX9_entry_15 ?_
    refine wp_ldcw (32768) dX9_entry_16 ⟨by decide, by decide⟩ cc_X9_389 ?_
    refine wp_idivN dX9_entry_19 (by omega) (by omega) ?_
    refine wp_goto 59 dX9_entry_20 rfl ?_
    refine wp_ireti dX9_entry_59 rfl ?_
    refine qv hQ ?_
    unfold entV
    repeat first | rw [if_pos (by omega)] | rw [if_neg (by omega)]

theorem wX9_book {G : GT} {δ : Nat} {h hl : Nat → Int → Int} {b : Bool × Bool} {Q : V → Hp → Prop} {i w : Int} {R : Int → Int} {L : Laws} (hδ : δ ≤ 1680) (M : MT h R L)  (hQ : Q (vi (aBook R i w)) (HS h hl b)) : WP G δ 0 0 MX9_book 0 [vr (336), vi i, vi w] [] (HS h hl b) Q := by
  have m := M.1
  have V := M.2.1
  have vn' := V.n
  have vw := V.w
  refine il_1 dX9_book_0 ?_
  refine ic_m1 dX9_book_1 ?_
  refine wp_icmp_ne 13 dX9_book_2 rfl (fun c2 => ?_) (fun c2 => ?_)
  · refine il_1 dX9_book_13 ?_
    refine ic_0 dX9_book_14 ?_
    refine al_0 dX9_book_15 ?_
    refine g_X9_7 (337) dX9_book_16 rfl tt336 (rr9_0 tt336) (by omega) ?_
    refine bi_12 dX9_book_19 ?_
    refine wp_iaload dX9_book_21 tt337 (by omega) (by omega) ?_
    first | rw [m2] | rw [m1] | rw [m] | rw [sw_s] | skip
    refine ic_1 dX9_book_22 ?_
    refine wp_isub dX9_book_23 (r32 (by omega) (by omega)) ?_
    refine c_X9_69 dX9_book_24 rfl (Nat.le_of_ble_eq_true rfl) (by omega) ?_
    refine wX9_isIn (by omega) ?_
    refine pv_i ?_
    refine wp_if_eq 48 dX9_book_27 rfl (fun c27 => ?_) (fun c27 => ?_)
    · rw [b2i_0] at c27
      refine bi_m2 dX9_book_48 ?_
      refine wp_ireti dX9_book_50 rfl ?_
      refine qv hQ ?_
      unfold aBook
      repeat first | rw [if_pos (by omega)] | rw [if_neg (by omega)]
    · rw [b2i_n0] at c27
      refine il_2 dX9_book_30 ?_
      refine ic_0 dX9_book_31 ?_
      refine ic_3 dX9_book_32 ?_
      refine c_X9_69 dX9_book_33 rfl (Nat.le_of_ble_eq_true rfl) (by omega) ?_
      refine wX9_isIn (by omega) ?_
      refine pv_i ?_
      refine wp_if_eq 48 dX9_book_36 rfl (fun c36 => ?_) (fun c36 => ?_)
      · rw [b2i_0] at c36
        refine bi_m2 dX9_book_48 ?_
        refine wp_ireti dX9_book_50 rfl ?_
        refine qv hQ ?_
        unfold aBook
        repeat first | rw [if_pos (by omega)] | rw [if_neg (by omega)]
      · rw [b2i_n0] at c36
        refine al_0 dX9_book_39 ?_
        refine il_1 dX9_book_40 ?_
        refine il_2 dX9_book_41 ?_
        refine c_X9_390 dX9_book_42 rfl tt336 (Nat.le_of_ble_eq_true rfl) (by omega) ?_
        refine wX9_entry (by omega) M (by omega) (by omega) ?_
        refine pv_i ?_
        refine wp_goto 50 dX9_book_45 rfl ?_
        refine wp_ireti dX9_book_50 rfl ?_
        refine qv hQ ?_
        unfold aBook
        repeat first | rw [if_pos (by omega)] | rw [if_neg (by omega)]
  · refine al_0 dX9_book_5 ?_
    refine g_X9_7 (337) dX9_book_6 rfl tt336 (rr9_0 tt336) (by omega) ?_
    refine bi_12 dX9_book_9 ?_
    refine wp_iaload dX9_book_11 tt337 (by omega) (by omega) ?_
    first | rw [m2] | rw [m1] | rw [m] | rw [sw_s] | skip
    refine wp_ireti dX9_book_12 rfl ?_
    refine qv hQ ?_
    unfold aBook
    repeat first | rw [if_pos (by omega)] | rw [if_neg (by omega)]

theorem wX8_ledger {G : GT} {δ : Nat} {h hl : Nat → Int → Int} {b : Bool × Bool} {Q : V → Hp → Prop} {p : Int} {R : Int → Int} {L : Laws} (hδ : δ ≤ 1660) (C : CT h R L)  (hQ : Q (vi (aLedger R p)) (HS h hl b)) : WP G δ 0 0 MX8_ledger 0 [vr (1), vi p] [] (HS h hl b) Q := by
  obtain ⟨⟨s0, s3, s4, s1, s2, s5⟩, ⟨t0, t1, t5, t6, t7⟩, ⟨g7, g8, g11, g10, g10x⟩⟩ := C.1.f
  have vn' := C.2.1.n
  have vw := C.2.1.w
  refine il_1 dX8_ledger_0 ?_
  refine ic_m1 dX8_ledger_1 ?_
  refine wp_icmp_ne 16 dX8_ledger_2 rfl (fun c2 => ?_) (fun c2 => ?_)
  · refine al_0 dX8_ledger_16 ?_
    refine g_X8_12 (2) dX8_ledger_17 rfl tt1 (rr8_0 tt1) (by omega) ?_
    refine il_1 dX8_ledger_20 ?_
    refine c_X8_145 dX8_ledger_21 rfl tt2 (Nat.le_of_ble_eq_true rfl) (by omega) ?_
    refine wX7_hasPerson (by omega) ?_
    rw [s0]
    refine pv_i ?_
    refine wp_if_eq 41 dX8_ledger_24 rfl (fun c24 => ?_) (fun c24 => ?_)
    · rw [b2i_0] at c24
      refine bi_m2 dX8_ledger_41 ?_
      refine wp_ireti dX8_ledger_43 rfl ?_
      refine qv hQ ?_
      unfold aLedger
      repeat first | rw [if_pos (by omega)] | rw [if_neg (by omega)]
    · rw [b2i_n0] at c24
      refine al_0 dX8_ledger_27 ?_
      refine g_X8_12 (2) dX8_ledger_28 rfl tt1 (rr8_0 tt1) (by omega) ?_
      refine g_X8_112 (3) dX8_ledger_31 rfl tt2 (rr7_0 tt2) (by omega) ?_
      refine il_1 dX8_ledger_34 ?_
      refine c_X8_336 dX8_ledger_35 rfl tt3 (Nat.le_of_ble_eq_true rfl) (by omega) ?_
      refine wX5_linesOf (by omega) (by omega) (by omega) (fun j j0 j1 => by rw [C.1.bk j j0 (by omega)]; exact (C.2.1.bk j j0 (by omega)).1) ?_
      rw [s5, cntN_c (P := fun j => rdB h j 2 == p) (P' := fun j => entV R j 2 == p) _ (fun j j0 j1 => by rw [rdB_e C, if_pos (by omega)])]
      refine pv_i ?_
      refine wp_goto 43 dX8_ledger_38 rfl ?_
      refine wp_ireti dX8_ledger_43 rfl ?_
      refine qv hQ ?_
      unfold aLedger
      repeat first | rw [if_pos (by omega)] | rw [if_neg (by omega)]
  · refine al_0 dX8_ledger_5 ?_
    refine g_X8_12 (2) dX8_ledger_6 rfl tt1 (rr8_0 tt1) (by omega) ?_
    refine g_X8_112 (3) dX8_ledger_9 rfl tt2 (rr7_0 tt2) (by omega) ?_
    refine g_X8_186 dX8_ledger_12 rfl tt3 ?_
    rw [s5]
    refine wp_ireti dX8_ledger_15 rfl ?_
    refine qv hQ ?_
    unfold aLedger
    repeat first | rw [if_pos (by omega)] | rw [if_neg (by omega)]

theorem wX9_ledger_20 {G : GT} {δ : Nat} {h hl : Nat → Int → Int} {b : Bool × Bool} {Q : V → Hp → Prop} {p : Int} {R : Int → Int} {L : Laws} (hδ : δ ≤ 1660) (M : MT h R L)  : ∀ (n : Nat) (cn : Int) (i : Int), ((R 12 - i).toNat) < n → (0 ≤ i) → (i ≤ R 12) → (cn = if p = -1 then i else cntN (fun j => entV R j 2 == p) i.toNat) → (Q (vi (if p = -1 then R 12 else cntN (fun j => entV R j 2 == p) (R 12).toNat)) (HS h hl b)) → WP G δ 0 0 MX9_ledger 20 [vr (336), vi p, vi cn, vi i] [] (HS h hl b) Q := by
  intro n
  induction n with
  | zero => intro cn i hlt; exact absurd hlt (Nat.not_lt_zero _)
  | succ n ih =>
    intro cn i hlt i0 i1 hn hQ
    have m := M.1
    have V := M.2.1
    have vn' := V.n
    have vw := V.w
    refine il_3 dX9_ledger_20 ?_
    refine al_0 dX9_ledger_21 ?_
    refine g_X9_7 (337) dX9_ledger_22 rfl tt336 (rr9_0 tt336) (by omega) ?_
    refine bi_12 dX9_ledger_25 ?_
    refine wp_iaload dX9_ledger_27 tt337 (by omega) (by omega) ?_
    first | rw [m2] | rw [m1] | rw [m] | rw [sw_s] | skip
    refine wp_icmp_ge 60 dX9_ledger_28 rfl (fun c28 => ?_) (fun c28 => ?_)
    · have e : i = R 12 := by omega
      subst e
      refine il_2 dX9_ledger_60 ?_
      refine wp_ireti dX9_ledger_61 rfl ?_
      exact qv hQ hn.symm
    · have hr := cntN_R (P := fun j => entV R j 2 == p) i.toNat
      have hn2 : 0 ≤ cn ∧ cn ≤ i := by rw [hn]; split <;> omega
      refine il_2 dX9_ledger_31 ?_
      refine il_1 dX9_ledger_32 ?_
      refine ic_m1 dX9_ledger_33 ?_
      refine wp_icmp_eq 47 dX9_ledger_34 rfl (fun c34 => ?_) (fun c34 => ?_)
      · refine ic_1 dX9_ledger_47 ?_
        refine wp_goto 52 dX9_ledger_48 rfl ?_
        refine wp_iadd dX9_ledger_52 (r32 (by omega) (by omega)) ?_
        refine is_2 dX9_ledger_53 rfl (by decide) ?_
        refine ii_3 dX9_ledger_54 rfl (by decide) ⟨by decide, by decide⟩ (r32 (by omega) (by omega)) ?_
        refine wp_goto 20 dX9_ledger_57 rfl ?_
        refine ih _ (i + 1) (by omega) (by omega) (by omega) ?_ hQ
        rw [hn, cntN_s i0]
        first
          | (rw [if_pos c34, if_pos c34])
          | (rw [if_neg c34, if_neg c34]; simp [c44])
      · refine al_0 dX9_ledger_37 ?_
        refine il_3 dX9_ledger_38 ?_
        refine ic_2 dX9_ledger_39 ?_
        refine c_X9_390 dX9_ledger_40 rfl tt336 (Nat.le_of_ble_eq_true rfl) (by omega) ?_
        refine wX9_entry (by omega) M (by omega) (by omega) ?_
        refine pv_i ?_
        refine il_1 dX9_ledger_43 ?_
        refine wp_icmp_ne 51 dX9_ledger_44 rfl (fun c44 => ?_) (fun c44 => ?_)
        · refine ic_0 dX9_ledger_51 ?_
          refine wp_iadd dX9_ledger_52 (r32 (by omega) (by omega)) ?_
          refine is_2 dX9_ledger_53 rfl (by decide) ?_
          refine ii_3 dX9_ledger_54 rfl (by decide) ⟨by decide, by decide⟩ (r32 (by omega) (by omega)) ?_
          refine wp_goto 20 dX9_ledger_57 rfl ?_
          refine ih _ (i + 1) (by omega) (by omega) (by omega) ?_ hQ
          rw [hn, cntN_s i0]
          first
            | (rw [if_pos c34, if_pos c34])
            | (rw [if_neg c34, if_neg c34]; simp [c44])
        · refine ic_1 dX9_ledger_47 ?_
          refine wp_goto 52 dX9_ledger_48 rfl ?_
          refine wp_iadd dX9_ledger_52 (r32 (by omega) (by omega)) ?_
          refine is_2 dX9_ledger_53 rfl (by decide) ?_
          refine ii_3 dX9_ledger_54 rfl (by decide) ⟨by decide, by decide⟩ (r32 (by omega) (by omega)) ?_
          refine wp_goto 20 dX9_ledger_57 rfl ?_
          refine ih _ (i + 1) (by omega) (by omega) (by omega) ?_ hQ
          rw [hn, cntN_s i0]
          first
            | (rw [if_pos c34, if_pos c34])
            | (rw [if_neg c34, if_neg c34]; simp [c44])

theorem wX9_ledger {G : GT} {δ : Nat} {h hl : Nat → Int → Int} {b : Bool × Bool} {Q : V → Hp → Prop} {p : Int} {R : Int → Int} {L : Laws} (hδ : δ ≤ 1660) (M : MT h R L)  (hQ : Q (vi (aLedger R p)) (HS h hl b)) : WP G δ 0 0 MX9_ledger 0 [vr (336), vi p, vn, vn] [] (HS h hl b) Q := by
  have m := M.1
  have V := M.2.1
  have vn' := V.n
  have vw := V.w
  refine il_1 dX9_ledger_0 ?_
  refine ic_m1 dX9_ledger_1 ?_
  refine wp_icmp_eq 16 dX9_ledger_2 rfl (fun c2 => ?_) (fun c2 => ?_)
  · refine ic_0 dX9_ledger_16 ?_
    refine is_2 dX9_ledger_17 rfl (by decide) ?_
    refine ic_0 dX9_ledger_18 ?_
    refine is_3 dX9_ledger_19 rfl (by decide) ?_
    refine wX9_ledger_20 (by omega) M _ 0 0 (Nat.lt_succ_self _) (by omega) (by omega) (by split <;> rfl) (qv hQ ?_)
    unfold aLedger
    by_cases e : p = -1
    · rw [if_pos e, if_pos e]
    · rw [if_neg e, if_neg e, if_pos (by omega)]
  · refine al_0 dX9_ledger_5 ?_
    refine il_1 dX9_ledger_6 ?_
    refine c_X9_335 dX9_ledger_7 rfl tt336 (Nat.le_of_ble_eq_true rfl) (by omega) ?_
    refine wX9_isPerson (by omega) (by rw [m]; omega) (by rw [m]; omega) ?_
    rw [m]
    refine pv_i ?_
    refine wp_if_ne 16 dX9_ledger_10 rfl (fun c10 => ?_) (fun c10 => ?_)
    · rw [b2i_n0] at c10
      refine ic_0 dX9_ledger_16 ?_
      refine is_2 dX9_ledger_17 rfl (by decide) ?_
      refine ic_0 dX9_ledger_18 ?_
      refine is_3 dX9_ledger_19 rfl (by decide) ?_
      refine wX9_ledger_20 (by omega) M _ 0 0 (Nat.lt_succ_self _) (by omega) (by omega) (by split <;> rfl) (qv hQ ?_)
      unfold aLedger
      by_cases e : p = -1
      · rw [if_pos e, if_pos e]
      · rw [if_neg e, if_neg e, if_pos (by omega)]
    · rw [b2i_0] at c10
      refine bi_m2 dX9_ledger_13 ?_
      refine wp_ireti dX9_ledger_15 rfl ?_
      exact qv hQ (by unfold aLedger; rw [if_neg (by omega), if_neg (by omega)])

theorem wX8_surest_4 {G : GT} {δ : Nat} {h hl : Nat → Int → Int} {b : Bool × Bool} {Q : V → Hp → Prop}  {R : Int → Int} {L : Laws} (hδ : δ ≤ 1680) (C : CT h R L)  : ∀ (n : Nat) (f : Int) (p : Int), ((R 0 - p).toNat) < n → (0 ≤ p) → (p ≤ R 0) → (f = minIx (fun i j => decide (R (21 + i) < R (21 + j))) p.toNat) → (Q (vi (aSurest R)) (HS h hl b)) → WP G δ 0 0 MX8_surest 4 [vr (1), vi f, vi p] [] (HS h hl b) Q := by
  intro n
  induction n with
  | zero => intro f p hlt; exact absurd hlt (Nat.not_lt_zero _)
  | succ n ih =>
    intro f p hlt p0 p1 hf hQ
    obtain ⟨⟨s0, s3, s4, s1, s2, s5⟩, ⟨t0, t1, t5, t6, t7⟩, ⟨g7, g8, g11, g10, g10x⟩⟩ := C.1.f
    have vn' := C.2.1.n
    have vw := C.2.1.w
    have fr := minIx_R (lt := (fun i j => decide (R (21 + i) < R (21 + j)))) p.toNat
    refine il_2 dX8_surest_4 ?_
    refine al_0 dX8_surest_5 ?_
    refine g_X8_12 (2) dX8_surest_6 rfl tt1 (rr8_0 tt1) (by omega) ?_
    refine g_X8_112 (3) dX8_surest_9 rfl tt2 (rr7_0 tt2) (by omega) ?_
    refine g_X8_330 dX8_surest_12 rfl tt3 ?_
    rw [s0]
    refine wp_icmp_ge 56 dX8_surest_15 rfl (fun c15 => ?_) (fun c15 => ?_)
    · have e : p = R 0 := by omega
      subst e
      refine il_1 dX8_surest_56 ?_
      refine wp_ireti dX8_surest_57 rfl ?_
      exact qv hQ hf.symm
    · refine il_1 dX8_surest_18 ?_
      refine ic_m1 dX8_surest_19 ?_
      refine wp_icmp_eq 48 dX8_surest_20 rfl (fun c20 => ?_) (fun c20 => ?_)
      · refine il_2 dX8_surest_48 ?_
        refine is_1 dX8_surest_49 rfl (by decide) ?_
        refine ii_2 dX8_surest_50 rfl (by decide) ⟨by decide, by decide⟩ (r32 (by omega) (by omega)) ?_
        refine wp_goto 4 dX8_surest_53 rfl ?_
        refine ih _ (p + 1) (by omega) (by omega) (by omega) ?_ hQ
        rw [minIx_s p0, ← hf]
        first
          | rw [if_pos (Or.inl (by assumption))]
          | rw [if_pos (Or.inr (by simp; omega))]
          | rw [if_neg (fun z => by rcases z with z | z; omega; simp at z; omega)]
      · refine al_0 dX8_surest_23 ?_
        refine g_X8_12 (2) dX8_surest_24 rfl tt1 (rr8_0 tt1) (by omega) ?_
        refine g_X8_152 (7) dX8_surest_27 rfl tt2 (rr7_1 tt2) (by omega) ?_
        refine il_2 dX8_surest_30 ?_
        refine c_X8_156 dX8_surest_31 rfl tt7 (Nat.le_of_ble_eq_true rfl) (by omega) ?_
        refine wX6_at (by omega) tt7 tt8 (by decide) (by omega) (by omega) ?_
        rw [C.1.slA (by omega) (by omega)]
        refine pv_i ?_
        refine al_0 dX8_surest_34 ?_
        refine g_X8_12 (2) dX8_surest_35 rfl tt1 (rr8_0 tt1) (by omega) ?_
        refine g_X8_152 (7) dX8_surest_38 rfl tt2 (rr7_1 tt2) (by omega) ?_
        refine il_1 dX8_surest_41 ?_
        refine c_X8_156 dX8_surest_42 rfl tt7 (Nat.le_of_ble_eq_true rfl) (by omega) ?_
        refine wX6_at (by omega) tt7 tt8 (by decide) (by omega) (by omega) ?_
        rw [C.1.slA (by omega) (by omega)]
        refine pv_i ?_
        refine wp_icmp_ge 50 dX8_surest_45 rfl (fun c45 => ?_) (fun c45 => ?_)
        · refine ii_2 dX8_surest_50 rfl (by decide) ⟨by decide, by decide⟩ (r32 (by omega) (by omega)) ?_
          refine wp_goto 4 dX8_surest_53 rfl ?_
          refine ih _ (p + 1) (by omega) (by omega) (by omega) ?_ hQ
          rw [minIx_s p0, ← hf]
          first
            | rw [if_pos (Or.inl (by assumption))]
            | rw [if_pos (Or.inr (by simp; omega))]
            | rw [if_neg (fun z => by rcases z with z | z; omega; simp at z; omega)]
        · refine il_2 dX8_surest_48 ?_
          refine is_1 dX8_surest_49 rfl (by decide) ?_
          refine ii_2 dX8_surest_50 rfl (by decide) ⟨by decide, by decide⟩ (r32 (by omega) (by omega)) ?_
          refine wp_goto 4 dX8_surest_53 rfl ?_
          refine ih _ (p + 1) (by omega) (by omega) (by omega) ?_ hQ
          rw [minIx_s p0, ← hf]
          first
            | rw [if_pos (Or.inl (by assumption))]
            | rw [if_pos (Or.inr (by simp; omega))]
            | rw [if_neg (fun z => by rcases z with z | z; omega; simp at z; omega)]

theorem wX8_surest {G : GT} {δ : Nat} {h hl : Nat → Int → Int} {b : Bool × Bool} {Q : V → Hp → Prop} {R : Int → Int} {L : Laws} (hδ : δ ≤ 1680) (C : CT h R L)  (hQ : Q (vi (aSurest R)) (HS h hl b)) : WP G δ 0 0 MX8_surest 0 [vr (1), vn, vn] [] (HS h hl b) Q := by
  obtain ⟨⟨s0, s3, s4, s1, s2, s5⟩, ⟨t0, t1, t5, t6, t7⟩, ⟨g7, g8, g11, g10, g10x⟩⟩ := C.1.f
  have vn' := C.2.1.n
  have vw := C.2.1.w
  refine ic_m1 dX8_surest_0 ?_
  refine is_1 dX8_surest_1 rfl (by decide) ?_
  refine ic_0 dX8_surest_2 ?_
  refine is_2 dX8_surest_3 rfl (by decide) ?_
  exact wX8_surest_4 (by omega) C _ (-1) 0 (Nat.lt_succ_self _) (by omega) (by omega) rfl hQ

theorem wX9_surest_4 {G : GT} {δ : Nat} {h hl : Nat → Int → Int} {b : Bool × Bool} {Q : V → Hp → Prop}  {R : Int → Int} {L : Laws} (hδ : δ ≤ 1700) (M : MT h R L)  : ∀ (n : Nat) (f : Int) (p : Int), ((R 0 - p).toNat) < n → (0 ≤ p) → (p ≤ R 0) → (f = minIx (fun i j => decide (R (21 + i) < R (21 + j))) p.toNat) → (Q (vi (aSurest R)) (HS h hl b)) → WP G δ 0 0 MX9_surest 4 [vr (336), vi f, vi p] [] (HS h hl b) Q := by
  intro n
  induction n with
  | zero => intro f p hlt; exact absurd hlt (Nat.not_lt_zero _)
  | succ n ih =>
    intro f p hlt p0 p1 hf hQ
    have m := M.1
    have V := M.2.1
    have vn' := V.n
    have vw := V.w
    have fr := minIx_R (lt := (fun i j => decide (R (21 + i) < R (21 + j)))) p.toNat
    refine il_2 dX9_surest_4 ?_
    refine al_0 dX9_surest_5 ?_
    refine g_X9_7 (337) dX9_surest_6 rfl tt336 (rr9_0 tt336) (by omega) ?_
    refine ic_0 dX9_surest_9 ?_
    refine wp_iaload dX9_surest_10 tt337 (by omega) (by omega) ?_
    first | rw [m2] | rw [m1] | rw [m] | rw [sw_s] | skip
    refine wp_icmp_ge 48 dX9_surest_11 rfl (fun c11 => ?_) (fun c11 => ?_)
    · have e : p = R 0 := by omega
      subst e
      refine il_1 dX9_surest_48 ?_
      refine wp_ireti dX9_surest_49 rfl ?_
      exact qv hQ hf.symm
    · refine il_1 dX9_surest_14 ?_
      refine ic_m1 dX9_surest_15 ?_
      refine wp_icmp_eq 40 dX9_surest_16 rfl (fun c16 => ?_) (fun c16 => ?_)
      · refine il_2 dX9_surest_40 ?_
        refine is_1 dX9_surest_41 rfl (by decide) ?_
        refine ii_2 dX9_surest_42 rfl (by decide) ⟨by decide, by decide⟩ (r32 (by omega) (by omega)) ?_
        refine wp_goto 4 dX9_surest_45 rfl ?_
        refine ih _ (p + 1) (by omega) (by omega) (by omega) ?_ hQ
        rw [minIx_s p0, ← hf]
        first
          | rw [if_pos (Or.inl (by assumption))]
          | rw [if_pos (Or.inr (by simp; omega))]
          | rw [if_neg (fun z => by rcases z with z | z; omega; simp at z; omega)]
      · refine al_0 dX9_surest_19 ?_
        refine g_X9_7 (337) dX9_surest_20 rfl tt336 (rr9_0 tt336) (by omega) ?_
        refine bi_21 dX9_surest_23 ?_
        refine il_2 dX9_surest_25 ?_
        refine wp_iadd dX9_surest_26 (r32 (by omega) (by omega)) ?_
        refine wp_iaload dX9_surest_27 tt337 (by omega) (by omega) ?_
        first | rw [m2] | rw [m1] | rw [m] | rw [sw_s] | skip
        refine al_0 dX9_surest_28 ?_
        refine g_X9_7 (337) dX9_surest_29 rfl tt336 (rr9_0 tt336) (by omega) ?_
        refine bi_21 dX9_surest_32 ?_
        refine il_1 dX9_surest_34 ?_
        refine wp_iadd dX9_surest_35 (r32 (by omega) (by omega)) ?_
        refine wp_iaload dX9_surest_36 tt337 (by omega) (by omega) ?_
        first | rw [m2] | rw [m1] | rw [m] | rw [sw_s] | skip
        refine wp_icmp_ge 42 dX9_surest_37 rfl (fun c37 => ?_) (fun c37 => ?_)
        · refine ii_2 dX9_surest_42 rfl (by decide) ⟨by decide, by decide⟩ (r32 (by omega) (by omega)) ?_
          refine wp_goto 4 dX9_surest_45 rfl ?_
          refine ih _ (p + 1) (by omega) (by omega) (by omega) ?_ hQ
          rw [minIx_s p0, ← hf]
          first
            | rw [if_pos (Or.inl (by assumption))]
            | rw [if_pos (Or.inr (by simp; omega))]
            | rw [if_neg (fun z => by rcases z with z | z; omega; simp at z; omega)]
        · refine il_2 dX9_surest_40 ?_
          refine is_1 dX9_surest_41 rfl (by decide) ?_
          refine ii_2 dX9_surest_42 rfl (by decide) ⟨by decide, by decide⟩ (r32 (by omega) (by omega)) ?_
          refine wp_goto 4 dX9_surest_45 rfl ?_
          refine ih _ (p + 1) (by omega) (by omega) (by omega) ?_ hQ
          rw [minIx_s p0, ← hf]
          first
            | rw [if_pos (Or.inl (by assumption))]
            | rw [if_pos (Or.inr (by simp; omega))]
            | rw [if_neg (fun z => by rcases z with z | z; omega; simp at z; omega)]

theorem wX9_surest {G : GT} {δ : Nat} {h hl : Nat → Int → Int} {b : Bool × Bool} {Q : V → Hp → Prop} {R : Int → Int} {L : Laws} (hδ : δ ≤ 1700) (M : MT h R L)  (hQ : Q (vi (aSurest R)) (HS h hl b)) : WP G δ 0 0 MX9_surest 0 [vr (336), vn, vn] [] (HS h hl b) Q := by
  have m := M.1
  have V := M.2.1
  have vn' := V.n
  have vw := V.w
  refine ic_m1 dX9_surest_0 ?_
  refine is_1 dX9_surest_1 rfl (by decide) ?_
  refine ic_0 dX9_surest_2 ?_
  refine is_2 dX9_surest_3 rfl (by decide) ?_
  exact wX9_surest_4 (by omega) M _ (-1) 0 (Nat.lt_succ_self _) (by omega) (by omega) rfl hQ

theorem wX8_poorest_4 {G : GT} {δ : Nat} {h hl : Nat → Int → Int} {b : Bool × Bool} {Q : V → Hp → Prop}  {R : Int → Int} {L : Laws} (hδ : δ ≤ 1700) (C : CT h R L)  : ∀ (n : Nat) (f : Int) (p : Int), ((R 0 - p).toNat) < n → (0 ≤ p) → (p ≤ R 0) → (f = minIx (fun i j => decide (R (13 + 2 * i) < R (13 + 2 * j))) p.toNat) → (Q (vi (aPoorest R)) (HS h hl b)) → WP G δ 0 0 MX8_poorest 4 [vr (1), vi f, vi p] [] (HS h hl b) Q := by
  intro n
  induction n with
  | zero => intro f p hlt; exact absurd hlt (Nat.not_lt_zero _)
  | succ n ih =>
    intro f p hlt p0 p1 hf hQ
    obtain ⟨⟨s0, s3, s4, s1, s2, s5⟩, ⟨t0, t1, t5, t6, t7⟩, ⟨g7, g8, g11, g10, g10x⟩⟩ := C.1.f
    have vn' := C.2.1.n
    have vw := C.2.1.w
    have fr := minIx_R (lt := (fun i j => decide (R (13 + 2 * i) < R (13 + 2 * j)))) p.toNat
    refine il_2 dX8_poorest_4 ?_
    refine al_0 dX8_poorest_5 ?_
    refine g_X8_12 (2) dX8_poorest_6 rfl tt1 (rr8_0 tt1) (by omega) ?_
    refine g_X8_112 (3) dX8_poorest_9 rfl tt2 (rr7_0 tt2) (by omega) ?_
    refine g_X8_330 dX8_poorest_12 rfl tt3 ?_
    rw [s0]
    refine wp_icmp_ge 58 dX8_poorest_15 rfl (fun c15 => ?_) (fun c15 => ?_)
    · have e : p = R 0 := by omega
      subst e
      refine il_1 dX8_poorest_58 ?_
      refine wp_ireti dX8_poorest_59 rfl ?_
      exact qv hQ hf.symm
    · refine il_1 dX8_poorest_18 ?_
      refine ic_m1 dX8_poorest_19 ?_
      refine wp_icmp_eq 50 dX8_poorest_20 rfl (fun c20 => ?_) (fun c20 => ?_)
      · refine il_2 dX8_poorest_50 ?_
        refine is_1 dX8_poorest_51 rfl (by decide) ?_
        refine ii_2 dX8_poorest_52 rfl (by decide) ⟨by decide, by decide⟩ (r32 (by omega) (by omega)) ?_
        refine wp_goto 4 dX8_poorest_55 rfl ?_
        refine ih _ (p + 1) (by omega) (by omega) (by omega) ?_ hQ
        rw [minIx_s p0, ← hf]
        first
          | rw [if_pos (Or.inl (by assumption))]
          | rw [if_pos (Or.inr (by simp; omega))]
          | rw [if_neg (fun z => by rcases z with z | z; omega; simp at z; omega)]
      · refine al_0 dX8_poorest_23 ?_
        refine g_X8_12 (2) dX8_poorest_24 rfl tt1 (rr8_0 tt1) (by omega) ?_
        refine g_X8_112 (3) dX8_poorest_27 rfl tt2 (rr7_0 tt2) (by omega) ?_
        refine g_X8_148 (4) dX8_poorest_30 rfl tt3 (rr5_6 tt3) (by omega) ?_
        refine il_2 dX8_poorest_33 ?_
        refine wp_iaload dX8_poorest_34 tt4 (by omega) (by omega) ?_
        rw [C.1.oil p (by omega) (by omega)]
        refine al_0 dX8_poorest_35 ?_
        refine g_X8_12 (2) dX8_poorest_36 rfl tt1 (rr8_0 tt1) (by omega) ?_
        refine g_X8_112 (3) dX8_poorest_39 rfl tt2 (rr7_0 tt2) (by omega) ?_
        refine g_X8_148 (4) dX8_poorest_42 rfl tt3 (rr5_6 tt3) (by omega) ?_
        refine il_1 dX8_poorest_45 ?_
        refine wp_iaload dX8_poorest_46 tt4 (by omega) (by omega) ?_
        rw [C.1.oil f (by omega) (by omega)]
        refine wp_icmp_ge 52 dX8_poorest_47 rfl (fun c47 => ?_) (fun c47 => ?_)
        · refine ii_2 dX8_poorest_52 rfl (by decide) ⟨by decide, by decide⟩ (r32 (by omega) (by omega)) ?_
          refine wp_goto 4 dX8_poorest_55 rfl ?_
          refine ih _ (p + 1) (by omega) (by omega) (by omega) ?_ hQ
          rw [minIx_s p0, ← hf]
          first
            | rw [if_pos (Or.inl (by assumption))]
            | rw [if_pos (Or.inr (by simp; omega))]
            | rw [if_neg (fun z => by rcases z with z | z; omega; simp at z; omega)]
        · refine il_2 dX8_poorest_50 ?_
          refine is_1 dX8_poorest_51 rfl (by decide) ?_
          refine ii_2 dX8_poorest_52 rfl (by decide) ⟨by decide, by decide⟩ (r32 (by omega) (by omega)) ?_
          refine wp_goto 4 dX8_poorest_55 rfl ?_
          refine ih _ (p + 1) (by omega) (by omega) (by omega) ?_ hQ
          rw [minIx_s p0, ← hf]
          first
            | rw [if_pos (Or.inl (by assumption))]
            | rw [if_pos (Or.inr (by simp; omega))]
            | rw [if_neg (fun z => by rcases z with z | z; omega; simp at z; omega)]

theorem wX8_poorest {G : GT} {δ : Nat} {h hl : Nat → Int → Int} {b : Bool × Bool} {Q : V → Hp → Prop} {R : Int → Int} {L : Laws} (hδ : δ ≤ 1700) (C : CT h R L)  (hQ : Q (vi (aPoorest R)) (HS h hl b)) : WP G δ 0 0 MX8_poorest 0 [vr (1), vn, vn] [] (HS h hl b) Q := by
  obtain ⟨⟨s0, s3, s4, s1, s2, s5⟩, ⟨t0, t1, t5, t6, t7⟩, ⟨g7, g8, g11, g10, g10x⟩⟩ := C.1.f
  have vn' := C.2.1.n
  have vw := C.2.1.w
  refine ic_m1 dX8_poorest_0 ?_
  refine is_1 dX8_poorest_1 rfl (by decide) ?_
  refine ic_0 dX8_poorest_2 ?_
  refine is_2 dX8_poorest_3 rfl (by decide) ?_
  exact wX8_poorest_4 (by omega) C _ (-1) 0 (Nat.lt_succ_self _) (by omega) (by omega) rfl hQ

theorem wX9_poorest_4 {G : GT} {δ : Nat} {h hl : Nat → Int → Int} {b : Bool × Bool} {Q : V → Hp → Prop}  {R : Int → Int} {L : Laws} (hδ : δ ≤ 1680) (M : MT h R L)  : ∀ (n : Nat) (f : Int) (p : Int), ((R 0 - p).toNat) < n → (0 ≤ p) → (p ≤ R 0) → (f = minIx (fun i j => decide (R (13 + 2 * i) < R (13 + 2 * j))) p.toNat) → (Q (vi (aPoorest R)) (HS h hl b)) → WP G δ 0 0 MX9_poorest 4 [vr (336), vi f, vi p] [] (HS h hl b) Q := by
  intro n
  induction n with
  | zero => intro f p hlt; exact absurd hlt (Nat.not_lt_zero _)
  | succ n ih =>
    intro f p hlt p0 p1 hf hQ
    have m := M.1
    have V := M.2.1
    have vn' := V.n
    have vw := V.w
    have fr := minIx_R (lt := (fun i j => decide (R (13 + 2 * i) < R (13 + 2 * j)))) p.toNat
    refine il_2 dX9_poorest_4 ?_
    refine al_0 dX9_poorest_5 ?_
    refine g_X9_7 (337) dX9_poorest_6 rfl tt336 (rr9_0 tt336) (by omega) ?_
    refine ic_0 dX9_poorest_9 ?_
    refine wp_iaload dX9_poorest_10 tt337 (by omega) (by omega) ?_
    first | rw [m2] | rw [m1] | rw [m] | rw [sw_s] | skip
    refine wp_icmp_ge 40 dX9_poorest_11 rfl (fun c11 => ?_) (fun c11 => ?_)
    · have e : p = R 0 := by omega
      subst e
      refine il_1 dX9_poorest_40 ?_
      refine wp_ireti dX9_poorest_41 rfl ?_
      exact qv hQ hf.symm
    · refine il_1 dX9_poorest_14 ?_
      refine ic_m1 dX9_poorest_15 ?_
      refine wp_icmp_eq 32 dX9_poorest_16 rfl (fun c16 => ?_) (fun c16 => ?_)
      · refine il_2 dX9_poorest_32 ?_
        refine is_1 dX9_poorest_33 rfl (by decide) ?_
        refine ii_2 dX9_poorest_34 rfl (by decide) ⟨by decide, by decide⟩ (r32 (by omega) (by omega)) ?_
        refine wp_goto 4 dX9_poorest_37 rfl ?_
        refine ih _ (p + 1) (by omega) (by omega) (by omega) ?_ hQ
        rw [minIx_s p0, ← hf]
        first
          | rw [if_pos (Or.inl (by assumption))]
          | rw [if_pos (Or.inr (by simp; omega))]
          | rw [if_neg (fun z => by rcases z with z | z; omega; simp at z; omega)]
      · refine al_0 dX9_poorest_19 ?_
        refine il_2 dX9_poorest_20 ?_
        refine c_X9_73 dX9_poorest_21 rfl tt336 (Nat.le_of_ble_eq_true rfl) (by omega) ?_
        refine wX9_oilOf (by omega) (by omega) (by omega) ?_
        rw [m]
        refine pv_i ?_
        refine al_0 dX9_poorest_24 ?_
        refine il_1 dX9_poorest_25 ?_
        refine c_X9_73 dX9_poorest_26 rfl tt336 (Nat.le_of_ble_eq_true rfl) (by omega) ?_
        refine wX9_oilOf (by omega) (by omega) (by omega) ?_
        rw [m]
        refine pv_i ?_
        refine wp_icmp_ge 34 dX9_poorest_29 rfl (fun c29 => ?_) (fun c29 => ?_)
        · refine ii_2 dX9_poorest_34 rfl (by decide) ⟨by decide, by decide⟩ (r32 (by omega) (by omega)) ?_
          refine wp_goto 4 dX9_poorest_37 rfl ?_
          refine ih _ (p + 1) (by omega) (by omega) (by omega) ?_ hQ
          rw [minIx_s p0, ← hf]
          first
            | rw [if_pos (Or.inl (by assumption))]
            | rw [if_pos (Or.inr (by simp; omega))]
            | rw [if_neg (fun z => by rcases z with z | z; omega; simp at z; omega)]
        · refine il_2 dX9_poorest_32 ?_
          refine is_1 dX9_poorest_33 rfl (by decide) ?_
          refine ii_2 dX9_poorest_34 rfl (by decide) ⟨by decide, by decide⟩ (r32 (by omega) (by omega)) ?_
          refine wp_goto 4 dX9_poorest_37 rfl ?_
          refine ih _ (p + 1) (by omega) (by omega) (by omega) ?_ hQ
          rw [minIx_s p0, ← hf]
          first
            | rw [if_pos (Or.inl (by assumption))]
            | rw [if_pos (Or.inr (by simp; omega))]
            | rw [if_neg (fun z => by rcases z with z | z; omega; simp at z; omega)]

theorem wX9_poorest {G : GT} {δ : Nat} {h hl : Nat → Int → Int} {b : Bool × Bool} {Q : V → Hp → Prop} {R : Int → Int} {L : Laws} (hδ : δ ≤ 1680) (M : MT h R L)  (hQ : Q (vi (aPoorest R)) (HS h hl b)) : WP G δ 0 0 MX9_poorest 0 [vr (336), vn, vn] [] (HS h hl b) Q := by
  have m := M.1
  have V := M.2.1
  have vn' := V.n
  have vw := V.w
  refine ic_m1 dX9_poorest_0 ?_
  refine is_1 dX9_poorest_1 rfl (by decide) ?_
  refine ic_0 dX9_poorest_2 ?_
  refine is_2 dX9_poorest_3 rfl (by decide) ?_
  exact wX9_poorest_4 (by omega) M _ (-1) 0 (Nat.lt_succ_self _) (by omega) (by omega) rfl hQ

theorem wX8_fool_6 {G : GT} {δ : Nat} {h hl : Nat → Int → Int} {b : Bool × Bool} {Q : V → Hp → Prop}  {R : Int → Int} {L : Laws} (hδ : δ ≤ 1700) (C : CT h R L)  : ∀ (n : Nat) (f : Int) (w : Int) (p : Int), ((R 0 - p).toNat) < n → (0 ≤ p) → (p ≤ R 0) → (f = foN (fun i => R (14 + 2 * i)) p.toNat) → (w = if f = -1 then 0 else R (14 + 2 * f)) → (Q (vi (aFool R)) (HS h hl b)) → WP G δ 0 0 MX8_fool 6 [vr (1), vi f, vi w, vi p] [] (HS h hl b) Q := by
  intro n
  induction n with
  | zero => intro f w p hlt; exact absurd hlt (Nat.not_lt_zero _)
  | succ n ih =>
    intro f w p hlt p0 p1 hf hw hQ
    obtain ⟨⟨s0, s3, s4, s1, s2, s5⟩, ⟨t0, t1, t5, t6, t7⟩, ⟨g7, g8, g11, g10, g10x⟩⟩ := C.1.f
    have vn' := C.2.1.n
    have vw := C.2.1.w
    refine il_3 dX8_fool_6 ?_
    refine al_0 dX8_fool_7 ?_
    refine g_X8_12 (2) dX8_fool_8 rfl tt1 (rr8_0 tt1) (by omega) ?_
    refine g_X8_112 (3) dX8_fool_11 rfl tt2 (rr7_0 tt2) (by omega) ?_
    refine g_X8_330 dX8_fool_14 rfl tt3 ?_
    rw [s0]
    refine wp_icmp_ge 57 dX8_fool_17 rfl (fun c17 => ?_) (fun c17 => ?_)
    · have e : p = R 0 := by omega
      subst e
      refine il_1 dX8_fool_57 ?_
      refine wp_ireti dX8_fool_58 rfl ?_
      exact qv hQ hf.symm
    · refine al_0 dX8_fool_20 ?_
      refine g_X8_12 (2) dX8_fool_21 rfl tt1 (rr8_0 tt1) (by omega) ?_
      refine g_X8_112 (3) dX8_fool_24 rfl tt2 (rr7_0 tt2) (by omega) ?_
      refine g_X8_161 (5) dX8_fool_27 rfl tt3 (rr5_7 tt3) (by omega) ?_
      refine il_3 dX8_fool_30 ?_
      refine wp_iaload dX8_fool_31 tt5 (by omega) (by omega) ?_
      rw [C.1.wr p (by omega) (by omega)]
      refine il_2 dX8_fool_32 ?_
      refine wp_icmp_le 51 dX8_fool_33 rfl (fun c33 => ?_) (fun c33 => ?_)
      · refine ii_3 dX8_fool_51 rfl (by decide) ⟨by decide, by decide⟩ (r32 (by omega) (by omega)) ?_
        refine wp_goto 6 dX8_fool_54 rfl ?_
        refine ih _ _ (p + 1) (by omega) (by omega) (by omega) ?_ ?_ hQ
        · rw [foN_s p0, ← hf]; rw [← hw]; first | rw [if_pos (by omega)] | rw [if_neg (by omega)]
        · first | exact hw | rw [if_neg (by omega)]
      · refine il_3 dX8_fool_36 ?_
        refine is_1 dX8_fool_37 rfl (by decide) ?_
        refine al_0 dX8_fool_38 ?_
        refine g_X8_12 (2) dX8_fool_39 rfl tt1 (rr8_0 tt1) (by omega) ?_
        refine g_X8_112 (3) dX8_fool_42 rfl tt2 (rr7_0 tt2) (by omega) ?_
        refine g_X8_161 (5) dX8_fool_45 rfl tt3 (rr5_7 tt3) (by omega) ?_
        refine il_3 dX8_fool_48 ?_
        refine wp_iaload dX8_fool_49 tt5 (by omega) (by omega) ?_
        rw [C.1.wr p (by omega) (by omega)]
        refine is_2 dX8_fool_50 rfl (by decide) ?_
        refine ii_3 dX8_fool_51 rfl (by decide) ⟨by decide, by decide⟩ (r32 (by omega) (by omega)) ?_
        refine wp_goto 6 dX8_fool_54 rfl ?_
        refine ih _ _ (p + 1) (by omega) (by omega) (by omega) ?_ ?_ hQ
        · rw [foN_s p0, ← hf]; rw [← hw]; first | rw [if_pos (by omega)] | rw [if_neg (by omega)]
        · first | exact hw | rw [if_neg (by omega)]

theorem wX8_fool {G : GT} {δ : Nat} {h hl : Nat → Int → Int} {b : Bool × Bool} {Q : V → Hp → Prop} {R : Int → Int} {L : Laws} (hδ : δ ≤ 1700) (C : CT h R L)  (hQ : Q (vi (aFool R)) (HS h hl b)) : WP G δ 0 0 MX8_fool 0 [vr (1), vn, vn, vn] [] (HS h hl b) Q := by
  obtain ⟨⟨s0, s3, s4, s1, s2, s5⟩, ⟨t0, t1, t5, t6, t7⟩, ⟨g7, g8, g11, g10, g10x⟩⟩ := C.1.f
  have vn' := C.2.1.n
  have vw := C.2.1.w
  refine ic_m1 dX8_fool_0 ?_
  refine is_1 dX8_fool_1 rfl (by decide) ?_
  refine ic_0 dX8_fool_2 ?_
  refine is_2 dX8_fool_3 rfl (by decide) ?_
  refine ic_0 dX8_fool_4 ?_
  refine is_3 dX8_fool_5 rfl (by decide) ?_
  exact wX8_fool_6 (by omega) C _ (-1) 0 0 (Nat.lt_succ_self _) (by omega) (by omega) rfl rfl hQ

theorem wX9_fool_4 {G : GT} {δ : Nat} {h hl : Nat → Int → Int} {b : Bool × Bool} {Q : V → Hp → Prop}  {R : Int → Int} {L : Laws} (hδ : δ ≤ 1680) (M : MT h R L)  : ∀ (n : Nat) (f : Int) (p : Int), ((R 0 - p).toNat) < n → (0 ≤ p) → (p ≤ R 0) → (f = foN (fun i => R (14 + 2 * i)) p.toNat) → (Q (vi (aFool R)) (HS h hl b)) → WP G δ 0 0 MX9_fool 4 [vr (336), vi f, vi p] [] (HS h hl b) Q := by
  intro n
  induction n with
  | zero => intro f p hlt; exact absurd hlt (Nat.not_lt_zero _)
  | succ n ih =>
    intro f p hlt p0 p1 hf hQ
    have m := M.1
    have V := M.2.1
    have vn' := V.n
    have vw := V.w
    have fr := foN_R (f := (fun i => R (14 + 2 * i))) p.toNat
    refine il_2 dX9_fool_4 ?_
    refine al_0 dX9_fool_5 ?_
    refine g_X9_7 (337) dX9_fool_6 rfl tt336 (rr9_0 tt336) (by omega) ?_
    refine ic_0 dX9_fool_9 ?_
    refine wp_iaload dX9_fool_10 tt337 (by omega) (by omega) ?_
    first | rw [m2] | rw [m1] | rw [m] | rw [sw_s] | skip
    refine wp_icmp_ge 44 dX9_fool_11 rfl (fun c11 => ?_) (fun c11 => ?_)
    · have e : p = R 0 := by omega
      subst e
      refine il_1 dX9_fool_44 ?_
      refine wp_ireti dX9_fool_45 rfl ?_
      exact qv hQ hf.symm
    · refine al_0 dX9_fool_14 ?_
      refine il_2 dX9_fool_15 ?_
      refine c_X9_301 dX9_fool_16 rfl tt336 (Nat.le_of_ble_eq_true rfl) (by omega) ?_
      refine wX9_wrongOf (by omega) (by omega) (by omega) ?_
      rw [m]
      refine pv_i ?_
      refine il_1 dX9_fool_19 ?_
      refine ic_m1 dX9_fool_20 ?_
      refine wp_icmp_ne 28 dX9_fool_21 rfl (fun c21 => ?_) (fun c21 => ?_)
      · refine al_0 dX9_fool_28 ?_
        refine il_1 dX9_fool_29 ?_
        refine c_X9_301 dX9_fool_30 rfl tt336 (Nat.le_of_ble_eq_true rfl) (by omega) ?_
        refine wX9_wrongOf (by omega) (by omega) (by omega) ?_
        rw [m]
        refine pv_i ?_
        refine wp_icmp_le 38 dX9_fool_33 rfl (fun c33 => ?_) (fun c33 => ?_)
        · refine ii_2 dX9_fool_38 rfl (by decide) ⟨by decide, by decide⟩ (r32 (by omega) (by omega)) ?_
          refine wp_goto 4 dX9_fool_41 rfl ?_
          refine ih _ (p + 1) (by omega) (by omega) (by omega) ?_ hQ
          rw [foN_s p0, ← hf]
          have e1 : 13 + 2 * p + 1 = 14 + 2 * p := by omega
          have e2 : 13 + 2 * f + 1 = 14 + 2 * f := by omega
          try rw [e1] at c33
          try rw [e2] at c33
          first
            | (rw [if_pos c21]; first | rw [if_pos (by omega)] | rw [if_neg (by omega)])
            | (rw [if_neg c21]; first | rw [if_pos (by omega)] | rw [if_neg (by omega)])
        · refine il_2 dX9_fool_36 ?_
          refine is_1 dX9_fool_37 rfl (by decide) ?_
          refine ii_2 dX9_fool_38 rfl (by decide) ⟨by decide, by decide⟩ (r32 (by omega) (by omega)) ?_
          refine wp_goto 4 dX9_fool_41 rfl ?_
          refine ih _ (p + 1) (by omega) (by omega) (by omega) ?_ hQ
          rw [foN_s p0, ← hf]
          have e1 : 13 + 2 * p + 1 = 14 + 2 * p := by omega
          have e2 : 13 + 2 * f + 1 = 14 + 2 * f := by omega
          try rw [e1] at c33
          try rw [e2] at c33
          first
            | (rw [if_pos c21]; first | rw [if_pos (by omega)] | rw [if_neg (by omega)])
            | (rw [if_neg c21]; first | rw [if_pos (by omega)] | rw [if_neg (by omega)])
      · refine ic_0 dX9_fool_24 ?_
        refine wp_goto 33 dX9_fool_25 rfl ?_
        refine wp_icmp_le 38 dX9_fool_33 rfl (fun c33 => ?_) (fun c33 => ?_)
        · refine ii_2 dX9_fool_38 rfl (by decide) ⟨by decide, by decide⟩ (r32 (by omega) (by omega)) ?_
          refine wp_goto 4 dX9_fool_41 rfl ?_
          refine ih _ (p + 1) (by omega) (by omega) (by omega) ?_ hQ
          rw [foN_s p0, ← hf]
          have e1 : 13 + 2 * p + 1 = 14 + 2 * p := by omega
          have e2 : 13 + 2 * f + 1 = 14 + 2 * f := by omega
          try rw [e1] at c33
          try rw [e2] at c33
          first
            | (rw [if_pos c21]; first | rw [if_pos (by omega)] | rw [if_neg (by omega)])
            | (rw [if_neg c21]; first | rw [if_pos (by omega)] | rw [if_neg (by omega)])
        · refine il_2 dX9_fool_36 ?_
          refine is_1 dX9_fool_37 rfl (by decide) ?_
          refine ii_2 dX9_fool_38 rfl (by decide) ⟨by decide, by decide⟩ (r32 (by omega) (by omega)) ?_
          refine wp_goto 4 dX9_fool_41 rfl ?_
          refine ih _ (p + 1) (by omega) (by omega) (by omega) ?_ hQ
          rw [foN_s p0, ← hf]
          have e1 : 13 + 2 * p + 1 = 14 + 2 * p := by omega
          have e2 : 13 + 2 * f + 1 = 14 + 2 * f := by omega
          try rw [e1] at c33
          try rw [e2] at c33
          first
            | (rw [if_pos c21]; first | rw [if_pos (by omega)] | rw [if_neg (by omega)])
            | (rw [if_neg c21]; first | rw [if_pos (by omega)] | rw [if_neg (by omega)])

theorem wX9_fool {G : GT} {δ : Nat} {h hl : Nat → Int → Int} {b : Bool × Bool} {Q : V → Hp → Prop} {R : Int → Int} {L : Laws} (hδ : δ ≤ 1680) (M : MT h R L)  (hQ : Q (vi (aFool R)) (HS h hl b)) : WP G δ 0 0 MX9_fool 0 [vr (336), vn, vn] [] (HS h hl b) Q := by
  have m := M.1
  have V := M.2.1
  have vn' := V.n
  have vw := V.w
  refine ic_m1 dX9_fool_0 ?_
  refine is_1 dX9_fool_1 rfl (by decide) ?_
  refine ic_0 dX9_fool_2 ?_
  refine is_2 dX9_fool_3 rfl (by decide) ?_
  exact wX9_fool_4 (by omega) M _ (-1) 0 (Nat.lt_succ_self _) (by omega) (by omega) rfl hQ

theorem wX8_blaze_7 {G : GT} {δ : Nat} {h hl : Nat → Int → Int} {b : Bool × Bool} {Q : V → Hp → Prop} {mo : Int} {R : Int → Int} {L : Laws} (hδ : δ ≤ 1680) (C : CT h R L)  : ∀ (n : Nat) (f : Int) (w : Int) (c : V) (p : Int), ((R 1 - p).toNat) < n → (0 ≤ p) → (p ≤ R 1) → (f = minIx (blLt R mo) p.toNat) → (f ≠ -1 → w = pc (bxor (R 10) (R (29 + f)))) → (Q (vi (aBlaze R mo)) (HS h hl b)) → WP G δ 0 0 MX8_blaze 7 [vr (1), vi mo, vi f, vi w, vi p, c] [] (HS h hl b) Q := by
  intro n
  induction n with
  | zero => intro f w c p hlt; exact absurd hlt (Nat.not_lt_zero _)
  | succ n ih =>
    intro f w c p hlt p0 p1 hf hw hQ
    obtain ⟨⟨s0, s3, s4, s1, s2, s5⟩, ⟨t0, t1, t5, t6, t7⟩, ⟨g7, g8, g11, g10, g10x⟩⟩ := C.1.f
    have vn' := C.2.1.n
    have vw := C.2.1.w
    have fr := minIx_R (lt := blLt R mo) p.toNat
    refine il_4 dX8_blaze_7 ?_
    refine al_0 dX8_blaze_9 ?_
    refine g_X8_12 (2) dX8_blaze_10 rfl tt1 (rr8_0 tt1) (by omega) ?_
    refine g_X8_167 (9) dX8_blaze_13 rfl tt2 (rr7_2 tt2) (by omega) ?_
    refine g_X8_249 dX8_blaze_16 rfl tt9 ?_
    rw [t1]
    refine wp_icmp_ge 86 dX8_blaze_19 rfl (fun c19 => ?_) (fun c19 => ?_)
    · have e : p = R 1 := by omega
      subst e
      refine il_2 dX8_blaze_86 ?_
      refine wp_ireti dX8_blaze_87 rfl ?_
      exact qv hQ hf.symm
    · refine al_0 dX8_blaze_22 ?_
      refine g_X8_12 (2) dX8_blaze_23 rfl tt1 (rr8_0 tt1) (by omega) ?_
      refine g_X8_112 (3) dX8_blaze_26 rfl tt2 (rr7_0 tt2) (by omega) ?_
      refine g_X8_170 dX8_blaze_29 rfl tt3 ?_
      rw [s1]
      refine al_0 dX8_blaze_32 ?_
      refine g_X8_12 (2) dX8_blaze_33 rfl tt1 (rr8_0 tt1) (by omega) ?_
      refine g_X8_167 (9) dX8_blaze_36 rfl tt2 (rr7_2 tt2) (by omega) ?_
      refine il_4 dX8_blaze_39 ?_
      refine c_X8_156 dX8_blaze_41 rfl tt9 (Nat.le_of_ble_eq_true rfl) (by omega) ?_
      refine wX6_at (by omega) tt9 tt10 (by decide) (by omega) (by omega) ?_
      rw [C.1.diA (by omega) (by omega)]
      have dv := C.2.1.di p (by omega) (by omega)
      have bx := bxor_lt vw.2.2.1.1 vw.2.2.1.2 dv.1 dv.2
      refine pv_i ?_
      refine wp_ixor dX8_blaze_44 ?_
      refine c_X8_202 dX8_blaze_45 rfl (Nat.le_of_ble_eq_true rfl) (by omega) ?_
      refine wJ6_bitCount (by omega) (by omega) ?_
      refine pv_i ?_
      refine is_5 dX8_blaze_48 rfl (by decide) ?_
      refine il_2 dX8_blaze_50 ?_
      refine ic_m1 dX8_blaze_51 ?_
      refine wp_icmp_eq 74 dX8_blaze_52 rfl (fun c52 => ?_) (fun c52 => ?_)
      · refine il_4 dX8_blaze_74 ?_
        refine is_2 dX8_blaze_76 rfl (by decide) ?_
        refine il_5 dX8_blaze_77 ?_
        refine is_3 dX8_blaze_79 rfl (by decide) ?_
        refine ii_4 dX8_blaze_80 rfl (by decide) ⟨by decide, by decide⟩ (r32 (by omega) (by omega)) ?_
        refine wp_goto 7 dX8_blaze_83 rfl ?_
        refine wp_fg (ls' := [_, _, _, _, _, vn]) ⟨Or.inr rfl, Or.inr rfl, Or.inr rfl, Or.inr rfl, Or.inr rfl, Or.inl rfl, trivial⟩ ?_
        have kk : (f = -1 ∨ blLt R mo p f = true) ↔ (f = -1 ∨ (mo = 0 ∧ pc (bxor (R 10) (R (29 + p))) < w) ∨ (mo ≠ 0 ∧ w < pc (bxor (R 10) (R (29 + p))))) := by
          by_cases f1 : f = -1
          · simp [f1]
          · have hw' := hw f1
            by_cases m0 : mo = 0
            · simp [f1, m0, blLt, ← hw']
            · simp [f1, m0, blLt, ← hw']
        refine ih _ _ _ (p + 1) (by omega) (by omega) (by omega) ?_ ?_ hQ
        · rw [minIx_s p0, ← hf]
          simp only [kk]
          first | rw [if_pos (by omega)] | rw [if_neg (by omega)]
        · first | exact hw | exact fun _ => rfl
      · refine il_1 dX8_blaze_55 ?_
        refine wp_if_eq 68 dX8_blaze_56 rfl (fun c56 => ?_) (fun c56 => ?_)
        · refine il_5 dX8_blaze_68 ?_
          refine il_3 dX8_blaze_70 ?_
          refine wp_icmp_ge 80 dX8_blaze_71 rfl (fun c71 => ?_) (fun c71 => ?_)
          · refine ii_4 dX8_blaze_80 rfl (by decide) ⟨by decide, by decide⟩ (r32 (by omega) (by omega)) ?_
            refine wp_goto 7 dX8_blaze_83 rfl ?_
            refine wp_fg (ls' := [_, _, _, _, _, vn]) ⟨Or.inr rfl, Or.inr rfl, Or.inr rfl, Or.inr rfl, Or.inr rfl, Or.inl rfl, trivial⟩ ?_
            have kk : (f = -1 ∨ blLt R mo p f = true) ↔ (f = -1 ∨ (mo = 0 ∧ pc (bxor (R 10) (R (29 + p))) < w) ∨ (mo ≠ 0 ∧ w < pc (bxor (R 10) (R (29 + p))))) := by
              by_cases f1 : f = -1
              · simp [f1]
              · have hw' := hw f1
                by_cases m0 : mo = 0
                · simp [f1, m0, blLt, ← hw']
                · simp [f1, m0, blLt, ← hw']
            refine ih _ _ _ (p + 1) (by omega) (by omega) (by omega) ?_ ?_ hQ
            · rw [minIx_s p0, ← hf]
              simp only [kk]
              first | rw [if_pos (by omega)] | rw [if_neg (by omega)]
            · first | exact hw | exact fun _ => rfl
          · refine il_4 dX8_blaze_74 ?_
            refine is_2 dX8_blaze_76 rfl (by decide) ?_
            refine il_5 dX8_blaze_77 ?_
            refine is_3 dX8_blaze_79 rfl (by decide) ?_
            refine ii_4 dX8_blaze_80 rfl (by decide) ⟨by decide, by decide⟩ (r32 (by omega) (by omega)) ?_
            refine wp_goto 7 dX8_blaze_83 rfl ?_
            refine wp_fg (ls' := [_, _, _, _, _, vn]) ⟨Or.inr rfl, Or.inr rfl, Or.inr rfl, Or.inr rfl, Or.inr rfl, Or.inl rfl, trivial⟩ ?_
            have kk : (f = -1 ∨ blLt R mo p f = true) ↔ (f = -1 ∨ (mo = 0 ∧ pc (bxor (R 10) (R (29 + p))) < w) ∨ (mo ≠ 0 ∧ w < pc (bxor (R 10) (R (29 + p))))) := by
              by_cases f1 : f = -1
              · simp [f1]
              · have hw' := hw f1
                by_cases m0 : mo = 0
                · simp [f1, m0, blLt, ← hw']
                · simp [f1, m0, blLt, ← hw']
            refine ih _ _ _ (p + 1) (by omega) (by omega) (by omega) ?_ ?_ hQ
            · rw [minIx_s p0, ← hf]
              simp only [kk]
              first | rw [if_pos (by omega)] | rw [if_neg (by omega)]
            · first | exact hw | exact fun _ => rfl
        · refine il_5 dX8_blaze_59 ?_
          refine il_3 dX8_blaze_61 ?_
          refine wp_icmp_le 80 dX8_blaze_62 rfl (fun c62 => ?_) (fun c62 => ?_)
          · refine ii_4 dX8_blaze_80 rfl (by decide) ⟨by decide, by decide⟩ (r32 (by omega) (by omega)) ?_
            refine wp_goto 7 dX8_blaze_83 rfl ?_
            refine wp_fg (ls' := [_, _, _, _, _, vn]) ⟨Or.inr rfl, Or.inr rfl, Or.inr rfl, Or.inr rfl, Or.inr rfl, Or.inl rfl, trivial⟩ ?_
            have kk : (f = -1 ∨ blLt R mo p f = true) ↔ (f = -1 ∨ (mo = 0 ∧ pc (bxor (R 10) (R (29 + p))) < w) ∨ (mo ≠ 0 ∧ w < pc (bxor (R 10) (R (29 + p))))) := by
              by_cases f1 : f = -1
              · simp [f1]
              · have hw' := hw f1
                by_cases m0 : mo = 0
                · simp [f1, m0, blLt, ← hw']
                · simp [f1, m0, blLt, ← hw']
            refine ih _ _ _ (p + 1) (by omega) (by omega) (by omega) ?_ ?_ hQ
            · rw [minIx_s p0, ← hf]
              simp only [kk]
              first | rw [if_pos (by omega)] | rw [if_neg (by omega)]
            · first | exact hw | exact fun _ => rfl
          · refine wp_goto 74 dX8_blaze_65 rfl ?_
            refine il_4 dX8_blaze_74 ?_
            refine is_2 dX8_blaze_76 rfl (by decide) ?_
            refine il_5 dX8_blaze_77 ?_
            refine is_3 dX8_blaze_79 rfl (by decide) ?_
            refine ii_4 dX8_blaze_80 rfl (by decide) ⟨by decide, by decide⟩ (r32 (by omega) (by omega)) ?_
            refine wp_goto 7 dX8_blaze_83 rfl ?_
            refine wp_fg (ls' := [_, _, _, _, _, vn]) ⟨Or.inr rfl, Or.inr rfl, Or.inr rfl, Or.inr rfl, Or.inr rfl, Or.inl rfl, trivial⟩ ?_
            have kk : (f = -1 ∨ blLt R mo p f = true) ↔ (f = -1 ∨ (mo = 0 ∧ pc (bxor (R 10) (R (29 + p))) < w) ∨ (mo ≠ 0 ∧ w < pc (bxor (R 10) (R (29 + p))))) := by
              by_cases f1 : f = -1
              · simp [f1]
              · have hw' := hw f1
                by_cases m0 : mo = 0
                · simp [f1, m0, blLt, ← hw']
                · simp [f1, m0, blLt, ← hw']
            refine ih _ _ _ (p + 1) (by omega) (by omega) (by omega) ?_ ?_ hQ
            · rw [minIx_s p0, ← hf]
              simp only [kk]
              first | rw [if_pos (by omega)] | rw [if_neg (by omega)]
            · first | exact hw | exact fun _ => rfl

theorem wX8_blaze {G : GT} {δ : Nat} {h hl : Nat → Int → Int} {b : Bool × Bool} {Q : V → Hp → Prop} {mo : Int} {R : Int → Int} {L : Laws} (hδ : δ ≤ 1680) (C : CT h R L)  (hQ : Q (vi (aBlaze R mo)) (HS h hl b)) : WP G δ 0 0 MX8_blaze 0 [vr (1), vi mo, vn, vn, vn, vn] [] (HS h hl b) Q := by
  obtain ⟨⟨s0, s3, s4, s1, s2, s5⟩, ⟨t0, t1, t5, t6, t7⟩, ⟨g7, g8, g11, g10, g10x⟩⟩ := C.1.f
  have vn' := C.2.1.n
  have vw := C.2.1.w
  refine ic_m1 dX8_blaze_0 ?_
  refine is_2 dX8_blaze_1 rfl (by decide) ?_
  refine ic_0 dX8_blaze_2 ?_
  refine is_3 dX8_blaze_3 rfl (by decide) ?_
  refine ic_0 dX8_blaze_4 ?_
  refine is_4 dX8_blaze_5 rfl (by decide) ?_
  exact wX8_blaze_7 (by omega) C _ (-1) 0 _ 0 (Nat.lt_succ_self _) (by omega) (by omega) rfl (fun z => absurd rfl z) hQ

theorem wX9_blaze_7 {G : GT} {δ : Nat} {h hl : Nat → Int → Int} {b : Bool × Bool} {Q : V → Hp → Prop} {mo : Int} {R : Int → Int} {L : Laws} (hδ : δ ≤ 1680) (M : MT h R L)  : ∀ (n : Nat) (f : Int) (w : Int) (c : V) (p : Int), ((R 1 - p).toNat) < n → (0 ≤ p) → (p ≤ R 1) → (f = minIx (blLt R mo) p.toNat) → (f ≠ -1 → w = pc (bxor (R 10) (R (29 + f)))) → (Q (vi (aBlaze R mo)) (HS h hl b)) → WP G δ 0 0 MX9_blaze 7 [vr (336), vi mo, vi f, vi w, vi p, c] [] (HS h hl b) Q := by
  intro n
  induction n with
  | zero => intro f w c p hlt; exact absurd hlt (Nat.not_lt_zero _)
  | succ n ih =>
    intro f w c p hlt p0 p1 hf hw hQ
    have m := M.1
    have V := M.2.1
    have vn' := V.n
    have vw := V.w
    have fr := minIx_R (lt := blLt R mo) p.toNat
    refine il_4 dX9_blaze_7 ?_
    refine al_0 dX9_blaze_9 ?_
    refine g_X9_7 (337) dX9_blaze_10 rfl tt336 (rr9_0 tt336) (by omega) ?_
    refine ic_1 dX9_blaze_13 ?_
    refine wp_iaload dX9_blaze_14 tt337 (by omega) (by omega) ?_
    first | rw [m2] | rw [m1] | rw [m] | rw [sw_s] | skip
    refine wp_icmp_ge 80 dX9_blaze_15 rfl (fun c15 => ?_) (fun c15 => ?_)
    · have e : p = R 1 := by omega
      subst e
      refine il_2 dX9_blaze_80 ?_
      refine wp_ireti dX9_blaze_81 rfl ?_
      exact qv hQ hf.symm
    · have dv := V.di p (by omega) (by omega)
      have bx := bxor_lt vw.2.2.1.1 vw.2.2.1.2 dv.1 dv.2
      refine al_0 dX9_blaze_18 ?_
      refine g_X9_7 (337) dX9_blaze_19 rfl tt336 (rr9_0 tt336) (by omega) ?_
      refine bi_10 dX9_blaze_22 ?_
      refine wp_iaload dX9_blaze_24 tt337 (by omega) (by omega) ?_
      first | rw [m2] | rw [m1] | rw [m] | rw [sw_s] | skip
      refine al_0 dX9_blaze_25 ?_
      refine g_X9_7 (337) dX9_blaze_26 rfl tt336 (rr9_0 tt336) (by omega) ?_
      refine bi_29 dX9_blaze_29 ?_
      refine il_4 dX9_blaze_31 ?_
      refine wp_iadd dX9_blaze_33 (r32 (by omega) (by omega)) ?_
      refine wp_iaload dX9_blaze_34 tt337 (by omega) (by omega) ?_
      first | rw [m2] | rw [m1] | rw [m] | rw [sw_s] | skip
      refine wp_ixor dX9_blaze_35 ?_
      refine c_X9_298 dX9_blaze_36 rfl (Nat.le_of_ble_eq_true rfl) (by omega) ?_
      refine wX9_bits (by omega) (by omega) (by omega) ?_
      refine pv_i ?_
      refine is_5 dX9_blaze_39 rfl (by decide) ?_
      refine il_2 dX9_blaze_41 ?_
      refine ic_m1 dX9_blaze_42 ?_
      refine wp_icmp_eq 68 dX9_blaze_43 rfl (fun c43 => ?_) (fun c43 => ?_)
      · refine il_4 dX9_blaze_68 ?_
        refine is_2 dX9_blaze_70 rfl (by decide) ?_
        refine il_5 dX9_blaze_71 ?_
        refine is_3 dX9_blaze_73 rfl (by decide) ?_
        refine ii_4 dX9_blaze_74 rfl (by decide) ⟨by decide, by decide⟩ (r32 (by omega) (by omega)) ?_
        refine wp_goto 7 dX9_blaze_77 rfl ?_
        refine wp_fg (ls' := [_, _, _, _, _, vn]) ⟨Or.inr rfl, Or.inr rfl, Or.inr rfl, Or.inr rfl, Or.inr rfl, Or.inl rfl, trivial⟩ ?_
        have kk : (f = -1 ∨ blLt R mo p f = true) ↔ (f = -1 ∨ (mo = 0 ∧ pc (bxor (R 10) (R (29 + p))) < w) ∨ (mo ≠ 0 ∧ w < pc (bxor (R 10) (R (29 + p))))) := by
          by_cases f1 : f = -1
          · simp [f1]
          · have hw' := hw f1
            by_cases m0 : mo = 0
            · simp [f1, m0, blLt, ← hw']
            · simp [f1, m0, blLt, ← hw']
        refine ih _ _ _ (p + 1) (by omega) (by omega) (by omega) ?_ ?_ hQ
        · rw [minIx_s p0, ← hf]
          simp only [kk]
          first | rw [if_pos (by omega)] | rw [if_neg (by omega)]
        · first | exact hw | exact fun _ => rfl
      · refine il_1 dX9_blaze_46 ?_
        refine wp_if_eq 59 dX9_blaze_47 rfl (fun c47 => ?_) (fun c47 => ?_)
        · refine il_5 dX9_blaze_59 ?_
          refine il_3 dX9_blaze_61 ?_
          refine wp_icmp_lt 68 dX9_blaze_62 rfl (fun c62 => ?_) (fun c62 => ?_)
          · refine il_4 dX9_blaze_68 ?_
            refine is_2 dX9_blaze_70 rfl (by decide) ?_
            refine il_5 dX9_blaze_71 ?_
            refine is_3 dX9_blaze_73 rfl (by decide) ?_
            refine ii_4 dX9_blaze_74 rfl (by decide) ⟨by decide, by decide⟩ (r32 (by omega) (by omega)) ?_
            refine wp_goto 7 dX9_blaze_77 rfl ?_
            refine wp_fg (ls' := [_, _, _, _, _, vn]) ⟨Or.inr rfl, Or.inr rfl, Or.inr rfl, Or.inr rfl, Or.inr rfl, Or.inl rfl, trivial⟩ ?_
            have kk : (f = -1 ∨ blLt R mo p f = true) ↔ (f = -1 ∨ (mo = 0 ∧ pc (bxor (R 10) (R (29 + p))) < w) ∨ (mo ≠ 0 ∧ w < pc (bxor (R 10) (R (29 + p))))) := by
              by_cases f1 : f = -1
              · simp [f1]
              · have hw' := hw f1
                by_cases m0 : mo = 0
                · simp [f1, m0, blLt, ← hw']
                · simp [f1, m0, blLt, ← hw']
            refine ih _ _ _ (p + 1) (by omega) (by omega) (by omega) ?_ ?_ hQ
            · rw [minIx_s p0, ← hf]
              simp only [kk]
              first | rw [if_pos (by omega)] | rw [if_neg (by omega)]
            · first | exact hw | exact fun _ => rfl
          · refine wp_goto 74 dX9_blaze_65 rfl ?_
            refine ii_4 dX9_blaze_74 rfl (by decide) ⟨by decide, by decide⟩ (r32 (by omega) (by omega)) ?_
            refine wp_goto 7 dX9_blaze_77 rfl ?_
            refine wp_fg (ls' := [_, _, _, _, _, vn]) ⟨Or.inr rfl, Or.inr rfl, Or.inr rfl, Or.inr rfl, Or.inr rfl, Or.inl rfl, trivial⟩ ?_
            have kk : (f = -1 ∨ blLt R mo p f = true) ↔ (f = -1 ∨ (mo = 0 ∧ pc (bxor (R 10) (R (29 + p))) < w) ∨ (mo ≠ 0 ∧ w < pc (bxor (R 10) (R (29 + p))))) := by
              by_cases f1 : f = -1
              · simp [f1]
              · have hw' := hw f1
                by_cases m0 : mo = 0
                · simp [f1, m0, blLt, ← hw']
                · simp [f1, m0, blLt, ← hw']
            refine ih _ _ _ (p + 1) (by omega) (by omega) (by omega) ?_ ?_ hQ
            · rw [minIx_s p0, ← hf]
              simp only [kk]
              first | rw [if_pos (by omega)] | rw [if_neg (by omega)]
            · first | exact hw | exact fun _ => rfl
        · refine il_5 dX9_blaze_50 ?_
          refine il_3 dX9_blaze_52 ?_
          refine wp_icmp_gt 68 dX9_blaze_53 rfl (fun c53 => ?_) (fun c53 => ?_)
          · refine il_4 dX9_blaze_68 ?_
            refine is_2 dX9_blaze_70 rfl (by decide) ?_
            refine il_5 dX9_blaze_71 ?_
            refine is_3 dX9_blaze_73 rfl (by decide) ?_
            refine ii_4 dX9_blaze_74 rfl (by decide) ⟨by decide, by decide⟩ (r32 (by omega) (by omega)) ?_
            refine wp_goto 7 dX9_blaze_77 rfl ?_
            refine wp_fg (ls' := [_, _, _, _, _, vn]) ⟨Or.inr rfl, Or.inr rfl, Or.inr rfl, Or.inr rfl, Or.inr rfl, Or.inl rfl, trivial⟩ ?_
            have kk : (f = -1 ∨ blLt R mo p f = true) ↔ (f = -1 ∨ (mo = 0 ∧ pc (bxor (R 10) (R (29 + p))) < w) ∨ (mo ≠ 0 ∧ w < pc (bxor (R 10) (R (29 + p))))) := by
              by_cases f1 : f = -1
              · simp [f1]
              · have hw' := hw f1
                by_cases m0 : mo = 0
                · simp [f1, m0, blLt, ← hw']
                · simp [f1, m0, blLt, ← hw']
            refine ih _ _ _ (p + 1) (by omega) (by omega) (by omega) ?_ ?_ hQ
            · rw [minIx_s p0, ← hf]
              simp only [kk]
              first | rw [if_pos (by omega)] | rw [if_neg (by omega)]
            · first | exact hw | exact fun _ => rfl
          · refine wp_goto 74 dX9_blaze_56 rfl ?_
            refine ii_4 dX9_blaze_74 rfl (by decide) ⟨by decide, by decide⟩ (r32 (by omega) (by omega)) ?_
            refine wp_goto 7 dX9_blaze_77 rfl ?_
            refine wp_fg (ls' := [_, _, _, _, _, vn]) ⟨Or.inr rfl, Or.inr rfl, Or.inr rfl, Or.inr rfl, Or.inr rfl, Or.inl rfl, trivial⟩ ?_
            have kk : (f = -1 ∨ blLt R mo p f = true) ↔ (f = -1 ∨ (mo = 0 ∧ pc (bxor (R 10) (R (29 + p))) < w) ∨ (mo ≠ 0 ∧ w < pc (bxor (R 10) (R (29 + p))))) := by
              by_cases f1 : f = -1
              · simp [f1]
              · have hw' := hw f1
                by_cases m0 : mo = 0
                · simp [f1, m0, blLt, ← hw']
                · simp [f1, m0, blLt, ← hw']
            refine ih _ _ _ (p + 1) (by omega) (by omega) (by omega) ?_ ?_ hQ
            · rw [minIx_s p0, ← hf]
              simp only [kk]
              first | rw [if_pos (by omega)] | rw [if_neg (by omega)]
            · first | exact hw | exact fun _ => rfl

theorem wX9_blaze {G : GT} {δ : Nat} {h hl : Nat → Int → Int} {b : Bool × Bool} {Q : V → Hp → Prop} {mo : Int} {R : Int → Int} {L : Laws} (hδ : δ ≤ 1680) (M : MT h R L)  (hQ : Q (vi (aBlaze R mo)) (HS h hl b)) : WP G δ 0 0 MX9_blaze 0 [vr (336), vi mo, vn, vn, vn, vn] [] (HS h hl b) Q := by
  have m := M.1
  have V := M.2.1
  have vn' := V.n
  have vw := V.w
  refine ic_m1 dX9_blaze_0 ?_
  refine is_2 dX9_blaze_1 rfl (by decide) ?_
  refine ic_0 dX9_blaze_2 ?_
  refine is_3 dX9_blaze_3 rfl (by decide) ?_
  refine ic_0 dX9_blaze_4 ?_
  refine is_4 dX9_blaze_5 rfl (by decide) ?_
  exact wX9_blaze_7 (by omega) M _ (-1) 0 _ 0 (Nat.lt_succ_self _) (by omega) (by omega) rfl (fun z => absurd rfl z) hQ

theorem wX8_stretches {G : GT} {δ : Nat} {h hl : Nat → Int → Int} {b : Bool × Bool} {Q : V → Hp → Prop} {R : Int → Int} {L : Laws} (hδ : δ ≤ 1680) (C : CT h R L)  (hQ : Q (vi (aStretches R)) (HS h hl b)) : WP G δ 0 0 MX8_stretches 0 [vr (1), vn, vn] [] (HS h hl b) Q := by
  obtain ⟨⟨s0, s3, s4, s1, s2, s5⟩, ⟨t0, t1, t5, t6, t7⟩, ⟨g7, g8, g11, g10, g10x⟩⟩ := C.1.f
  have vn' := C.2.1.n
  have vw := C.2.1.w
  obtain ⟨i, hi, ei⟩ := nat_of (n := 1024) vw.2.2.1.1 vw.2.2.1.2
  have sx := strs_t i hi
  rw [← ei] at sx
  refine al_0 dX8_stretches_0 ?_
  refine g_X8_12 (2) dX8_stretches_1 rfl tt1 (rr8_0 tt1) (by omega) ?_
  refine g_X8_112 (3) dX8_stretches_4 rfl tt2 (rr7_0 tt2) (by omega) ?_
  refine g_X8_170 dX8_stretches_7 rfl tt3 ?_
  rw [s1]
  refine is_1 dX8_stretches_10 rfl (by decide) ?_
  refine il_1 dX8_stretches_11 ?_
  refine si_1023 dX8_stretches_12 ?_
  refine wp_icmp_ne 20 dX8_stretches_15 rfl (fun c15 => ?_) (fun c15 => ?_)
  · refine il_1 dX8_stretches_20 ?_
    refine ic_1 dX8_stretches_21 ?_
    refine wp_ishl dX8_stretches_22 ?_
    refine il_1 dX8_stretches_23 ?_
    refine bi_9 dX8_stretches_24 ?_
    refine wp_ishr dX8_stretches_26 ?_
    refine wp_ior dX8_stretches_27 ?_
    refine is_2 dX8_stretches_28 rfl (by decide) ?_
    refine il_1 dX8_stretches_29 ?_
    refine il_2 dX8_stretches_30 ?_
    refine ic_m1 dX8_stretches_31 ?_
    refine wp_ixor dX8_stretches_32 ?_
    refine wp_iand dX8_stretches_33 ?_
    refine c_X8_202 dX8_stretches_34 rfl (Nat.le_of_ble_eq_true rfl) (by omega) ?_
    refine wJ6_bitCount sx.2.1 sx.2.2 ?_
    refine pv_i ?_
    refine wp_ireti dX8_stretches_37 rfl ?_
    refine qv hQ ?_
    unfold aStretches
    first | rw [if_pos c15] | (rw [if_neg c15]; exact sx.1.symm)
  · refine ic_1 dX8_stretches_18 ?_
    refine wp_ireti dX8_stretches_19 rfl ?_
    refine qv hQ ?_
    unfold aStretches
    first | rw [if_pos c15] | (rw [if_neg c15]; exact sx.1.symm)

theorem wX9_stretches_19 {G : GT} {δ : Nat} {h hl : Nat → Int → Int} {b : Bool × Bool} {Q : V → Hp → Prop}  {R : Int → Int} {L : Laws} (hδ : δ ≤ 1680) (M : MT h R L)  : ∀ (n : Nat) (cn : Int) (l : Int), ((10 - l).toNat) < n → (0 ≤ l) → (l ≤ 10) → (cn = cntN (fun l => tb (R 10) l && !tb (R 10) ((l + 1) % 10)) l.toNat) → (Q (vi (cntN (fun l => tb (R 10) l && !tb (R 10) ((l + 1) % 10)) 10)) (HS h hl b)) → WP G δ 0 0 MX9_stretches 19 [vr (336), vi cn, vi l] [] (HS h hl b) Q := by
  intro n
  induction n with
  | zero => intro cn l hlt; exact absurd hlt (Nat.not_lt_zero _)
  | succ n ih =>
    intro cn l hlt l0 l1 hn hQ
    have m := M.1
    have V := M.2.1
    have vn' := V.n
    have vw := V.w
    have hr := cntN_R (P := (fun l => tb (R 10) l && !tb (R 10) ((l + 1) % 10))) l.toNat
    refine il_2 dX9_stretches_19 ?_
    refine bi_10 dX9_stretches_20 ?_
    refine wp_icmp_ge 72 dX9_stretches_22 rfl (fun c22 => ?_) (fun c22 => ?_)
    · have e : l = 10 := by omega
      subst e
      refine il_1 dX9_stretches_72 ?_
      refine wp_ireti dX9_stretches_73 rfl ?_
      exact qv hQ hn.symm
    · refine il_1 dX9_stretches_25 ?_
      refine al_0 dX9_stretches_26 ?_
      refine g_X9_7 (337) dX9_stretches_27 rfl tt336 (rr9_0 tt336) (by omega) ?_
      refine bi_10 dX9_stretches_30 ?_
      refine wp_iaload dX9_stretches_32 tt337 (by omega) (by omega) ?_
      first | rw [m2] | rw [m1] | rw [m] | rw [sw_s] | skip
      refine il_2 dX9_stretches_33 ?_
      refine c_X9_248 dX9_stretches_34 rfl (Nat.le_of_ble_eq_true rfl) (by omega) ?_
      refine wX9_has (by omega) (by omega) (by omega) (by omega) (by omega) ?_
      refine pv_i ?_
      refine wp_if_eq 63 dX9_stretches_37 rfl (fun c37 => ?_) (fun c37 => ?_)
      · rw [b2i_0] at c37
        refine ic_0 dX9_stretches_63 ?_
        refine wp_iadd dX9_stretches_64 (r32 (by omega) (by omega)) ?_
        refine is_1 dX9_stretches_65 rfl (by decide) ?_
        refine ii_2 dX9_stretches_66 rfl (by decide) ⟨by decide, by decide⟩ (r32 (by omega) (by omega)) ?_
        refine wp_goto 19 dX9_stretches_69 rfl ?_
        refine ih _ (l + 1) (by omega) (by omega) (by omega) ?_ hQ
        rw [cntN_s l0, ← hn]
        first | (simp [c37, c56]; done) | (simp [c37]; done)
      · rw [b2i_n0] at c37
        refine al_0 dX9_stretches_40 ?_
        refine g_X9_7 (337) dX9_stretches_41 rfl tt336 (rr9_0 tt336) (by omega) ?_
        refine bi_10 dX9_stretches_44 ?_
        refine wp_iaload dX9_stretches_46 tt337 (by omega) (by omega) ?_
        first | rw [m2] | rw [m1] | rw [m] | rw [sw_s] | skip
        refine il_2 dX9_stretches_47 ?_
        refine ic_1 dX9_stretches_48 ?_
        refine wp_iadd dX9_stretches_49 (r32 (by omega) (by omega)) ?_
        refine bi_10 dX9_stretches_50 ?_
        refine wp_iremN dX9_stretches_52 (by omega) (by omega) ?_
        refine c_X9_248 dX9_stretches_53 rfl (Nat.le_of_ble_eq_true rfl) (by omega) ?_
        refine wX9_has (by omega) (by omega) (by omega) (by omega) (by omega) ?_
        refine pv_i ?_
        refine wp_if_ne 63 dX9_stretches_56 rfl (fun c56 => ?_) (fun c56 => ?_)
        · rw [b2i_n0] at c56
          refine ic_0 dX9_stretches_63 ?_
          refine wp_iadd dX9_stretches_64 (r32 (by omega) (by omega)) ?_
          refine is_1 dX9_stretches_65 rfl (by decide) ?_
          refine ii_2 dX9_stretches_66 rfl (by decide) ⟨by decide, by decide⟩ (r32 (by omega) (by omega)) ?_
          refine wp_goto 19 dX9_stretches_69 rfl ?_
          refine ih _ (l + 1) (by omega) (by omega) (by omega) ?_ hQ
          rw [cntN_s l0, ← hn]
          first | (simp [c37, c56]; done) | (simp [c37]; done)
        · rw [b2i_0] at c56
          refine ic_1 dX9_stretches_59 ?_
          refine wp_goto 64 dX9_stretches_60 rfl ?_
          refine wp_iadd dX9_stretches_64 (r32 (by omega) (by omega)) ?_
          refine is_1 dX9_stretches_65 rfl (by decide) ?_
          refine ii_2 dX9_stretches_66 rfl (by decide) ⟨by decide, by decide⟩ (r32 (by omega) (by omega)) ?_
          refine wp_goto 19 dX9_stretches_69 rfl ?_
          refine ih _ (l + 1) (by omega) (by omega) (by omega) ?_ hQ
          rw [cntN_s l0, ← hn]
          first | (simp [c37, c56]; done) | (simp [c37]; done)

theorem wX9_stretches {G : GT} {δ : Nat} {h hl : Nat → Int → Int} {b : Bool × Bool} {Q : V → Hp → Prop} {R : Int → Int} {L : Laws} (hδ : δ ≤ 1680) (M : MT h R L)  (hQ : Q (vi (aStretches R)) (HS h hl b)) : WP G δ 0 0 MX9_stretches 0 [vr (336), vn, vn] [] (HS h hl b) Q := by
  have m := M.1
  have V := M.2.1
  have vn' := V.n
  have vw := V.w
  refine al_0 dX9_stretches_0 ?_
  refine g_X9_7 (337) dX9_stretches_1 rfl tt336 (rr9_0 tt336) (by omega) ?_
  refine bi_10 dX9_stretches_4 ?_
  refine wp_iaload dX9_stretches_6 tt337 (by omega) (by omega) ?_
  first | rw [m2] | rw [m1] | rw [m] | rw [sw_s] | skip
  refine si_1023 dX9_stretches_7 ?_
  refine wp_icmp_ne 15 dX9_stretches_10 rfl (fun c10 => ?_) (fun c10 => ?_)
  · refine ic_0 dX9_stretches_15 ?_
    refine is_1 dX9_stretches_16 rfl (by decide) ?_
    refine ic_0 dX9_stretches_17 ?_
    refine is_2 dX9_stretches_18 rfl (by decide) ?_
    refine wX9_stretches_19 (by omega) M _ 0 0 (Nat.lt_succ_self _) (by omega) (by omega) rfl (qv hQ ?_)
    unfold aStretches
    rw [if_neg c10]
  · refine ic_1 dX9_stretches_13 ?_
    refine wp_ireti dX9_stretches_14 rfl ?_
    refine qv hQ ?_
    unfold aStretches
    rw [if_pos c10]

theorem wX9_stretch_7 {G : GT} {δ : Nat} {h hl : Nat → Int → Int} {b : Bool × Bool} {Q : V → Hp → Prop} {mo : Int} {R : Int → Int} {L : Laws} (hδ : δ ≤ 1680) (M : MT h R L)  : ∀ (n : Nat) (a : Int) (r : Int) (k : Int), ((20 - k).toNat) < n → (0 ≤ k) → (k ≤ 20) → (a = (stN (stP R mo) k.toNat).1) → (r = (stN (stP R mo) k.toNat).2) → (Q (vi (aStretch R mo)) (HS h hl b)) → WP G δ 0 0 MX9_stretch 7 [vr (336), vi mo, vi a, vi r, vi k] [] (HS h hl b) Q := by
  intro n
  induction n with
  | zero => intro a r k hlt; exact absurd hlt (Nat.not_lt_zero _)
  | succ n ih =>
    intro a r k hlt k0 k1 hm hr hQ
    have m := M.1
    have V := M.2.1
    have vn' := V.n
    have vw := V.w
    have sr := stN_R (P := stP R mo) k.toNat
    refine il_4 dX9_stretch_7 ?_
    refine bi_20 dX9_stretch_9 ?_
    refine wp_icmp_ge 58 dX9_stretch_11 rfl (fun c11 => ?_) (fun c11 => ?_)
    · have e : k = 20 := by omega
      subst e
      refine il_2 dX9_stretch_58 ?_
      refine bi_10 dX9_stretch_59 ?_
      refine wp_icmp_le 69 dX9_stretch_61 rfl (fun c61 => ?_) (fun c61 => ?_)
      · refine il_2 dX9_stretch_69 ?_
        refine wp_ireti dX9_stretch_70 rfl ?_
        refine qv hQ ?_
        unfold aStretch
        rw [show (20 : Nat) = (20 : Int).toNat from rfl, ← hm]; omega
      · refine bi_10 dX9_stretch_64 ?_
        refine wp_goto 70 dX9_stretch_66 rfl ?_
        refine wp_ireti dX9_stretch_70 rfl ?_
        refine qv hQ ?_
        unfold aStretch
        rw [show (20 : Nat) = (20 : Int).toNat from rfl, ← hm]; omega
    · refine al_0 dX9_stretch_14 ?_
      refine g_X9_7 (337) dX9_stretch_15 rfl tt336 (rr9_0 tt336) (by omega) ?_
      refine bi_10 dX9_stretch_18 ?_
      refine wp_iaload dX9_stretch_20 tt337 (by omega) (by omega) ?_
      first | rw [m2] | rw [m1] | rw [m] | rw [sw_s] | skip
      refine il_4 dX9_stretch_21 ?_
      refine bi_10 dX9_stretch_23 ?_
      refine wp_iremN dX9_stretch_25 (by omega) (by omega) ?_
      refine c_X9_248 dX9_stretch_26 rfl (Nat.le_of_ble_eq_true rfl) (by omega) ?_
      refine wX9_has (by omega) (by omega) (by omega) (by omega) (by omega) ?_
      refine pv_i ?_
      refine il_1 dX9_stretch_29 ?_
      refine wp_icmp_ne 39 dX9_stretch_30 rfl (fun c30 => ?_) (fun c30 => ?_)
      · have sp : stP R mo k = false := decide_eq_false c30
        refine ic_0 dX9_stretch_39 ?_
        refine is_3 dX9_stretch_40 rfl (by decide) ?_
        refine il_3 dX9_stretch_41 ?_
        refine il_2 dX9_stretch_42 ?_
        refine wp_icmp_le 50 dX9_stretch_43 rfl (fun c43 => ?_) (fun c43 => ?_)
        · refine il_2 dX9_stretch_50 ?_
          refine is_2 dX9_stretch_51 rfl (by decide) ?_
          refine ii_4 dX9_stretch_52 rfl (by decide) ⟨by decide, by decide⟩ (r32 (by omega) (by omega)) ?_
          refine wp_goto 7 dX9_stretch_55 rfl ?_
          refine ih _ _ (k + 1) (by omega) (by omega) (by omega) ?_ ?_ hQ
          · rw [stN_s k0, sp, ← hm, ← hr]; simp; try omega
          · rw [stN_s k0, sp, ← hr]; simp
        · refine il_3 dX9_stretch_46 ?_
          refine wp_goto 51 dX9_stretch_47 rfl ?_
          refine is_2 dX9_stretch_51 rfl (by decide) ?_
          refine ii_4 dX9_stretch_52 rfl (by decide) ⟨by decide, by decide⟩ (r32 (by omega) (by omega)) ?_
          refine wp_goto 7 dX9_stretch_55 rfl ?_
          refine ih _ _ (k + 1) (by omega) (by omega) (by omega) ?_ ?_ hQ
          · rw [stN_s k0, sp, ← hm, ← hr]; simp; try omega
          · rw [stN_s k0, sp, ← hr]; simp
      · have sp : stP R mo k = true := decide_eq_true c30
        refine il_3 dX9_stretch_33 ?_
        refine ic_1 dX9_stretch_34 ?_
        refine wp_iadd dX9_stretch_35 (r32 (by omega) (by omega)) ?_
        refine wp_goto 40 dX9_stretch_36 rfl ?_
        refine is_3 dX9_stretch_40 rfl (by decide) ?_
        refine il_3 dX9_stretch_41 ?_
        refine il_2 dX9_stretch_42 ?_
        refine wp_icmp_le 50 dX9_stretch_43 rfl (fun c43 => ?_) (fun c43 => ?_)
        · refine il_2 dX9_stretch_50 ?_
          refine is_2 dX9_stretch_51 rfl (by decide) ?_
          refine ii_4 dX9_stretch_52 rfl (by decide) ⟨by decide, by decide⟩ (r32 (by omega) (by omega)) ?_
          refine wp_goto 7 dX9_stretch_55 rfl ?_
          refine ih _ _ (k + 1) (by omega) (by omega) (by omega) ?_ ?_ hQ
          · rw [stN_s k0, sp, ← hm, ← hr]; simp; try omega
          · rw [stN_s k0, sp, ← hr]; simp
        · refine il_3 dX9_stretch_46 ?_
          refine wp_goto 51 dX9_stretch_47 rfl ?_
          refine is_2 dX9_stretch_51 rfl (by decide) ?_
          refine ii_4 dX9_stretch_52 rfl (by decide) ⟨by decide, by decide⟩ (r32 (by omega) (by omega)) ?_
          refine wp_goto 7 dX9_stretch_55 rfl ?_
          refine ih _ _ (k + 1) (by omega) (by omega) (by omega) ?_ ?_ hQ
          · rw [stN_s k0, sp, ← hm, ← hr]; simp; try omega
          · rw [stN_s k0, sp, ← hr]; simp

theorem wX9_stretch {G : GT} {δ : Nat} {h hl : Nat → Int → Int} {b : Bool × Bool} {Q : V → Hp → Prop} {mo : Int} {R : Int → Int} {L : Laws} (hδ : δ ≤ 1680) (M : MT h R L)  (hQ : Q (vi (aStretch R mo)) (HS h hl b)) : WP G δ 0 0 MX9_stretch 0 [vr (336), vi mo, vn, vn, vn] [] (HS h hl b) Q := by
  have m := M.1
  have V := M.2.1
  have vn' := V.n
  have vw := V.w
  refine ic_0 dX9_stretch_0 ?_
  refine is_2 dX9_stretch_1 rfl (by decide) ?_
  refine ic_0 dX9_stretch_2 ?_
  refine is_3 dX9_stretch_3 rfl (by decide) ?_
  refine ic_0 dX9_stretch_4 ?_
  refine is_4 dX9_stretch_5 rfl (by decide) ?_
  exact wX9_stretch_7 (by omega) M _ 0 0 0 (Nat.lt_succ_self _) (by omega) (by omega) rfl rfl hQ

theorem wX8_stretch_42 {G : GT} {δ : Nat} {h hl : Nat → Int → Int} {b : Bool × Bool} {Q : V → Hp → Prop} {mo wt : Int} {R : Int → Int} {L : Laws} (hδ : δ ≤ 1680) (C : CT h R L) (w0 : 0 ≤ wt) (w1 : wt < 1024) (hw : ∀ j : Int, 0 ≤ j → j < 20 → tb wt (j % 10) = stP R mo j) : ∀ (n : Nat) (a : Int) (r : Int) (k : Int), ((20 - k).toNat) < n → (0 ≤ k) → (k ≤ 20) → (a = (stN (stP R mo) k.toNat).1) → (r = (stN (stP R mo) k.toNat).2) → (Q (vi (aStretch R mo)) (HS h hl b)) → WP G δ 0 0 MX8_stretch 42 [vr (1), vi mo, vi wt, vi a, vi r, vi k] [] (HS h hl b) Q := by
  intro n
  induction n with
  | zero => intro a r k hlt; exact absurd hlt (Nat.not_lt_zero _)
  | succ n ih =>
    intro a r k hlt k0 k1 hm hr hQ
    obtain ⟨⟨s0, s3, s4, s1, s2, s5⟩, ⟨t0, t1, t5, t6, t7⟩, ⟨g7, g8, g11, g10, g10x⟩⟩ := C.1.f
    have vn' := C.2.1.n
    have vw := C.2.1.w
    have sr := stN_R (P := stP R mo) k.toNat
    refine il_5 dX8_stretch_42 ?_
    refine bi_20 dX8_stretch_44 ?_
    refine wp_icmp_ge 85 dX8_stretch_46 rfl (fun c46 => ?_) (fun c46 => ?_)
    · have e : k = 20 := by omega
      subst e
      refine il_3 dX8_stretch_85 ?_
      refine bi_10 dX8_stretch_86 ?_
      refine c_X8_321 dX8_stretch_88 rfl (by simp) (by omega) ?_
      refine wp_ireti dX8_stretch_91 rfl ?_
      refine qv hQ ?_
      unfold aStretch
      rw [show (20 : Nat) = (20 : Int).toNat from rfl, ← hm]
    · refine il_2 dX8_stretch_49 ?_
      refine il_5 dX8_stretch_50 ?_
      refine bi_10 dX8_stretch_52 ?_
      refine wp_iremN dX8_stretch_54 (by omega) (by omega) ?_
      refine wp_ishr dX8_stretch_55 ?_
      refine ic_1 dX8_stretch_56 ?_
      refine wp_iand dX8_stretch_57 ?_
      rw [has_tb w0 (by omega) (by omega) (by omega), hw k k0 (by omega)]
      refine ic_1 dX8_stretch_58 ?_
      refine wp_icmp_ne 69 dX8_stretch_59 rfl (fun c59 => ?_) (fun c59 => ?_)
      · have sp : stP R mo k = false := by cases q : stP R mo k with | false => rfl | true => rw [q] at c59; exact absurd rfl c59
        refine ic_0 dX8_stretch_69 ?_
        refine is_4 dX8_stretch_70 rfl (by decide) ?_
        refine il_3 dX8_stretch_72 ?_
        refine il_4 dX8_stretch_73 ?_
        refine c_X8_316 dX8_stretch_75 rfl (by simp) (by omega) ?_
        refine is_3 dX8_stretch_78 rfl (by decide) ?_
        refine ii_5 dX8_stretch_79 rfl (by decide) ⟨by decide, by decide⟩ (r32 (by omega) (by omega)) ?_
        refine wp_goto 42 dX8_stretch_82 rfl ?_
        refine ih _ _ (k + 1) (by omega) (by omega) (by omega) ?_ ?_ hQ
        · rw [stN_s k0, sp, ← hm, ← hr]; simp; try omega
        · rw [stN_s k0, sp, ← hr]; simp
      · have sp : stP R mo k = true := by cases q : stP R mo k with | true => rfl | false => rw [q] at c59; exact absurd c59 (by decide)
        refine il_4 dX8_stretch_62 ?_
        refine ic_1 dX8_stretch_64 ?_
        refine wp_iadd dX8_stretch_65 (r32 (by omega) (by omega)) ?_
        refine wp_goto 70 dX8_stretch_66 rfl ?_
        refine is_4 dX8_stretch_70 rfl (by decide) ?_
        refine il_3 dX8_stretch_72 ?_
        refine il_4 dX8_stretch_73 ?_
        refine c_X8_316 dX8_stretch_75 rfl (by simp) (by omega) ?_
        refine is_3 dX8_stretch_78 rfl (by decide) ?_
        refine ii_5 dX8_stretch_79 rfl (by decide) ⟨by decide, by decide⟩ (r32 (by omega) (by omega)) ?_
        refine wp_goto 42 dX8_stretch_82 rfl ?_
        refine ih _ _ (k + 1) (by omega) (by omega) (by omega) ?_ ?_ hQ
        · rw [stN_s k0, sp, ← hm, ← hr]; simp; try omega
        · rw [stN_s k0, sp, ← hr]; simp

theorem wX8_stretch {G : GT} {δ : Nat} {h hl : Nat → Int → Int} {b : Bool × Bool} {Q : V → Hp → Prop} {mo : Int} {R : Int → Int} {L : Laws} (hδ : δ ≤ 1680) (C : CT h R L) (m01 : mo = 0 ∨ mo = 1) (hQ : Q (vi (aStretch R mo)) (HS h hl b)) : WP G δ 0 0 MX8_stretch 0 [vr (1), vi mo, vn, vn, vn, vn] [] (HS h hl b) Q := by
  obtain ⟨⟨s0, s3, s4, s1, s2, s5⟩, ⟨t0, t1, t5, t6, t7⟩, ⟨g7, g8, g11, g10, g10x⟩⟩ := C.1.f
  have vn' := C.2.1.n
  have vw := C.2.1.w
  obtain ⟨i, hi, ei⟩ := nat_of (n := 1024) vw.2.2.1.1 vw.2.2.1.2
  have sx := wnt_t i hi
  rw [← ei] at sx
  refine il_1 dX8_stretch_0 ?_
  refine wp_if_eq 17 dX8_stretch_1 rfl (fun c1 => ?_) (fun c1 => ?_)
  · refine si_1023 dX8_stretch_17 ?_
    refine al_0 dX8_stretch_20 ?_
    refine g_X8_12 (2) dX8_stretch_21 rfl tt1 (rr8_0 tt1) (by omega) ?_
    refine g_X8_112 (3) dX8_stretch_24 rfl tt2 (rr7_0 tt2) (by omega) ?_
    refine g_X8_170 dX8_stretch_27 rfl tt3 ?_
    rw [s1]
    refine ic_m1 dX8_stretch_30 ?_
    refine wp_ixor dX8_stretch_31 ?_
    refine wp_iand dX8_stretch_32 ?_
    refine is_2 dX8_stretch_33 rfl (by decide) ?_
    refine ic_0 dX8_stretch_34 ?_
    refine is_3 dX8_stretch_35 rfl (by decide) ?_
    refine ic_0 dX8_stretch_36 ?_
    refine is_4 dX8_stretch_37 rfl (by decide) ?_
    refine ic_0 dX8_stretch_39 ?_
    refine is_5 dX8_stretch_40 rfl (by decide) ?_
    first
      | exact wX8_stretch_42 (by omega) C (by omega) (by omega) (fun j j0 j1 => by unfold stP; rw [show mo = 1 by omega]; cases q : tb (R 10) (j % 10) <;> simp [b2i]) _ 0 0 0 (Nat.lt_succ_self _) (by omega) (by omega) rfl rfl hQ
      | (refine wX8_stretch_42 (by omega) C sx.2.1 sx.2.2 (fun j j0 j1 => ?_) _ 0 0 0 (Nat.lt_succ_self _) (by omega) (by omega) rfl rfl hQ
         obtain ⟨q, hq, eq⟩ := nat_of (n := 10) (a := j % 10) (by omega) (by omega)
         unfold stP
         rw [eq, sx.1 q hq, show mo = 0 by omega]
         cases z : tb (R 10) (q : Int) <;> simp [b2i])
  · refine al_0 dX8_stretch_4 ?_
    refine g_X8_12 (2) dX8_stretch_5 rfl tt1 (rr8_0 tt1) (by omega) ?_
    refine g_X8_112 (3) dX8_stretch_8 rfl tt2 (rr7_0 tt2) (by omega) ?_
    refine g_X8_170 dX8_stretch_11 rfl tt3 ?_
    rw [s1]
    refine wp_goto 33 dX8_stretch_14 rfl ?_
    refine is_2 dX8_stretch_33 rfl (by decide) ?_
    refine ic_0 dX8_stretch_34 ?_
    refine is_3 dX8_stretch_35 rfl (by decide) ?_
    refine ic_0 dX8_stretch_36 ?_
    refine is_4 dX8_stretch_37 rfl (by decide) ?_
    refine ic_0 dX8_stretch_39 ?_
    refine is_5 dX8_stretch_40 rfl (by decide) ?_
    first
      | exact wX8_stretch_42 (by omega) C (by omega) (by omega) (fun j j0 j1 => by unfold stP; rw [show mo = 1 by omega]; cases q : tb (R 10) (j % 10) <;> simp [b2i]) _ 0 0 0 (Nat.lt_succ_self _) (by omega) (by omega) rfl rfl hQ
      | (refine wX8_stretch_42 (by omega) C sx.2.1 sx.2.2 (fun j j0 j1 => ?_) _ 0 0 0 (Nat.lt_succ_self _) (by omega) (by omega) rfl rfl hQ
         obtain ⟨q, hq, eq⟩ := nat_of (n := 10) (a := j % 10) (by omega) (by omega)
         unfold stP
         rw [eq, sx.1 q hq, show mo = 0 by omega]
         cases z : tb (R 10) (q : Int) <;> simp [b2i])

theorem wX8_about {G : GT} {δ : Nat} {h hl : Nat → Int → Int} {b : Bool × Bool} {Q : V → Hp → Prop} {w : Int} {R : Int → Int} {L : Laws} (hδ : δ ≤ 1700) (C : CT h R L)  (hQ : Q (vi (aAbout R (h 314 1) w)) (HS h hl b)) : WP G δ 0 0 MX8_about 0 [vr (1), vi w] [] (HS h hl b) Q := by
  obtain ⟨⟨s0, s3, s4, s1, s2, s5⟩, ⟨t0, t1, t5, t6, t7⟩, ⟨g7, g8, g11, g10, g10x⟩⟩ := C.1.f
  have vn' := C.2.1.n
  have vw := C.2.1.w
  refine il_1 dX8_about_0 ?_
  rcases (show ((w) < 0 ∨ 8 < (w)) ∨ ((w) = 0) ∨ ((w) = 1) ∨ ((w) = 2) ∨ ((w) = 3) ∨ ((w) = 4) ∨ ((w) = 5) ∨ ((w) = 6) ∨ ((w) = 7) ∨ ((w) = 8) by omega) with c1 | c1 | c1 | c1 | c1 | c1 | c1 | c1 | c1 | c1
  · refine wp_tswD 139 dX8_about_1 (by omega) rfl ?_
    refine bi_m2 dX8_about_139 ?_
    refine wp_ireti dX8_about_141 rfl ?_
    refine qv hQ ?_
    unfold aAbout
    first
      | (rw [if_pos (by omega), c1])
      | (rw [if_neg (by omega), if_pos (by omega)])
      | (rw [if_neg (by omega), if_neg (by omega)])
  · refine wp_tsw 52 dX8_about_1 (by omega) (by omega) (51) (by rw [c1]; rfl) rfl ?_
    refine al_0 dX8_about_52 ?_
    refine g_X8_12 (2) dX8_about_53 rfl tt1 (rr8_0 tt1) (by omega) ?_
    refine g_X8_112 (3) dX8_about_56 rfl tt2 (rr7_0 tt2) (by omega) ?_
    refine g_X8_330 dX8_about_59 rfl tt3 ?_
    rw [s0]
    refine wp_ireti dX8_about_62 rfl ?_
    refine qv hQ ?_
    unfold aAbout
    first
      | (rw [if_pos (by omega), c1])
      | (rw [if_neg (by omega), if_pos (by omega)])
      | (rw [if_neg (by omega), if_neg (by omega)])
  · refine wp_tsw 63 dX8_about_1 (by omega) (by omega) (62) (by rw [c1]; rfl) rfl ?_
    refine al_0 dX8_about_63 ?_
    refine g_X8_12 (2) dX8_about_64 rfl tt1 (rr8_0 tt1) (by omega) ?_
    refine g_X8_167 (9) dX8_about_67 rfl tt2 (rr7_2 tt2) (by omega) ?_
    refine g_X8_249 dX8_about_70 rfl tt9 ?_
    rw [t1]
    refine wp_ireti dX8_about_73 rfl ?_
    refine qv hQ ?_
    unfold aAbout
    first
      | (rw [if_pos (by omega), c1])
      | (rw [if_neg (by omega), if_pos (by omega)])
      | (rw [if_neg (by omega), if_neg (by omega)])
  · refine wp_tsw 74 dX8_about_1 (by omega) (by omega) (73) (by rw [c1]; rfl) rfl ?_
    refine al_0 dX8_about_74 ?_
    refine g_X8_12 (2) dX8_about_75 rfl tt1 (rr8_0 tt1) (by omega) ?_
    refine g_X8_63 dX8_about_78 rfl tt2 ?_
    rw [g7]
    refine wp_ireti dX8_about_81 rfl ?_
    refine qv hQ ?_
    unfold aAbout
    first
      | (rw [if_pos (by omega), c1])
      | (rw [if_neg (by omega), if_pos (by omega)])
      | (rw [if_neg (by omega), if_neg (by omega)])
  · refine wp_tsw 82 dX8_about_1 (by omega) (by omega) (81) (by rw [c1]; rfl) rfl ?_
    refine al_0 dX8_about_82 ?_
    refine g_X8_12 (2) dX8_about_83 rfl tt1 (rr8_0 tt1) (by omega) ?_
    refine g_X8_98 dX8_about_86 rfl tt2 ?_
    rw [g8]
    refine wp_ireti dX8_about_89 rfl ?_
    refine qv hQ ?_
    unfold aAbout
    first
      | (rw [if_pos (by omega), c1])
      | (rw [if_neg (by omega), if_pos (by omega)])
      | (rw [if_neg (by omega), if_neg (by omega)])
  · refine wp_tsw 90 dX8_about_1 (by omega) (by omega) (89) (by rw [c1]; rfl) rfl ?_
    refine al_0 dX8_about_90 ?_
    refine g_X8_12 (2) dX8_about_91 rfl tt1 (rr8_0 tt1) (by omega) ?_
    refine g_X8_342 dX8_about_94 rfl tt2 ?_
    rw [g11]
    refine wp_ireti dX8_about_97 rfl ?_
    refine qv hQ ?_
    unfold aAbout
    first
      | (rw [if_pos (by omega), c1])
      | (rw [if_neg (by omega), if_pos (by omega)])
      | (rw [if_neg (by omega), if_neg (by omega)])
  · refine wp_tsw 98 dX8_about_1 (by omega) (by omega) (97) (by rw [c1]; rfl) rfl ?_
    refine al_0 dX8_about_98 ?_
    refine g_X8_12 (2) dX8_about_99 rfl tt1 (rr8_0 tt1) (by omega) ?_
    refine g_X8_240 (11) dX8_about_102 rfl tt2 (rr7_3 tt2) (by omega) ?_
    refine g_X8_249 dX8_about_105 rfl tt11 ?_
    rw [t5]
    refine wp_ireti dX8_about_108 rfl ?_
    refine qv hQ ?_
    unfold aAbout
    first
      | (rw [if_pos (by omega), c1])
      | (rw [if_neg (by omega), if_pos (by omega)])
      | (rw [if_neg (by omega), if_neg (by omega)])
  · refine wp_tsw 109 dX8_about_1 (by omega) (by omega) (108) (by rw [c1]; rfl) rfl ?_
    refine al_0 dX8_about_109 ?_
    refine g_X8_12 (2) dX8_about_110 rfl tt1 (rr8_0 tt1) (by omega) ?_
    refine g_X8_280 (13) dX8_about_113 rfl tt2 (rr7_4 tt2) (by omega) ?_
    refine g_X8_249 dX8_about_116 rfl tt13 ?_
    rw [t6]
    refine wp_ireti dX8_about_119 rfl ?_
    refine qv hQ ?_
    unfold aAbout
    first
      | (rw [if_pos (by omega), c1])
      | (rw [if_neg (by omega), if_pos (by omega)])
      | (rw [if_neg (by omega), if_neg (by omega)])
  · refine wp_tsw 120 dX8_about_1 (by omega) (by omega) (119) (by rw [c1]; rfl) rfl ?_
    refine al_0 dX8_about_120 ?_
    refine g_X8_12 (2) dX8_about_121 rfl tt1 (rr8_0 tt1) (by omega) ?_
    refine g_X8_324 (15) dX8_about_124 rfl tt2 (rr7_5 tt2) (by omega) ?_
    refine g_X8_249 dX8_about_127 rfl tt15 ?_
    rw [t7]
    refine wp_ireti dX8_about_130 rfl ?_
    refine qv hQ ?_
    unfold aAbout
    first
      | (rw [if_pos (by omega), c1])
      | (rw [if_neg (by omega), if_pos (by omega)])
      | (rw [if_neg (by omega), if_neg (by omega)])
  · refine wp_tsw 131 dX8_about_1 (by omega) (by omega) (130) (by rw [c1]; rfl) rfl ?_
    refine al_0 dX8_about_131 ?_
    refine g_X8_22 (314) dX8_about_132 rfl tt1 (rr8_2 tt1) (by omega) ?_
    refine g_X8_55 dX8_about_135 rfl tt314 ?_
    refine wp_ireti dX8_about_138 rfl ?_
    refine qv hQ ?_
    unfold aAbout
    first
      | (rw [if_pos (by omega), c1])
      | (rw [if_neg (by omega), if_pos (by omega)])
      | (rw [if_neg (by omega), if_neg (by omega)])

theorem wX9_about {G : GT} {δ : Nat} {h hl : Nat → Int → Int} {b : Bool × Bool} {Q : V → Hp → Prop} {w : Int} {R : Int → Int} {L : Laws} (hδ : δ ≤ 1680) (M : MT h R L)  (hQ : Q (vi (aAbout R (h 336 4) w)) (HS h hl b)) : WP G δ 0 0 MX9_about 0 [vr (336), vi w] [] (HS h hl b) Q := by
  have m := M.1
  have V := M.2.1
  have vn' := V.n
  have vw := V.w
  refine il_1 dX9_about_0 ?_
  refine ic_0 dX9_about_1 ?_
  refine bi_7 dX9_about_2 ?_
  refine c_X9_69 dX9_about_4 rfl (Nat.le_of_ble_eq_true rfl) (by omega) ?_
  refine wX9_isIn (by omega) ?_
  refine pv_i ?_
  refine wp_if_eq 19 dX9_about_7 rfl (fun c7 => ?_) (fun c7 => ?_)
  · rw [b2i_0] at c7
    refine il_1 dX9_about_19 ?_
    refine bi_8 dX9_about_20 ?_
    refine wp_icmp_ne 32 dX9_about_22 rfl (fun c22 => ?_) (fun c22 => ?_)
    · refine bi_m2 dX9_about_32 ?_
      refine wp_ireti dX9_about_34 rfl ?_
      refine qv hQ ?_
      unfold aAbout
      repeat first | rw [if_pos (by omega)] | rw [if_neg (by omega)]
    · refine al_0 dX9_about_25 ?_
      refine g_X9_85 dX9_about_26 rfl tt336 ?_
      refine wp_goto 34 dX9_about_29 rfl ?_
      refine wp_ireti dX9_about_34 rfl ?_
      refine qv hQ ?_
      unfold aAbout
      repeat first | rw [if_pos (by omega)] | rw [if_neg (by omega)]
  · rw [b2i_n0] at c7
    refine al_0 dX9_about_10 ?_
    refine g_X9_7 (337) dX9_about_11 rfl tt336 (rr9_0 tt336) (by omega) ?_
    refine il_1 dX9_about_14 ?_
    refine wp_iaload dX9_about_15 tt337 (by omega) (by omega) ?_
    first | rw [m2] | rw [m1] | rw [m] | rw [sw_s] | skip
    refine wp_goto 34 dX9_about_16 rfl ?_
    refine wp_ireti dX9_about_34 rfl ?_
    refine qv hQ ?_
    unfold aAbout
    repeat first | rw [if_pos (by omega)] | rw [if_neg (by omega)]
