def tdA (h : Nat → Int → Int) (o : Nat) (i : Int) : Int := if 0 ≤ i ∧ i < h o 1 then h (o + 1) i else 0
theorem tdA_i {h : Nat → Int → Int} {o : Nat} {i : Int} (h0 : 0 ≤ i) (h1 : i < h o 1) : tdA h o i = h (o + 1) i := if_pos ⟨h0, h1⟩

theorem wX6_at {G : GT} {δ : Nat} {h hl : Nat → Int → Int} {b : Bool × Bool} {Q : V → Hp → Prop} {o m : Nat} {i : Int} (hδ : δ ≤ 1700) (ho : ty TT o = some (.inl 6)) (ha : ty TT (o + 1) = some (.inr (0, m))) (hm : m < 100) (s0 : 0 ≤ h o 1) (s1 : h o 1 ≤ m) (hQ : Q (vi (tdA h o i)) (HS h hl b)) : WP G δ 0 0 MX6_at 0 [vr (o), vi i] [] (HS h hl b) Q := by
  refine il_1 dX6_at_0 ?_
  refine wp_if_lt 30 dX6_at_1 rfl (fun c1 => ?_) (fun c1 => ?_)
  · refine ic_0 dX6_at_30 ?_
    refine wp_ireti dX6_at_31 rfl ?_
    refine qv hQ ?_
    unfold tdA
    first | rw [if_pos (by omega)] | rw [if_neg (by omega)]
  · refine il_1 dX6_at_4 ?_
    refine al_0 dX6_at_5 ?_
    refine g_X6_19 dX6_at_6 rfl ho ?_
    refine wp_icmp_ge 30 dX6_at_9 rfl (fun c9 => ?_) (fun c9 => ?_)
    · refine ic_0 dX6_at_30 ?_
      refine wp_ireti dX6_at_31 rfl ?_
      refine qv hQ ?_
      unfold tdA
      first | rw [if_pos (by omega)] | rw [if_neg (by omega)]
    · refine il_1 dX6_at_12 ?_
      refine al_0 dX6_at_13 ?_
      refine g_X6_13 (o + 1) dX6_at_14 rfl ho (rr6_0 ho) (by omega) ?_
      refine wp_alen dX6_at_17 ha (by decide) (by omega) ?_
      refine wp_icmp_ge 30 dX6_at_18 rfl (fun c18 => ?_) (fun c18 => ?_)
      · omega
      · refine al_0 dX6_at_21 ?_
        refine g_X6_13 (o + 1) dX6_at_22 rfl ho (rr6_0 ho) (by omega) ?_
        refine il_1 dX6_at_25 ?_
        refine wp_iaload dX6_at_26 ha (by omega) (by omega) ?_
        refine wp_goto 31 dX6_at_27 rfl ?_
        refine wp_ireti dX6_at_31 rfl ?_
        refine qv hQ ?_
        unfold tdA
        first | rw [if_pos (by omega)] | rw [if_neg (by omega)]

theorem wX6_add {G : GT} {δ : Nat} {h hl : Nat → Int → Int} {b : Bool × Bool} {Q : V → Hp → Prop} {o m : Nat} {x : Int} (hδ : δ ≤ 1700) (ho : ty TT o = some (.inl 6)) (ha : ty TT (o + 1) = some (.inr (0, m))) (hm : m < 100) (s0 : 0 ≤ h o 1) (s1 : h o 1 ≤ m) (hF : ¬ h o 1 < m → Q (vi 0) (HS h hl b)) (hQ : h o 1 < m → Q (vi 1) (HS (up (up h (o + 1) (h o 1) x) o 1 (h o 1 + 1)) hl b)) : WP G δ 0 0 MX6_add 0 [vr (o), vi x] [] (HS h hl b) Q := by
  refine al_0 dX6_add_0 ?_
  refine g_X6_19 dX6_add_1 rfl ho ?_
  refine al_0 dX6_add_4 ?_
  refine g_X6_13 (o + 1) dX6_add_5 rfl ho (rr6_0 ho) (by omega) ?_
  refine wp_alen dX6_add_8 ha (by decide) (by omega) ?_
  refine wp_icmp_lt 14 dX6_add_9 rfl (fun c9 => ?_) (fun c9 => ?_)
  · refine al_0 dX6_add_14 ?_
    refine g_X6_13 (o + 1) dX6_add_15 rfl ho (rr6_0 ho) (by omega) ?_
    refine al_0 dX6_add_18 ?_
    refine g_X6_19 dX6_add_19 rfl ho ?_
    refine il_1 dX6_add_22 ?_
    refine wp_iastore dX6_add_23 ha (by omega) (by omega) ?_
    refine al_0 dX6_add_24 ?_
    refine wp_dup dX6_add_25 rfl ?_
    refine g_X6_19 dX6_add_26 rfl ho ?_
    rw [up_o (o := o + 1) (q := o) (by omega)]
    refine ic_1 dX6_add_29 ?_
    refine wp_iadd dX6_add_30 (r32 (by omega) (by omega)) ?_
    refine p_X6_19 dX6_add_31 rfl ho ?_
    refine ic_1 dX6_add_34 ?_
    refine wp_iretz dX6_add_35 rfl (by omega) ?_
    exact hQ (by omega)
  · refine ic_0 dX6_add_12 ?_
    refine wp_iretz dX6_add_13 rfl (by omega) ?_
    exact hF (by omega)

theorem wX6_clear {G : GT} {δ : Nat} {h hl : Nat → Int → Int} {b : Bool × Bool} {Q : V → Hp → Prop} {o : Nat} (hδ : δ ≤ 1700) (ho : ty TT o = some (.inl 6)) (hQ : Q vn (HS (up h o 1 0) hl b)) : WP G δ 0 0 MX6_clear 0 [vr (o)] [] (HS h hl b) Q := by
  refine al_0 dX6_clear_0 ?_
  refine ic_0 dX6_clear_1 ?_
  refine p_X6_19 dX6_clear_2 rfl ho ?_
  refine wp_vret dX6_clear_5 rfl ?_
  exact hQ

def tdC (h : Nat → Int → Int) (o q : Nat) (n : Int) : Nat → Int → Int := fun x k => if x = o ∧ k = 1 then n else if x = o + 1 ∧ 0 ≤ k ∧ k < n then h (q + 1) k else h x k

theorem wX6_copy_6 {G : GT} {δ : Nat} {h hl : Nat → Int → Int} {b : Bool × Bool} {Q : V → Hp → Prop} {o q m : Nat} (hδ : δ ≤ 1680) (ho : ty TT o = some (.inl 6)) (ha : ty TT (o + 1) = some (.inr (0, m))) (hq : ty TT q = some (.inl 6)) (hb : ty TT (q + 1) = some (.inr (0, m))) (hm : m < 100) (hn : q ≠ o ∧ q ≠ o + 1 ∧ q + 1 ≠ o) (s0 : 0 ≤ h q 1) (s1 : h q 1 ≤ m) : ∀ (n : Nat) (i : Int), ((h q 1 - i).toNat) < n → (0 ≤ i) → (i ≤ h q 1) → (Q vn (HS (tdC h o q (h q 1)) hl b)) → WP G δ 0 0 MX6_copy 6 [vr (o), vr (q), vi i] [] (HS (tdC h o q i) hl b) Q := by
  intro n
  induction n with
  | zero => intro i hlt; exact absurd hlt (Nat.not_lt_zero _)
  | succ n ih =>
    intro i hlt i0 i1 hQ
    have e0 : tdC h o q i q 1 = h q 1 := by unfold tdC; rw [if_neg (fun z => hn.1 z.1), if_neg (fun z => hn.2.1 z.1)]
    have e1 : tdC h o q i o 1 = i := by unfold tdC; rw [if_pos ⟨rfl, rfl⟩]
    have e2 : ∀ k, tdC h o q i (q + 1) k = h (q + 1) k := fun k => by unfold tdC; rw [if_neg (fun z => hn.2.2 z.1), if_neg (fun z => hn.1 (by omega))]
    refine il_2 dX6_copy_6 ?_
    refine al_1 dX6_copy_7 ?_
    refine g_X6_19 dX6_copy_8 rfl hq ?_
    rw [e0]
    refine wp_icmp_ge 30 dX6_copy_11 rfl (fun c11 => ?_) (fun c11 => ?_)
    · refine wp_vret dX6_copy_30 rfl ?_
      have e : i = h q 1 := by omega
      subst e
      exact hQ
    · refine al_0 dX6_copy_14 ?_
      refine al_1 dX6_copy_15 ?_
      refine il_2 dX6_copy_16 ?_
      refine c_X6_26 dX6_copy_17 rfl hq (Nat.le_of_ble_eq_true rfl) (by omega) ?_
      refine wX6_at (m := m) (by omega) hq hb hm (by rw [e0]; exact s0) (by rw [e0]; exact s1) ?_
      refine pv_i ?_
      refine c_X6_30 dX6_copy_20 rfl ho (Nat.le_of_ble_eq_true rfl) (by omega) ?_
      refine wX6_add (m := m) (by omega) ho ha hm (by rw [e1]; exact i0) (by rw [e1]; omega) (fun z => absurd (by rw [e1]; omega) z) (fun z => ?_)
      refine pv_i ?_
      refine wp_pop dX6_copy_23 rfl ?_
      refine ii_2 dX6_copy_24 rfl (by decide) ⟨by decide, by decide⟩ (r32 (by omega) (by omega)) ?_
      refine wp_goto 6 dX6_copy_27 rfl ?_
      refine wph (ih (i + 1) (by omega) (by omega) (by omega) hQ) ?_
      have e3 : tdA (tdC h o q i) q i = h (q + 1) i := by unfold tdA; rw [e0, if_pos (by omega), e2]
      rw [e1, e3]
      clear ih hQ
      funext x k
      grind (splits := 30) [up, tdC]

theorem wX6_copy {G : GT} {δ : Nat} {h hl : Nat → Int → Int} {b : Bool × Bool} {Q : V → Hp → Prop} {o q m : Nat} (hδ : δ ≤ 1680) (ho : ty TT o = some (.inl 6)) (ha : ty TT (o + 1) = some (.inr (0, m))) (hq : ty TT q = some (.inl 6)) (hb : ty TT (q + 1) = some (.inr (0, m))) (hm : m < 100) (hn : q ≠ o ∧ q ≠ o + 1 ∧ q + 1 ≠ o) (s0 : 0 ≤ h q 1) (s1 : h q 1 ≤ m) (hQ : Q vn (HS (tdC h o q (h q 1)) hl b)) : WP G δ 0 0 MX6_copy 0 [vr (o), vr (q), vn] [] (HS h hl b) Q := by
  refine al_0 dX6_copy_0 ?_
  refine c_X6_23 dX6_copy_1 rfl ho (Nat.le_of_ble_eq_true rfl) (by omega) ?_
  refine wX6_clear (by omega) ho ?_
  refine pv_n ?_
  refine ic_0 dX6_copy_4 ?_
  refine is_2 dX6_copy_5 rfl (by decide) ?_
  refine wph (wX6_copy_6 hδ ho ha hq hb hm hn s0 s1 _ 0 (Nat.lt_succ_self _) (by omega) s0 hQ) ?_
  funext x k
  grind [up, tdC]

theorem wX3_empty {G : GT} {δ : Nat} {h hl : Nat → Int → Int} {b : Bool × Bool} {Q : V → Hp → Prop}  (hδ : δ ≤ 1700)  (hQ : Q vn (HS (up (up (up (up (up h 316 0 0) 316 1 0) 316 2 0) 316 3 (-1)) 316 4 (-1)) hl b)) : WP G δ 0 0 MX3_empty 0 [vr (316)] [] (HS h hl b) Q := by
  refine al_0 dX3_empty_0 ?_
  refine ic_0 dX3_empty_1 ?_
  refine p_X3_28 dX3_empty_2 rfl tt316 ?_
  refine al_0 dX3_empty_5 ?_
  refine ic_0 dX3_empty_6 ?_
  refine p_X3_31 dX3_empty_7 rfl tt316 ?_
  refine al_0 dX3_empty_10 ?_
  refine ic_0 dX3_empty_11 ?_
  refine p_X3_34 dX3_empty_12 rfl tt316 ?_
  refine al_0 dX3_empty_15 ?_
  refine ic_m1 dX3_empty_16 ?_
  refine p_X3_9 dX3_empty_17 rfl tt316 ?_
  refine al_0 dX3_empty_20 ?_
  refine ic_m1 dX3_empty_21 ?_
  refine p_X3_15 dX3_empty_22 rfl tt316 ?_
  refine wp_vret dX3_empty_25 rfl ?_
  exact hQ

def scC (h : Nat → Int → Int) (o q : Nat) : Nat → Int → Int := fun x k => if x = o ∧ 0 ≤ k ∧ k < 5 then h q k else if x = o + 1 ∧ 0 ≤ k ∧ k < 24 then h (q + 1) k else if x = o + 2 ∧ 0 ≤ k ∧ k < 72 then h (q + 2) k else if x = o + 3 ∧ 0 ≤ k ∧ k < 600 then h (q + 3) k else h x k
theorem sc_ap {o q : Nat} (ho : ty TT o = some (.inl 3)) (hq : ty TT q = some (.inl 3)) (hn : o ≠ q) : q ≠ o ∧ q ≠ o + 1 ∧ q ≠ o + 2 ∧ q ≠ o + 3 ∧ q + 1 ≠ o ∧ q + 1 ≠ o + 1 ∧ q + 1 ≠ o + 2 ∧ q + 1 ≠ o + 3 ∧ q + 2 ≠ o ∧ q + 2 ≠ o + 1 ∧ q + 2 ≠ o + 2 ∧ q + 2 ≠ o + 3 ∧ q + 3 ≠ o ∧ q + 3 ≠ o + 1 ∧ q + 3 ≠ o + 2 ∧ q + 3 ≠ o + 3 := by
  have a1 := pt3_1 o (tt_lt ho) ho
  have a2 := pt3_2 o (tt_lt ho) ho
  have a3 := pt3_3 o (tt_lt ho) ho
  have b1 := pt3_1 q (tt_lt hq) hq
  have b2 := pt3_2 q (tt_lt hq) hq
  have b3 := pt3_3 q (tt_lt hq) hq
  have n1 : q ≠ o + 1 := fun e => by rw [← e, hq] at a1; cases a1
  have n2 : q ≠ o + 2 := fun e => by rw [← e, hq] at a2; cases a2
  have n3 : q ≠ o + 3 := fun e => by rw [← e, hq] at a3; cases a3
  have m1 : q + 1 ≠ o := fun e => by rw [e, ho] at b1; cases b1
  have m2 : q + 2 ≠ o := fun e => by rw [e, ho] at b2; cases b2
  have m3 : q + 3 ≠ o := fun e => by rw [e, ho] at b3; cases b3
  omega

theorem wX3_copy {G : GT} {δ : Nat} {h hl : Nat → Int → Int} {b : Bool × Bool} {Q : V → Hp → Prop} {o q : Nat} (hδ : δ ≤ 1700) (ho : ty TT o = some (.inl 3)) (hq : ty TT q = some (.inl 3)) (hn : o ≠ q) (hQ : Q vn (HS (scC h o q) hl b)) : WP G δ 0 0 MX3_copy 0 [vr (o), vr (q)] [] (HS h hl b) Q := by
  refine al_0 dX3_copy_0 ?_
  refine al_1 dX3_copy_1 ?_
  refine g_X3_28 dX3_copy_2 rfl hq ?_
  refine p_X3_28 dX3_copy_5 rfl ho ?_
  refine al_0 dX3_copy_8 ?_
  refine al_1 dX3_copy_9 ?_
  refine g_X3_31 dX3_copy_10 rfl hq ?_
  refine p_X3_31 dX3_copy_13 rfl ho ?_
  refine al_0 dX3_copy_16 ?_
  refine al_1 dX3_copy_17 ?_
  refine g_X3_34 dX3_copy_18 rfl hq ?_
  refine p_X3_34 dX3_copy_21 rfl ho ?_
  refine al_0 dX3_copy_24 ?_
  refine al_1 dX3_copy_25 ?_
  refine g_X3_9 dX3_copy_26 rfl hq ?_
  refine p_X3_9 dX3_copy_29 rfl ho ?_
  refine al_0 dX3_copy_32 ?_
  refine al_1 dX3_copy_33 ?_
  refine g_X3_15 dX3_copy_34 rfl hq ?_
  refine p_X3_15 dX3_copy_37 rfl ho ?_
  refine al_1 dX3_copy_40 ?_
  refine g_X3_18 (q + 1) dX3_copy_41 rfl hq (rr3_5 hq) (by omega) ?_
  refine ic_0 dX3_copy_44 ?_
  refine al_0 dX3_copy_45 ?_
  refine g_X3_18 (o + 1) dX3_copy_46 rfl ho (rr3_5 ho) (by omega) ?_
  refine ic_0 dX3_copy_49 ?_
  refine bi_24 dX3_copy_50 ?_
  refine c_X3_37 dX3_copy_52 rfl (pt3_1 _ (tt_lt hq) hq) (pt3_1 _ (tt_lt ho) ho) (by omega) (by omega) (by omega) (by omega) (by omega) (by simp) (by omega) ?_
  refine al_1 dX3_copy_55 ?_
  refine g_X3_22 (q + 2) dX3_copy_56 rfl hq (rr3_6 hq) (by omega) ?_
  refine ic_0 dX3_copy_59 ?_
  refine al_0 dX3_copy_60 ?_
  refine g_X3_22 (o + 2) dX3_copy_61 rfl ho (rr3_6 ho) (by omega) ?_
  refine ic_0 dX3_copy_64 ?_
  refine bi_72 dX3_copy_65 ?_
  refine c_X3_37 dX3_copy_67 rfl (pt3_2 _ (tt_lt hq) hq) (pt3_2 _ (tt_lt ho) ho) (by omega) (by omega) (by omega) (by omega) (by omega) (by simp) (by omega) ?_
  refine al_1 dX3_copy_70 ?_
  refine g_X3_25 (q + 3) dX3_copy_71 rfl hq (rr3_7 hq) (by omega) ?_
  refine ic_0 dX3_copy_74 ?_
  refine al_0 dX3_copy_75 ?_
  refine g_X3_25 (o + 3) dX3_copy_76 rfl ho (rr3_7 ho) (by omega) ?_
  refine ic_0 dX3_copy_79 ?_
  refine si_600 dX3_copy_80 ?_
  refine c_X3_37 dX3_copy_83 rfl (pt3_3 _ (tt_lt hq) hq) (pt3_3 _ (tt_lt ho) ho) (by omega) (by omega) (by omega) (by omega) (by omega) (by simp) (by omega) ?_
  refine wp_vret dX3_copy_86 rfl ?_
  obtain ⟨m1, m2, m3, m4, m5, m6, m7, m8, m9, m10, m11, m12, m13, m14, m15, m16⟩ := sc_ap ho hq hn
  refine qh hQ ?_
  clear hQ
  funext x k
  grind (splits := 60) [up, cpy, scC]

theorem wX3_addClause {G : GT} {δ : Nat} {h hl : Nat → Int → Int} {b : Bool × Bool} {Q : V → Hp → Prop} {x : Int} (hδ : δ ≤ 1700) (n0 : 0 ≤ h 316 0) (n1 : h 316 0 < 24) (hQ : Q vn (HS (up (up (up h 317 (h 316 0) x) 316 0 (h 316 0 + 1)) 316 1 0) hl b)) : WP G δ 0 0 MX3_addClause 0 [vr (316), vi x] [] (HS h hl b) Q := by
  refine al_0 dX3_addClause_0 ?_
  refine g_X3_28 dX3_addClause_1 rfl tt316 ?_
  refine bi_24 dX3_addClause_4 ?_
  refine wp_icmp_ge 34 dX3_addClause_6 rfl (fun c6 => ?_) (fun c6 => ?_)
  · omega
  · refine al_0 dX3_addClause_9 ?_
    refine g_X3_18 (317) dX3_addClause_10 rfl tt316 (rr3_5 tt316) (by omega) ?_
    refine al_0 dX3_addClause_13 ?_
    refine g_X3_28 dX3_addClause_14 rfl tt316 ?_
    refine il_1 dX3_addClause_17 ?_
    refine wp_iastore dX3_addClause_18 tt317 (by omega) (by omega) ?_
    refine al_0 dX3_addClause_19 ?_
    refine wp_dup dX3_addClause_20 rfl ?_
    refine g_X3_28 dX3_addClause_21 rfl tt316 ?_
    rw [up_o (o := 317) (q := 316) (by decide)]
    refine ic_1 dX3_addClause_24 ?_
    refine wp_iadd dX3_addClause_25 (r32 (by omega) (by omega)) ?_
    refine p_X3_28 dX3_addClause_26 rfl tt316 ?_
    refine al_0 dX3_addClause_29 ?_
    refine ic_0 dX3_addClause_30 ?_
    refine p_X3_31 dX3_addClause_31 rfl tt316 ?_
    refine wp_vret dX3_addClause_34 rfl ?_
    exact hQ

theorem wX3_addNumber {G : GT} {δ : Nat} {h hl : Nat → Int → Int} {b : Bool × Bool} {Q : V → Hp → Prop} {x : Int} (hδ : δ ≤ 1700) (n0 : 0 < h 316 0) (n1 : h 316 0 ≤ 24) (k0 : 0 ≤ h 316 1) (k1 : h 316 1 < 3) (hQ : Q vn (HS (up (up h 318 ((h 316 0 - 1) * 3 + h 316 1) x) 316 1 (h 316 1 + 1)) hl b)) : WP G δ 0 0 MX3_addNumber 0 [vr (316), vi x, vn] [] (HS h hl b) Q := by
  refine al_0 dX3_addNumber_0 ?_
  refine g_X3_28 dX3_addNumber_1 rfl tt316 ?_
  refine ic_1 dX3_addNumber_4 ?_
  refine wp_isub dX3_addNumber_5 (r32 (by omega) (by omega)) ?_
  refine ic_3 dX3_addNumber_6 ?_
  refine wp_imul dX3_addNumber_7 (r32 (by omega) (by omega)) ?_
  refine al_0 dX3_addNumber_8 ?_
  refine g_X3_31 dX3_addNumber_9 rfl tt316 ?_
  refine wp_iadd dX3_addNumber_12 (r32 (by omega) (by omega)) ?_
  refine is_2 dX3_addNumber_13 rfl (by decide) ?_
  refine al_0 dX3_addNumber_14 ?_
  refine g_X3_28 dX3_addNumber_15 rfl tt316 ?_
  refine wp_if_le 55 dX3_addNumber_18 rfl (fun c18 => ?_) (fun c18 => ?_)
  · omega
  · refine al_0 dX3_addNumber_21 ?_
    refine g_X3_31 dX3_addNumber_22 rfl tt316 ?_
    refine ic_3 dX3_addNumber_25 ?_
    refine wp_icmp_ge 55 dX3_addNumber_26 rfl (fun c26 => ?_) (fun c26 => ?_)
    · omega
    · refine il_2 dX3_addNumber_29 ?_
      refine al_0 dX3_addNumber_30 ?_
      refine g_X3_22 (318) dX3_addNumber_31 rfl tt316 (rr3_6 tt316) (by omega) ?_
      refine wp_alen dX3_addNumber_34 tt318 (by decide) (by decide) ?_
      refine wp_icmp_ge 55 dX3_addNumber_35 rfl (fun c35 => ?_) (fun c35 => ?_)
      · omega
      · refine al_0 dX3_addNumber_38 ?_
        refine g_X3_22 (318) dX3_addNumber_39 rfl tt316 (rr3_6 tt316) (by omega) ?_
        refine il_2 dX3_addNumber_42 ?_
        refine il_1 dX3_addNumber_43 ?_
        refine wp_iastore dX3_addNumber_44 tt318 (by omega) (by omega) ?_
        refine al_0 dX3_addNumber_45 ?_
        refine wp_dup dX3_addNumber_46 rfl ?_
        refine g_X3_31 dX3_addNumber_47 rfl tt316 ?_
        rw [up_o (o := 318) (q := 316) (by decide)]
        refine ic_1 dX3_addNumber_50 ?_
        refine wp_iadd dX3_addNumber_51 (r32 (by omega) (by omega)) ?_
        refine p_X3_31 dX3_addNumber_52 rfl tt316 ?_
        refine wp_vret dX3_addNumber_55 rfl ?_
        exact hQ

theorem wX3_emit {G : GT} {δ : Nat} {h hl : Nat → Int → Int} {b : Bool × Bool} {Q : V → Hp → Prop} {x : Int} (hδ : δ ≤ 1700) (n0 : 0 ≤ h 316 2) (n1 : h 316 2 < 600) (hQ : Q vn (HS (up (up h 319 (h 316 2) x) 316 2 (h 316 2 + 1)) hl b)) : WP G δ 0 0 MX3_emit 0 [vr (316), vi x] [] (HS h hl b) Q := by
  refine al_0 dX3_emit_0 ?_
  refine g_X3_34 dX3_emit_1 rfl tt316 ?_
  refine si_600 dX3_emit_4 ?_
  refine wp_icmp_ge 30 dX3_emit_7 rfl (fun c7 => ?_) (fun c7 => ?_)
  · omega
  · refine al_0 dX3_emit_10 ?_
    refine g_X3_25 (319) dX3_emit_11 rfl tt316 (rr3_7 tt316) (by omega) ?_
    refine al_0 dX3_emit_14 ?_
    refine g_X3_34 dX3_emit_15 rfl tt316 ?_
    refine il_1 dX3_emit_18 ?_
    refine wp_iastore dX3_emit_19 tt319 (by omega) (by omega) ?_
    refine al_0 dX3_emit_20 ?_
    refine wp_dup dX3_emit_21 rfl ?_
    refine g_X3_34 dX3_emit_22 rfl tt316 ?_
    rw [up_o (o := 319) (q := 316) (by decide)]
    refine ic_1 dX3_emit_25 ?_
    refine wp_iadd dX3_emit_26 (r32 (by omega) (by omega)) ?_
    refine p_X3_34 dX3_emit_27 rfl tt316 ?_
    refine wp_vret dX3_emit_30 rfl ?_
    exact hQ

theorem wX3_land {G : GT} {δ : Nat} {h hl : Nat → Int → Int} {b : Bool × Bool} {Q : V → Hp → Prop} {p : Int} (hδ : δ ≤ 1700) (p0 : 0 ≤ p) (p1 : p < 600) (hQ : Q vn (HS (up h 319 p (h 316 2)) hl b)) : WP G δ 0 0 MX3_land 0 [vr (316), vi p] [] (HS h hl b) Q := by
  refine il_1 dX3_land_0 ?_
  refine wp_if_lt 21 dX3_land_1 rfl (fun c1 => ?_) (fun c1 => ?_)
  · omega
  · refine il_1 dX3_land_4 ?_
    refine si_600 dX3_land_5 ?_
    refine wp_icmp_ge 21 dX3_land_8 rfl (fun c8 => ?_) (fun c8 => ?_)
    · omega
    · refine al_0 dX3_land_11 ?_
      refine g_X3_25 (319) dX3_land_12 rfl tt316 (rr3_7 tt316) (by omega) ?_
      refine il_1 dX3_land_15 ?_
      refine al_0 dX3_land_16 ?_
      refine g_X3_34 dX3_land_17 rfl tt316 ?_
      refine wp_iastore dX3_land_20 tt319 (by omega) (by omega) ?_
      refine wp_vret dX3_land_21 rfl ?_
      exact hQ

theorem wX3_kind {G : GT} {δ : Nat} {h hl : Nat → Int → Int} {b : Bool × Bool} {Q : V → Hp → Prop} {o : Nat} {i : Int} (hδ : δ ≤ 1700) (ho : ty TT o = some (.inl 3)) (n1 : h o 0 ≤ 24) (hQ : Q (vi (if 0 ≤ i ∧ i < h o 0 then h (o + 1) i else 55)) (HS h hl b)) : WP G δ 0 0 MX3_kind 0 [vr (o), vi i] [] (HS h hl b) Q := by
  refine il_1 dX3_kind_0 ?_
  refine wp_if_lt 21 dX3_kind_1 rfl (fun c1 => ?_) (fun c1 => ?_)
  · refine bi_55 dX3_kind_21 ?_
    refine wp_ireti dX3_kind_23 rfl ?_
    refine qv hQ ?_
    first | rw [if_pos (by omega)] | rw [if_neg (by omega)]
  · refine il_1 dX3_kind_4 ?_
    refine al_0 dX3_kind_5 ?_
    refine g_X3_28 dX3_kind_6 rfl ho ?_
    refine wp_icmp_ge 21 dX3_kind_9 rfl (fun c9 => ?_) (fun c9 => ?_)
    · refine bi_55 dX3_kind_21 ?_
      refine wp_ireti dX3_kind_23 rfl ?_
      refine qv hQ ?_
      first | rw [if_pos (by omega)] | rw [if_neg (by omega)]
    · refine al_0 dX3_kind_12 ?_
      refine g_X3_18 (o + 1) dX3_kind_13 rfl ho (rr3_5 ho) (by omega) ?_
      refine il_1 dX3_kind_16 ?_
      refine wp_iaload dX3_kind_17 (pt3_1 _ (tt_lt ho) ho) (by omega) (by omega) ?_
      refine wp_goto 23 dX3_kind_18 rfl ?_
      refine wp_ireti dX3_kind_23 rfl ?_
      refine qv hQ ?_
      first | rw [if_pos (by omega)] | rw [if_neg (by omega)]

theorem wX3_number {G : GT} {δ : Nat} {h hl : Nat → Int → Int} {b : Bool × Bool} {Q : V → Hp → Prop} {o : Nat} {c i : Int} (hδ : δ ≤ 1700) (ho : ty TT o = some (.inl 3)) (n1 : h o 0 ≤ 24) (c0 : 0 ≤ c) (c1 : c < 1000) (i0 : 0 ≤ i) (i1 : i < 3) (hQ : Q (vi (if c < h o 0 then h (o + 2) (c * 3 + i) else 0)) (HS h hl b)) : WP G δ 0 0 MX3_number 0 [vr (o), vi c, vi i, vn] [] (HS h hl b) Q := by
  refine il_1 dX3_number_0 ?_
  refine ic_3 dX3_number_1 ?_
  refine wp_imul dX3_number_2 (r32 (by omega) (by omega)) ?_
  refine il_2 dX3_number_3 ?_
  refine wp_iadd dX3_number_4 (r32 (by omega) (by omega)) ?_
  refine is_3 dX3_number_5 rfl (by decide) ?_
  refine il_1 dX3_number_6 ?_
  refine wp_if_lt 36 dX3_number_7 rfl (fun c7 => ?_) (fun c7 => ?_)
  · omega
  · refine il_1 dX3_number_10 ?_
    refine al_0 dX3_number_11 ?_
    refine g_X3_28 dX3_number_12 rfl ho ?_
    refine wp_icmp_ge 36 dX3_number_15 rfl (fun c15 => ?_) (fun c15 => ?_)
    · refine ic_0 dX3_number_36 ?_
      refine wp_ireti dX3_number_37 rfl ?_
      refine qv hQ ?_
      first | rw [if_pos (by omega)] | rw [if_neg (by omega)]
    · refine il_2 dX3_number_18 ?_
      refine wp_if_lt 36 dX3_number_19 rfl (fun c19 => ?_) (fun c19 => ?_)
      · omega
      · refine il_2 dX3_number_22 ?_
        refine ic_3 dX3_number_23 ?_
        refine wp_icmp_ge 36 dX3_number_24 rfl (fun c24 => ?_) (fun c24 => ?_)
        · omega
        · refine al_0 dX3_number_27 ?_
          refine g_X3_22 (o + 2) dX3_number_28 rfl ho (rr3_6 ho) (by omega) ?_
          refine il_3 dX3_number_31 ?_
          refine wp_iaload dX3_number_32 (pt3_2 _ (tt_lt ho) ho) (by omega) (by omega) ?_
          refine wp_goto 37 dX3_number_33 rfl ?_
          refine wp_ireti dX3_number_37 rfl ?_
          refine qv hQ ?_
          first | rw [if_pos (by omega)] | rw [if_neg (by omega)]

theorem wX3_entry {G : GT} {δ : Nat} {h hl : Nat → Int → Int} {b : Bool × Bool} {Q : V → Hp → Prop} {o : Nat} {i : Int} (hδ : δ ≤ 1700) (ho : ty TT o = some (.inl 3)) (n1 : h o 2 ≤ 600) (hQ : Q (vi (if 0 ≤ i ∧ i < h o 2 then h (o + 3) i else 53)) (HS h hl b)) : WP G δ 0 0 MX3_entry 0 [vr (o), vi i] [] (HS h hl b) Q := by
  refine il_1 dX3_entry_0 ?_
  refine wp_if_lt 21 dX3_entry_1 rfl (fun c1 => ?_) (fun c1 => ?_)
  · refine bi_53 dX3_entry_21 ?_
    refine wp_ireti dX3_entry_23 rfl ?_
    refine qv hQ ?_
    first | rw [if_pos (by omega)] | rw [if_neg (by omega)]
  · refine il_1 dX3_entry_4 ?_
    refine al_0 dX3_entry_5 ?_
    refine g_X3_34 dX3_entry_6 rfl ho ?_
    refine wp_icmp_ge 21 dX3_entry_9 rfl (fun c9 => ?_) (fun c9 => ?_)
    · refine bi_53 dX3_entry_21 ?_
      refine wp_ireti dX3_entry_23 rfl ?_
      refine qv hQ ?_
      first | rw [if_pos (by omega)] | rw [if_neg (by omega)]
    · refine al_0 dX3_entry_12 ?_
      refine g_X3_25 (o + 3) dX3_entry_13 rfl ho (rr3_7 ho) (by omega) ?_
      refine il_1 dX3_entry_16 ?_
      refine wp_iaload dX3_entry_17 (pt3_3 _ (tt_lt ho) ho) (by omega) (by omega) ?_
      refine wp_goto 23 dX3_entry_18 rfl ?_
      refine wp_ireti dX3_entry_23 rfl ?_
      refine qv hQ ?_
      first | rw [if_pos (by omega)] | rw [if_neg (by omega)]

theorem wX1_push {G : GT} {δ : Nat} {h hl : Nat → Int → Int} {b : Bool × Bool} {Q : V → Hp → Prop} {x : Int} (hδ : δ ≤ 1700) (n0 : 0 ≤ h 19 2) (n1 : h 19 2 < 64) (hQ : Q vn (HS (up (up h 21 (h 19 2) x) 19 2 (h 19 2 + 1)) hl b)) : WP G δ 0 0 MX1_push 0 [vr (19), vi x] [] (HS h hl b) Q := by
  refine al_0 dX1_push_0 ?_
  refine g_X1_18 dX1_push_1 rfl tt19 ?_
  refine bi_64 dX1_push_4 ?_
  refine wp_icmp_ge 29 dX1_push_6 rfl (fun c6 => ?_) (fun c6 => ?_)
  · omega
  · refine al_0 dX1_push_9 ?_
    refine g_X1_15 (21) dX1_push_10 rfl tt19 (rr1_1 tt19) (by omega) ?_
    refine al_0 dX1_push_13 ?_
    refine g_X1_18 dX1_push_14 rfl tt19 ?_
    refine il_1 dX1_push_17 ?_
    refine wp_iastore dX1_push_18 tt21 (by omega) (by omega) ?_
    refine al_0 dX1_push_19 ?_
    refine wp_dup dX1_push_20 rfl ?_
    refine g_X1_18 dX1_push_21 rfl tt19 ?_
    rw [up_o (o := 21) (q := 19) (by decide)]
    refine ic_1 dX1_push_24 ?_
    refine wp_iadd dX1_push_25 (r32 (by omega) (by omega)) ?_
    refine p_X1_18 dX1_push_26 rfl tt19 ?_
    refine wp_vret dX1_push_29 rfl ?_
    exact hQ

theorem wX1_pop {G : GT} {δ : Nat} {h hl : Nat → Int → Int} {b : Bool × Bool} {Q : V → Hp → Prop}  (hδ : δ ≤ 1700) (n0 : 0 < h 19 2) (n1 : h 19 2 ≤ 64) (hQ : Q (vi (h 21 (h 19 2 - 1))) (HS (up h 19 2 (h 19 2 - 1)) hl b)) : WP G δ 0 0 MX1_pop 0 [vr (19)] [] (HS h hl b) Q := by
  refine al_0 dX1_pop_0 ?_
  refine g_X1_18 dX1_pop_1 rfl tt19 ?_
  refine wp_if_gt 9 dX1_pop_4 rfl (fun c4 => ?_) (fun c4 => ?_)
  · refine al_0 dX1_pop_9 ?_
    refine wp_dup dX1_pop_10 rfl ?_
    refine g_X1_18 dX1_pop_11 rfl tt19 ?_
    refine ic_1 dX1_pop_14 ?_
    refine wp_isub dX1_pop_15 (r32 (by omega) (by omega)) ?_
    refine p_X1_18 dX1_pop_16 rfl tt19 ?_
    refine al_0 dX1_pop_19 ?_
    refine g_X1_15 (21) dX1_pop_20 rfl tt19 (rr1_1 tt19) (by omega) ?_
    refine al_0 dX1_pop_23 ?_
    refine g_X1_18 dX1_pop_24 rfl tt19 ?_
    rw [up_s]
    refine wp_iaload dX1_pop_27 tt21 (by omega) (by omega) ?_
    rw [up_o (o := 19) (q := 21) (by decide)]
    refine wp_ireti dX1_pop_28 rfl ?_
    exact hQ
  · omega

def apI (x z : Int) : Int := if x < 0 ∨ 10 ≤ x ∨ z < 0 ∨ 10 ≤ z then 0 else if (if x < z then z - x else x - z) ≤ 5 then (if x < z then z - x else x - z) else 10 - (if x < z then z - x else x - z)

theorem wX1_apart {G : GT} {δ : Nat} {h hl : Nat → Int → Int} {b : Bool × Bool} {Q : V → Hp → Prop} {x z : Int} (hδ : δ ≤ 1700)  (hQ : Q (vi (apI x z)) (HS h hl b)) : WP G δ 0 0 MX1_apart 0 [vi x, vi z, vn] [] (HS h hl b) Q := by
  refine il_0 dX1_apart_0 ?_
  refine wp_if_lt 20 dX1_apart_1 rfl (fun c1 => ?_) (fun c1 => ?_)
  · refine ic_0 dX1_apart_20 ?_
    refine wp_ireti dX1_apart_21 rfl ?_
    refine qv hQ ?_
    unfold apI
    grind
  · refine il_0 dX1_apart_4 ?_
    refine bi_10 dX1_apart_5 ?_
    refine wp_icmp_ge 20 dX1_apart_7 rfl (fun c7 => ?_) (fun c7 => ?_)
    · refine ic_0 dX1_apart_20 ?_
      refine wp_ireti dX1_apart_21 rfl ?_
      refine qv hQ ?_
      unfold apI
      grind
    · refine il_1 dX1_apart_10 ?_
      refine wp_if_lt 20 dX1_apart_11 rfl (fun c11 => ?_) (fun c11 => ?_)
      · refine ic_0 dX1_apart_20 ?_
        refine wp_ireti dX1_apart_21 rfl ?_
        refine qv hQ ?_
        unfold apI
        grind
      · refine il_1 dX1_apart_14 ?_
        refine bi_10 dX1_apart_15 ?_
        refine wp_icmp_lt 22 dX1_apart_17 rfl (fun c17 => ?_) (fun c17 => ?_)
        · refine il_0 dX1_apart_22 ?_
          refine il_1 dX1_apart_23 ?_
          refine wp_icmp_ge 33 dX1_apart_24 rfl (fun c24 => ?_) (fun c24 => ?_)
          · refine il_0 dX1_apart_33 ?_
            refine il_1 dX1_apart_34 ?_
            refine wp_isub dX1_apart_35 (r32 (by omega) (by omega)) ?_
            refine is_2 dX1_apart_36 rfl (by decide) ?_
            refine il_2 dX1_apart_37 ?_
            refine ic_5 dX1_apart_38 ?_
            refine wp_icmp_le 49 dX1_apart_39 rfl (fun c39 => ?_) (fun c39 => ?_)
            · refine il_2 dX1_apart_49 ?_
              refine wp_ireti dX1_apart_50 rfl ?_
              refine qv hQ ?_
              unfold apI
              grind
            · refine bi_10 dX1_apart_42 ?_
              refine il_2 dX1_apart_44 ?_
              refine wp_isub dX1_apart_45 (r32 (by omega) (by omega)) ?_
              refine wp_goto 50 dX1_apart_46 rfl ?_
              refine wp_ireti dX1_apart_50 rfl ?_
              refine qv hQ ?_
              unfold apI
              grind
          · refine il_1 dX1_apart_27 ?_
            refine il_0 dX1_apart_28 ?_
            refine wp_isub dX1_apart_29 (r32 (by omega) (by omega)) ?_
            refine wp_goto 36 dX1_apart_30 rfl ?_
            refine is_2 dX1_apart_36 rfl (by decide) ?_
            refine il_2 dX1_apart_37 ?_
            refine ic_5 dX1_apart_38 ?_
            refine wp_icmp_le 49 dX1_apart_39 rfl (fun c39 => ?_) (fun c39 => ?_)
            · refine il_2 dX1_apart_49 ?_
              refine wp_ireti dX1_apart_50 rfl ?_
              refine qv hQ ?_
              unfold apI
              grind
            · refine bi_10 dX1_apart_42 ?_
              refine il_2 dX1_apart_44 ?_
              refine wp_isub dX1_apart_45 (r32 (by omega) (by omega)) ?_
              refine wp_goto 50 dX1_apart_46 rfl ?_
              refine wp_ireti dX1_apart_50 rfl ?_
              refine qv hQ ?_
              unfold apI
              grind
        · refine ic_0 dX1_apart_20 ?_
          refine wp_ireti dX1_apart_21 rfl ?_
          refine qv hQ ?_
          unfold apI
          grind
