/-! what is made: the loops of a town -/
theorem wX7_init_114 {G : GT} {δ mc ms : Nat} {hl : Nat → Int → Int} {Q : V → Hp → Prop} {n : Nat} {h0 : Nat → Int → Int} {r0 : Nat → Int → Nat} (hn : n = 1 ∨ n = 157) (hδ : δ ≤ 1880)
  (hQ : ∀ (h' : Nat → Int → Int) (r' : Nat → Int → Nat), Zn (n + 36) h' hl r' → (∀ q : Nat, q ≤ n + 20 → h' q = h0 q) → (∀ q : Nat, q ≤ n + 20 → q ≠ n + 16 → r' q = r0 q) → r' (n + 16) = RR B0 (n + 16) → (∀ q : Nat, n + 20 < q → q ≤ n + 36 → r' q = RR B0 q) → WP G δ mc ms MX7_init 138 [vr (n + 1), vi 4] [] (HB (n + 36) h' hl r') Q) : ∀ (m i : Nat) (h : Nat → Int → Int) (r : Nat → Int → Nat), 4 - i < m → i ≤ 4 → Zn (n + 20 + 4 * i) h hl r → (∀ q : Nat, q ≤ n + 20 → h q = h0 q) → (∀ q : Nat, q ≤ n + 20 → q ≠ n + 16 → r q = r0 q) → (∀ k : Int, r (n + 16) k = if 0 ≤ k ∧ k < i then RR B0 (n + 16) k else 0) → (∀ q : Nat, n + 20 < q → q ≤ n + 20 + 4 * i → r q = RR B0 q) → r0 (n + 1) 6 = n + 16 → WP G δ (4 * (4 - i) + mc) (704 * (4 - i) + ms) MX7_init 114 [vr (n + 1), vi (i : Int)] [] (HB (n + 20 + 4 * i) h hl r) Q := by
  intro m
  induction m with
  | zero => intro i h r hlt; exact absurd hlt (Nat.not_lt_zero _)
  | succ m ih =>
    intro i h r hlt hi Z eh er ea eq e6
    have t1 : ty TT (n + 1) = some (.inl 7) := by rcases hn with e | e <;> subst e <;> decide +kernel
    have ta : ty TT (n + 16) = some (.inr (3, 4)) := by rcases hn with e | e <;> subst e <;> decide +kernel
    refine il_1 dX7_init_114 ?_
    refine ic_4 dX7_init_115 ?_
    refine wp_icmp_ge 138 dX7_init_116 rfl (fun c => ?_) (fun c => ?_)
    · have ei : i = 4 := by omega
      subst ei
      have z := hQ h r (Z.le (by omega)) eh er (by
        funext k; rw [ea k]
        split
        · rfl
        · rename_i nk
          unfold RR; rw [ta]; dsimp only; (repeat' split) <;> first | rfl | omega) (fun q q0 q1 => eq q q0 (by omega))
      rw [show 4 - 4 = 0 from rfl, Nat.zero_add, Nat.zero_add]
      exact z
    · have i4 : i < 4 := by omega
      have tn : ty TT (n + 20 + 4 * i + 1) = some (.inl 3) := by
        rcases hn with e | e <;> subst e
        · have := (tt_scripts i i4).1; rw [show 1 + 20 + 4 * i + 1 = 22 + 4 * i by omega]; exact this
        · have := (tt_scripts i i4).2; rw [show 157 + 20 + 4 * i + 1 = 178 + 4 * i by omega]; exact this
      have l := ty_l tn
      rw [show 4 * (4 - i) + mc = (3 + (4 * (4 - (i + 1)) + mc)) + 1 by omega, show 704 * (4 - i) + ms = (696 + (704 * (4 - (i + 1)) + ms)) + 8 by omega]
      refine al_0 dX7_init_119 ?_
      refine g_X7_41 (n + 16) dX7_init_120 rfl (tyt (by omega) t1) (by rw [er _ (by omega) (by omega)]; exact e6) (by omega) ?_
      refine il_1 dX7_init_123 ?_
      refine wp_newT Z tn dX7_init_124 (by decide) cl_X7_39 in_X3 ini_X3 rfl ?_
      refine wp_dup dX7_init_127 rfl ?_
      refine c_X7_60 dX7_init_128 rfl (Nat.le_of_ble_eq_true rfl) (by omega) ?_
      refine wX3_init (by omega) Z tn (pt3_1 _ (by omega) tn) (pt3_2 _ (by omega) tn) (pt3_3 _ (by omega) tn) (fun r1 G1 => ?_)
      refine pv_n ?_
      obtain ⟨g1, g2, g3⟩ := G1
      refine wp_aastore dX7_init_131 (tyt (by omega) ta) (Or.inl rfl) (tyt (by omega) tn) (by omega) (by omega) ?_
      refine ii_1 dX7_init_132 rfl (by decide) ⟨by decide, by decide⟩ (r32 (by omega) (by omega)) ?_
      refine wp_goto 114 dX7_init_135 rfl ?_
      have z := ih (i + 1) _ (up r1 (n + 16) i (n + 20 + 4 * i + 1)) (by omega) (by omega) ((g1.le (by omega)).ur (by omega)) (fun q hq => ?_) (fun q hq hne => ?_) (fun k => ?_) (fun q q0 q1 => ?_) e6
      · rw [show ((i + 1 : Nat) : Int) = (i : Int) + 1 from rfl] at z
        rw [show n + 20 + 4 * (i + 1) = n + 20 + 4 * i + 4 by omega] at z
        exact z
      · rw [← eh q hq]; funext k; repeat rw [up_o (by omega)]
      · rw [← er q hq hne, ← g2 q (by omega)]; funext k; rw [up_o hne]
      · by_cases k0 : k = i
        · subst k0; rw [up_s, if_pos (by omega)]
          unfold RR; rw [ta]; dsimp only
          rw [if_pos rfl, if_pos (by omega)]; omega
        · rw [up_k k0, g2 _ (by omega), ea k]
          by_cases kk : 0 ≤ k ∧ k < i
          · rw [if_pos kk, if_pos (by omega)]
          · rw [if_neg kk, if_neg (by omega)]
      · have e1 : up r1 (n + 16) i (n + 20 + 4 * i + 1) q = r1 q := by funext k; rw [up_o (by omega)]
        rw [e1]
        by_cases qq : q ≤ n + 20 + 4 * i
        · rw [g2 q qq]; exact eq q q0 qq
        · exact g3 q (by omega) (by omega)

theorem wX7_init_140 {G : GT} {δ mc ms : Nat} {hl : Nat → Int → Int} {Q : V → Hp → Prop} {n : Nat} {h0 : Nat → Int → Int} {r0 : Nat → Int → Nat} (hn : n = 1 ∨ n = 157) (hδ : δ ≤ 1880)
  (hQ : ∀ (h' : Nat → Int → Int) (r' : Nat → Int → Nat), Zn (n + 156) h' hl r' → (∀ q : Nat, q ≤ n + 36 → h' q = h0 q) → (∀ q : Nat, q ≤ n + 36 → q ≠ n + 17 → r' q = r0 q) → r' (n + 17) = RR B0 (n + 17) → (∀ q : Nat, n + 36 < q → q ≤ n + 156 → r' q = RR B0 q) → WP G δ mc ms MX7_init 165 [vr (n + 1), vi 30] [] (HB (n + 156) h' hl r') Q) : ∀ (m i : Nat) (h : Nat → Int → Int) (r : Nat → Int → Nat), 30 - i < m → i ≤ 30 → Zn (n + 36 + 4 * i) h hl r → (∀ q : Nat, q ≤ n + 36 → h q = h0 q) → (∀ q : Nat, q ≤ n + 36 → q ≠ n + 17 → r q = r0 q) → (∀ k : Int, r (n + 17) k = if 0 ≤ k ∧ k < i then RR B0 (n + 17) k else 0) → (∀ q : Nat, n + 36 < q → q ≤ n + 36 + 4 * i → r q = RR B0 q) → r0 (n + 1) 9 = n + 17 → WP G δ (4 * (30 - i) + mc) (42 * (30 - i) + ms) MX7_init 140 [vr (n + 1), vi (i : Int)] [] (HB (n + 36 + 4 * i) h hl r) Q := by
  intro m
  induction m with
  | zero => intro i h r hlt; exact absurd hlt (Nat.not_lt_zero _)
  | succ m ih =>
    intro i h r hlt hi Z eh er ea eq e6
    have t1 : ty TT (n + 1) = some (.inl 7) := by rcases hn with e | e <;> subst e <;> decide +kernel
    have ta : ty TT (n + 17) = some (.inr (4, 30)) := by rcases hn with e | e <;> subst e <;> decide +kernel
    refine il_1 dX7_init_140 ?_
    refine bi_30 dX7_init_141 ?_
    refine wp_icmp_ge 165 dX7_init_143 rfl (fun c => ?_) (fun c => ?_)
    · have ei : i = 30 := by omega
      subst ei
      have z := hQ h r (Z.le (by omega)) eh er (by
        funext k; rw [ea k]
        split
        · rfl
        · rename_i nk
          unfold RR; rw [ta]; dsimp only; (repeat' split) <;> first | rfl | omega) (fun q q0 q1 => eq q q0 (by omega))
      rw [show 30 - 30 = 0 from rfl, Nat.zero_add, Nat.zero_add]
      exact z
    · have i4 : i < 30 := by omega
      have tn : ty TT (n + 36 + 4 * i + 1) = some (.inl 5) := by
        rcases hn with e | e <;> subst e
        · have := (tt_ahead i i4).1; rw [show 1 + 36 + 4 * i + 1 = 38 + 4 * i by omega]; exact this
        · have := (tt_ahead i i4).2; rw [show 157 + 36 + 4 * i + 1 = 194 + 4 * i by omega]; exact this
      have l := ty_l tn
      rw [show 4 * (30 - i) + mc = (3 + (4 * (30 - (i + 1)) + mc)) + 1 by omega, show 42 * (30 - i) + ms = (33 + (42 * (30 - (i + 1)) + ms)) + 9 by omega]
      refine al_0 dX7_init_146 ?_
      refine g_X7_49 (n + 17) dX7_init_147 rfl (tyt (by omega) t1) (by rw [er _ (by omega) (by omega)]; exact e6) (by omega) ?_
      refine il_1 dX7_init_150 ?_
      refine wp_newT Z tn dX7_init_151 (by decide) cl_X7_9 in_X5 ini_X5 rfl ?_
      refine wp_dup dX7_init_154 rfl ?_
      refine c_X7_11 dX7_init_155 rfl (Nat.le_of_ble_eq_true rfl) (by omega) ?_
      refine wX5_init (by omega) Z tn (pt5_1 _ (by omega) tn) (pt5_2 _ (by omega) tn) (pt5_3 _ (by omega) tn) (fun r1 G1 => ?_)
      refine pv_n ?_
      obtain ⟨g1, g2, g3⟩ := G1
      refine wp_aastore dX7_init_158 (tyt (by omega) ta) (Or.inr rfl) (tyt (by omega) tn) (by omega) (by omega) ?_
      refine ii_1 dX7_init_159 rfl (by decide) ⟨by decide, by decide⟩ (r32 (by omega) (by omega)) ?_
      refine wp_goto 140 dX7_init_162 rfl ?_
      have z := ih (i + 1) _ (up r1 (n + 17) i (n + 36 + 4 * i + 1)) (by omega) (by omega) ((g1.le (by omega)).ur (by omega)) (fun q hq => ?_) (fun q hq hne => ?_) (fun k => ?_) (fun q q0 q1 => ?_) e6
      · rw [show ((i + 1 : Nat) : Int) = (i : Int) + 1 from rfl] at z
        rw [show n + 36 + 4 * (i + 1) = n + 36 + 4 * i + 4 by omega] at z
        exact z
      · rw [← eh q hq]; funext k; repeat rw [up_o (by omega)]
      · rw [← er q hq hne, ← g2 q (by omega)]; funext k; rw [up_o hne]
      · by_cases k0 : k = i
        · subst k0; rw [up_s, if_pos (by omega)]
          unfold RR; rw [ta]; dsimp only
          rw [if_neg (by decide), if_pos rfl, if_pos (by omega)]; omega
        · rw [up_k k0, g2 _ (by omega), ea k]
          by_cases kk : 0 ≤ k ∧ k < i
          · rw [if_pos kk, if_pos (by omega)]
          · rw [if_neg kk, if_neg (by omega)]
      · have e1 : up r1 (n + 17) i (n + 36 + 4 * i + 1) q = r1 q := by funext k; rw [up_o (by omega)]
        rw [e1]
        by_cases qq : q ≤ n + 36 + 4 * i
        · rw [g2 q qq]; exact eq q q0 qq
        · exact g3 q (by omega) (by omega)
