theorem wX9_reach_26 {G : GT} {δ : Nat} {h hl : Nat → Int → Int} {b : Bool × Bool} {Q : V → Hp → Prop} {w : Int} {R : Int → Int} {L : Laws} (hδ : δ ≤ 1640) (M : MT h R L) (A : ∀ p : Int, 0 ≤ p → p < 1024 → h 346 p = if reP R p = true then 1 else 0) (w0 : 0 ≤ w) (w2 : w ≤ 2) : ∀ (n : Nat) (a : Int) (f : Int) (g : Int) (p : Int), ((1024 - p).toNat) < n → (0 ≤ p) → (p ≤ 1024) → (a = cntN (reP R) p.toNat) → (f = flP R p.toNat) → (g = mlP R p.toNat) → (Q (vi (aReach R w)) (HS h hl b)) → WP G δ 0 0 MX9_reach 26 [vr (336), vi w, vi a, vi f, vi g, vi p] [] (HS h hl b) Q := by
  intro n
  induction n with
  | zero => intro a f g p hlt; exact absurd hlt (Nat.not_lt_zero _)
  | succ n ih =>
    intro a f g p hlt p0 p1 ha hf hg hQ
    have m := M.1
    have V := M.2.1
    have vn' := V.n
    have vw := V.w
    have nn := nS_e V
    have cr := cntN_R (P := reP R) p.toNat
    refine il_5 dX9_reach_26 ?_
    refine si_1024 dX9_reach_28 ?_
    refine wp_icmp_ge 97 dX9_reach_31 rfl (fun c31 => ?_) (fun c31 => ?_)
    · have e : p = 1024 := by omega
      refine il_1 dX9_reach_97 ?_
      refine wp_if_ne 105 dX9_reach_98 rfl (fun c98 => ?_) (fun c98 => ?_)
      · refine il_1 dX9_reach_105 ?_
        refine ic_1 dX9_reach_106 ?_
        refine wp_icmp_ne 114 dX9_reach_107 rfl (fun c107 => ?_) (fun c107 => ?_)
        · refine il_4 dX9_reach_114 ?_
          refine wp_ireti dX9_reach_116 rfl ?_
          refine qv hQ ?_
          unfold aReach
          first
            | (rw [if_pos (by omega), ← reach_n V, ha, e]; rfl)
            | (rw [if_neg (by omega), if_pos (by omega), ← fl_eq V, hf, e]; rfl)
            | (rw [if_neg (by omega), if_neg (by omega), if_pos (by omega), ← ml_eq V, hg, e]; rfl)
        · refine il_3 dX9_reach_110 ?_
          refine wp_goto 116 dX9_reach_111 rfl ?_
          refine wp_ireti dX9_reach_116 rfl ?_
          refine qv hQ ?_
          unfold aReach
          first
            | (rw [if_pos (by omega), ← reach_n V, ha, e]; rfl)
            | (rw [if_neg (by omega), if_pos (by omega), ← fl_eq V, hf, e]; rfl)
            | (rw [if_neg (by omega), if_neg (by omega), if_pos (by omega), ← ml_eq V, hg, e]; rfl)
      · refine il_2 dX9_reach_101 ?_
        refine wp_goto 116 dX9_reach_102 rfl ?_
        refine wp_ireti dX9_reach_116 rfl ?_
        refine qv hQ ?_
        unfold aReach
        first
          | (rw [if_pos (by omega), ← reach_n V, ha, e]; rfl)
          | (rw [if_neg (by omega), if_pos (by omega), ← fl_eq V, hf, e]; rfl)
          | (rw [if_neg (by omega), if_neg (by omega), if_pos (by omega), ← ml_eq V, hg, e]; rfl)
    · refine al_0 dX9_reach_34 ?_
      refine g_X9_50 (346) dX9_reach_35 rfl tt336 (rr9_26 tt336) (by omega) ?_
      refine il_5 dX9_reach_38 ?_
      refine wp_zaload dX9_reach_40 tt346 (by omega) (by omega) ?_
      rw [A p p0 (by omega)]
      refine wp_if_ne 47 dX9_reach_41 rfl (fun c41 => ?_) (fun c41 => ?_)
      · have rp : reP R p = true := by
          cases z : reP R p with
          | true => rfl
          | false => rw [z] at c41; exact absurd rfl c41
        refine ii_2 dX9_reach_47 rfl (by decide) ⟨by decide, by decide⟩ (r32 (by omega) (by omega)) ?_
        refine il_5 dX9_reach_50 ?_
        refine c_X9_298 dX9_reach_52 rfl (Nat.le_of_ble_eq_true rfl) (by omega) ?_
        refine wX9_bits (by omega) p0 (by omega) ?_
        refine pv_i ?_
        refine il_3 dX9_reach_55 ?_
        refine wp_icmp_ge 67 dX9_reach_56 rfl (fun c56 => ?_) (fun c56 => ?_)
        · refine il_3 dX9_reach_67 ?_
          refine is_3 dX9_reach_68 rfl (by decide) ?_
          refine il_5 dX9_reach_69 ?_
          refine c_X9_298 dX9_reach_71 rfl (Nat.le_of_ble_eq_true rfl) (by omega) ?_
          refine wX9_bits (by omega) p0 (by omega) ?_
          refine pv_i ?_
          refine il_4 dX9_reach_74 ?_
          refine wp_icmp_le 87 dX9_reach_76 rfl (fun c76 => ?_) (fun c76 => ?_)
          · refine il_4 dX9_reach_87 ?_
            refine is_4 dX9_reach_89 rfl (by decide) ?_
            refine ii_5 dX9_reach_91 rfl (by decide) ⟨by decide, by decide⟩ (r32 (by omega) (by omega)) ?_
            refine wp_goto 26 dX9_reach_94 rfl ?_
            refine ih _ _ _ (p + 1) (by omega) (by omega) (by omega) ?_ ?_ ?_ hQ
            · rw [cntN_s p0, rp, ← ha]; simp
            · rw [flP_s p0, rp, ← hf]
              first
              | rw [if_neg (fun z => absurd z.1 (by decide))]
              | rw [if_pos (And.intro rfl (show pc p < f by omega))]
              | rw [if_neg (fun z => by have := z.2; omega)]
            · rw [mlP_s p0, rp, ← hg]
              first
              | rw [if_neg (fun z => absurd z.1 (by decide))]
              | rw [if_pos (And.intro rfl (show g < pc p by omega))]
              | rw [if_neg (fun z => by have := z.2; omega)]
          · refine il_5 dX9_reach_79 ?_
            refine c_X9_298 dX9_reach_81 rfl (Nat.le_of_ble_eq_true rfl) (by omega) ?_
            refine wX9_bits (by omega) p0 (by omega) ?_
            refine pv_i ?_
            refine wp_goto 89 dX9_reach_84 rfl ?_
            refine is_4 dX9_reach_89 rfl (by decide) ?_
            refine ii_5 dX9_reach_91 rfl (by decide) ⟨by decide, by decide⟩ (r32 (by omega) (by omega)) ?_
            refine wp_goto 26 dX9_reach_94 rfl ?_
            refine ih _ _ _ (p + 1) (by omega) (by omega) (by omega) ?_ ?_ ?_ hQ
            · rw [cntN_s p0, rp, ← ha]; simp
            · rw [flP_s p0, rp, ← hf]
              first
              | rw [if_neg (fun z => absurd z.1 (by decide))]
              | rw [if_pos (And.intro rfl (show pc p < f by omega))]
              | rw [if_neg (fun z => by have := z.2; omega)]
            · rw [mlP_s p0, rp, ← hg]
              first
              | rw [if_neg (fun z => absurd z.1 (by decide))]
              | rw [if_pos (And.intro rfl (show g < pc p by omega))]
              | rw [if_neg (fun z => by have := z.2; omega)]
        · refine il_5 dX9_reach_59 ?_
          refine c_X9_298 dX9_reach_61 rfl (Nat.le_of_ble_eq_true rfl) (by omega) ?_
          refine wX9_bits (by omega) p0 (by omega) ?_
          refine pv_i ?_
          refine wp_goto 68 dX9_reach_64 rfl ?_
          refine is_3 dX9_reach_68 rfl (by decide) ?_
          refine il_5 dX9_reach_69 ?_
          refine c_X9_298 dX9_reach_71 rfl (Nat.le_of_ble_eq_true rfl) (by omega) ?_
          refine wX9_bits (by omega) p0 (by omega) ?_
          refine pv_i ?_
          refine il_4 dX9_reach_74 ?_
          refine wp_icmp_le 87 dX9_reach_76 rfl (fun c76 => ?_) (fun c76 => ?_)
          · refine il_4 dX9_reach_87 ?_
            refine is_4 dX9_reach_89 rfl (by decide) ?_
            refine ii_5 dX9_reach_91 rfl (by decide) ⟨by decide, by decide⟩ (r32 (by omega) (by omega)) ?_
            refine wp_goto 26 dX9_reach_94 rfl ?_
            refine ih _ _ _ (p + 1) (by omega) (by omega) (by omega) ?_ ?_ ?_ hQ
            · rw [cntN_s p0, rp, ← ha]; simp
            · rw [flP_s p0, rp, ← hf]
              first
              | rw [if_neg (fun z => absurd z.1 (by decide))]
              | rw [if_pos (And.intro rfl (show pc p < f by omega))]
              | rw [if_neg (fun z => by have := z.2; omega)]
            · rw [mlP_s p0, rp, ← hg]
              first
              | rw [if_neg (fun z => absurd z.1 (by decide))]
              | rw [if_pos (And.intro rfl (show g < pc p by omega))]
              | rw [if_neg (fun z => by have := z.2; omega)]
          · refine il_5 dX9_reach_79 ?_
            refine c_X9_298 dX9_reach_81 rfl (Nat.le_of_ble_eq_true rfl) (by omega) ?_
            refine wX9_bits (by omega) p0 (by omega) ?_
            refine pv_i ?_
            refine wp_goto 89 dX9_reach_84 rfl ?_
            refine is_4 dX9_reach_89 rfl (by decide) ?_
            refine ii_5 dX9_reach_91 rfl (by decide) ⟨by decide, by decide⟩ (r32 (by omega) (by omega)) ?_
            refine wp_goto 26 dX9_reach_94 rfl ?_
            refine ih _ _ _ (p + 1) (by omega) (by omega) (by omega) ?_ ?_ ?_ hQ
            · rw [cntN_s p0, rp, ← ha]; simp
            · rw [flP_s p0, rp, ← hf]
              first
              | rw [if_neg (fun z => absurd z.1 (by decide))]
              | rw [if_pos (And.intro rfl (show pc p < f by omega))]
              | rw [if_neg (fun z => by have := z.2; omega)]
            · rw [mlP_s p0, rp, ← hg]
              first
              | rw [if_neg (fun z => absurd z.1 (by decide))]
              | rw [if_pos (And.intro rfl (show g < pc p by omega))]
              | rw [if_neg (fun z => by have := z.2; omega)]
      · have rp : reP R p = false := by
          cases z : reP R p with
          | false => rfl
          | true => rw [z] at c41; exact absurd c41 (by decide)
        refine wp_goto 91 dX9_reach_44 rfl ?_
        refine ii_5 dX9_reach_91 rfl (by decide) ⟨by decide, by decide⟩ (r32 (by omega) (by omega)) ?_
        refine wp_goto 26 dX9_reach_94 rfl ?_
        refine ih _ _ _ (p + 1) (by omega) (by omega) (by omega) ?_ ?_ ?_ hQ
        · rw [cntN_s p0, rp, ← ha]; simp
        · rw [flP_s p0, rp, ← hf]
          first
          | rw [if_neg (fun z => absurd z.1 (by decide))]
          | rw [if_pos (And.intro rfl (show pc p < f by omega))]
          | rw [if_neg (fun z => by have := z.2; omega)]
        · rw [mlP_s p0, rp, ← hg]
          first
          | rw [if_neg (fun z => absurd z.1 (by decide))]
          | rw [if_pos (And.intro rfl (show g < pc p by omega))]
          | rw [if_neg (fun z => by have := z.2; omega)]

theorem wX9_reach {G : GT} {δ : Nat} {h hl : Nat → Int → Int} {b : Bool × Bool} {Q : V → Hp → Prop} {w : Int} {R : Int → Int} {L : Laws} (hδ : δ ≤ 1640) (M : MT h R L)  (hQ : ∀ h' : Nat → Int → Int, eqX [346] h h' → Q (vi (aReach R w)) (HS h' hl b)) : WP G δ 0 0 MX9_reach 0 [vr (336), vi w, vn, vn, vn, vn] [] (HS h hl b) Q := by
  have m := M.1
  have V := M.2.1
  have vn' := V.n
  have vw := V.w
  refine il_1 dX9_reach_0 ?_
  refine ic_0 dX9_reach_1 ?_
  refine ic_2 dX9_reach_2 ?_
  refine c_X9_69 dX9_reach_3 rfl (Nat.le_of_ble_eq_true rfl) (by omega) ?_
  refine wX9_isIn (by omega) ?_
  refine pv_i ?_
  refine wp_if_ne 11 dX9_reach_6 rfl (fun c6 => ?_) (fun c6 => ?_)
  · rw [b2i_n0] at c6
    refine al_0 dX9_reach_11 ?_
    refine c_X9_405 dX9_reach_12 rfl tt336 (Nat.le_of_ble_eq_true rfl) (by omega) ?_
    refine wX9_layReached (by omega) M (fun h1 E1 A1 => ?_)
    have M1 := M.x E1 (by decide) (by decide)
    refine pv_n ?_
    refine ic_0 dX9_reach_15 ?_
    refine is_2 dX9_reach_16 rfl (by decide) ?_
    refine bi_10 dX9_reach_17 ?_
    refine is_3 dX9_reach_19 rfl (by decide) ?_
    refine ic_0 dX9_reach_20 ?_
    refine is_4 dX9_reach_21 rfl (by decide) ?_
    refine ic_0 dX9_reach_23 ?_
    refine is_5 dX9_reach_24 rfl (by decide) ?_
    exact wX9_reach_26 (by omega) M1 A1 (by omega) (by omega) _ 0 10 0 0 (Nat.lt_succ_self _) (by omega) (by omega) rfl rfl rfl (hQ h1 E1)
  · rw [b2i_0] at c6
    refine ic_m1 dX9_reach_9 ?_
    refine wp_ireti dX9_reach_10 rfl ?_
    refine qv (hQ h eqX.rf) ?_
    unfold aReach
    rw [if_neg (by omega), if_neg (by omega), if_neg (by omega)]
