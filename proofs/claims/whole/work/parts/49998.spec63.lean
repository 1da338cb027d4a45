/-! the law's loop -/
theorem law_loop {G : GT} {δ : Nat} {Q : V → Hp → Prop} (hδ : δ ≤ 800) (hQ : ∀ σ : Hp, Q (vi 1) σ) : ∀ (n : Nat) (i : Int) (h hl : Nat → Int → Int) (b : Bool × Bool) (R I : Int → Int) (L : Laws), ((gL G : Int) - i).toNat < n → 0 ≤ i → i ≤ gL G → INV h R I L → WP G δ 0 0 ML_law 18 [vs 1, vr (1), vr (336), vi i] [] (HS h hl b) Q := by
  intro n
  induction n with
  | zero => intro i h hl b R I L hlt; exact absurd hlt (Nat.not_lt_zero _)
  | succ n ih =>
    intro i h hl b R I L hlt i0 i1 V
    refine wp_gL (fun g31 => ?_)
    refine il_3 dL_law_18 ?_
    refine wp_sload1_n dL_law_19 rfl rfl ?_
    refine wp_slen dL_law_20 ?_
    refine bi_6 dL_law_21 ?_
    refine wp_isub dL_law_23 (r32 (by omega) (by omega)) ?_
    refine wp_icmp_gt 1960 dL_law_24 rfl (fun c24 => ?_) (fun c24 => ?_)
    · refine ic_1 dL_law_1960 ?_
      refine wp_iretz dL_law_1961 rfl (by omega) ?_
      exact hQ _
    · refine wp_sload1_n dL_law_27 rfl rfl ?_
      refine il_3 dL_law_28 ?_
      refine wp_sld dL_law_29 (by omega) (by omega) ?_
      refine bi_63 dL_law_30 ?_
      refine wp_iand dL_law_32 ?_
      have go : ∀ (h' hl' : Nat → Int → Int) (b' : Bool × Bool) (R' I' : Int → Int) (L' : Laws), INV h' R' I' L' → WP G δ 0 0 ML_law 1954 [vs 1, vr (1), vr (336), vi i] [] (HS h' hl' b') Q := fun h' hl' b' R' I' L' V' => by
        refine ii_3 dL_law_1954 rfl (by decide) ⟨by decide, by decide⟩ (r32 (by omega) (by omega)) ?_
        refine wp_goto 18 dL_law_1957 rfl ?_
        exact ih (i + 6) h' hl' b' R' I' L' (by omega) (by omega) (by omega) V'
      generalize band (gx G i.toNat) 63 = x
      rcases Decidable.em (x = 0) with q | q
      · refine wp_tsw 272 dL_law_33 (by omega) (by omega) (239) (by rw [q]; rfl) rfl ?_
        exact law_c0 hδ V i0 (by omega) g31 go
      rcases Decidable.em (x = 1) with q | q
      · refine wp_tsw 305 dL_law_33 (by omega) (by omega) (272) (by rw [q]; rfl) rfl ?_
        exact law_c1 hδ V i0 (by omega) g31 go
      rcases Decidable.em (x = 2) with q | q
      · refine wp_tsw 328 dL_law_33 (by omega) (by omega) (295) (by rw [q]; rfl) rfl ?_
        exact law_c2 hδ V i0 (by omega) g31 go
      rcases Decidable.em (x = 3) with q | q
      · refine wp_tsw 391 dL_law_33 (by omega) (by omega) (358) (by rw [q]; rfl) rfl ?_
        exact law_c3 hδ V i0 (by omega) g31 go
      rcases Decidable.em (x = 4) with q | q
      · refine wp_tsw 414 dL_law_33 (by omega) (by omega) (381) (by rw [q]; rfl) rfl ?_
        exact law_c4 hδ V i0 (by omega) g31 go
      rcases Decidable.em (x = 5) with q | q
      · refine wp_tsw 427 dL_law_33 (by omega) (by omega) (394) (by rw [q]; rfl) rfl ?_
        exact law_c5 hδ V i0 (by omega) g31 go
      rcases Decidable.em (x = 6) with q | q
      · refine wp_tsw 450 dL_law_33 (by omega) (by omega) (417) (by rw [q]; rfl) rfl ?_
        exact law_c6 hδ V i0 (by omega) g31 go
      rcases Decidable.em (x = 7) with q | q
      · refine wp_tsw 473 dL_law_33 (by omega) (by omega) (440) (by rw [q]; rfl) rfl ?_
        exact law_c7 hδ V i0 (by omega) g31 go
      rcases Decidable.em (x = 8) with q | q
      · refine wp_tsw 516 dL_law_33 (by omega) (by omega) (483) (by rw [q]; rfl) rfl ?_
        exact law_c8 hδ V i0 (by omega) g31 go
      rcases Decidable.em (x = 9) with q | q
      · refine wp_tsw 549 dL_law_33 (by omega) (by omega) (516) (by rw [q]; rfl) rfl ?_
        exact law_c9 hδ V i0 (by omega) g31 go
      rcases Decidable.em (x = 10) with q | q
      · refine wp_tsw 572 dL_law_33 (by omega) (by omega) (539) (by rw [q]; rfl) rfl ?_
        exact law_c10 hδ V i0 (by omega) g31 go
      rcases Decidable.em (x = 11) with q | q
      · refine wp_tsw 595 dL_law_33 (by omega) (by omega) (562) (by rw [q]; rfl) rfl ?_
        exact law_c11 hδ V i0 (by omega) g31 go
      rcases Decidable.em (x = 12) with q | q
      · refine wp_tsw 618 dL_law_33 (by omega) (by omega) (585) (by rw [q]; rfl) rfl ?_
        exact law_c12 hδ V i0 (by omega) g31 go
      rcases Decidable.em (x = 13) with q | q
      · refine wp_tsw 651 dL_law_33 (by omega) (by omega) (618) (by rw [q]; rfl) rfl ?_
        exact law_c13 hδ V i0 (by omega) g31 go
      rcases Decidable.em (x = 14) with q | q
      · refine wp_tsw 664 dL_law_33 (by omega) (by omega) (631) (by rw [q]; rfl) rfl ?_
        exact law_c14 hδ V i0 (by omega) g31 go
      rcases Decidable.em (x = 15) with q | q
      · refine wp_tsw 697 dL_law_33 (by omega) (by omega) (664) (by rw [q]; rfl) rfl ?_
        exact law_c15 hδ V i0 (by omega) g31 go
      rcases Decidable.em (x = 16) with q | q
      · refine wp_tsw 720 dL_law_33 (by omega) (by omega) (687) (by rw [q]; rfl) rfl ?_
        exact law_c16 hδ V i0 (by omega) g31 go
      rcases Decidable.em (x = 17) with q | q
      · refine wp_tsw 743 dL_law_33 (by omega) (by omega) (710) (by rw [q]; rfl) rfl ?_
        exact law_c17 hδ V i0 (by omega) g31 go
      rcases Decidable.em (x = 18) with q | q
      · refine wp_tsw 786 dL_law_33 (by omega) (by omega) (753) (by rw [q]; rfl) rfl ?_
        exact law_c18 hδ V i0 (by omega) g31 go
      rcases Decidable.em (x = 19) with q | q
      · refine wp_tsw 819 dL_law_33 (by omega) (by omega) (786) (by rw [q]; rfl) rfl ?_
        exact law_c19 hδ V i0 (by omega) g31 go
      rcases Decidable.em (x = 20) with q | q
      · refine wp_tsw 852 dL_law_33 (by omega) (by omega) (819) (by rw [q]; rfl) rfl ?_
        exact law_c20 hδ V i0 (by omega) g31 go
      rcases Decidable.em (x = 21) with q | q
      · refine wp_tsw 885 dL_law_33 (by omega) (by omega) (852) (by rw [q]; rfl) rfl ?_
        exact law_c21 hδ V i0 (by omega) g31 go
      rcases Decidable.em (x = 22) with q | q
      · refine wp_tsw 898 dL_law_33 (by omega) (by omega) (865) (by rw [q]; rfl) rfl ?_
        exact law_c22 hδ V i0 (by omega) g31 go
      rcases Decidable.em (x = 23) with q | q
      · refine wp_tsw 947 dL_law_33 (by omega) (by omega) (914) (by rw [q]; rfl) rfl ?_
        exact law_c23 hδ V i0 (by omega) g31 go
      rcases Decidable.em (x = 24) with q | q
      · refine wp_tsw 970 dL_law_33 (by omega) (by omega) (937) (by rw [q]; rfl) rfl ?_
        exact law_c24 hδ V i0 (by omega) g31 go
      rcases Decidable.em (x = 25) with q | q
      · refine wp_tsw 983 dL_law_33 (by omega) (by omega) (950) (by rw [q]; rfl) rfl ?_
        exact law_c25 hδ V i0 (by omega) g31 go
      rcases Decidable.em (x = 26) with q | q
      · refine wp_tsw 1006 dL_law_33 (by omega) (by omega) (973) (by rw [q]; rfl) rfl ?_
        exact law_c26 hδ V i0 (by omega) g31 go
      rcases Decidable.em (x = 27) with q | q
      · refine wp_tsw 1029 dL_law_33 (by omega) (by omega) (996) (by rw [q]; rfl) rfl ?_
        exact law_c27 hδ V i0 (by omega) g31 go
      rcases Decidable.em (x = 28) with q | q
      · refine wp_tsw 1052 dL_law_33 (by omega) (by omega) (1019) (by rw [q]; rfl) rfl ?_
        exact law_c28 hδ V i0 (by omega) g31 go
      rcases Decidable.em (x = 29) with q | q
      · refine wp_tsw 1065 dL_law_33 (by omega) (by omega) (1032) (by rw [q]; rfl) rfl ?_
        exact law_c29 hδ V i0 (by omega) g31 go
      rcases Decidable.em (x = 30) with q | q
      · refine wp_tsw 1088 dL_law_33 (by omega) (by omega) (1055) (by rw [q]; rfl) rfl ?_
        exact law_c30 hδ V i0 (by omega) g31 go
      rcases Decidable.em (x = 31) with q | q
      · refine wp_tsw 1111 dL_law_33 (by omega) (by omega) (1078) (by rw [q]; rfl) rfl ?_
        exact law_c31 hδ V i0 (by omega) g31 go
      rcases Decidable.em (x = 32) with q | q
      · refine wp_tsw 1134 dL_law_33 (by omega) (by omega) (1101) (by rw [q]; rfl) rfl ?_
        exact law_c32 hδ V i0 (by omega) g31 go
      rcases Decidable.em (x = 33) with q | q
      · refine wp_tsw 1173 dL_law_33 (by omega) (by omega) (1140) (by rw [q]; rfl) rfl ?_
        exact law_c33 hδ V i0 (by omega) g31 go
      rcases Decidable.em (x = 34) with q | q
      · refine wp_tsw 1206 dL_law_33 (by omega) (by omega) (1173) (by rw [q]; rfl) rfl ?_
        exact law_c34 hδ V i0 (by omega) g31 go
      rcases Decidable.em (x = 35) with q | q
      · refine wp_tsw 1276 dL_law_33 (by omega) (by omega) (1243) (by rw [q]; rfl) rfl ?_
        exact law_c35 hδ V i0 (by omega) g31 go
      rcases Decidable.em (x = 36) with q | q
      · refine wp_tsw 1346 dL_law_33 (by omega) (by omega) (1313) (by rw [q]; rfl) rfl ?_
        exact law_c36 hδ V i0 (by omega) g31 go
      rcases Decidable.em (x = 37) with q | q
      · refine wp_tsw 1395 dL_law_33 (by omega) (by omega) (1362) (by rw [q]; rfl) rfl ?_
        exact law_c37 hδ V i0 (by omega) g31 go
      rcases Decidable.em (x = 38) with q | q
      · refine wp_tsw 1435 dL_law_33 (by omega) (by omega) (1402) (by rw [q]; rfl) rfl ?_
        exact law_c38 hδ V i0 (by omega) g31 go
      rcases Decidable.em (x = 39) with q | q
      · refine wp_tsw 1495 dL_law_33 (by omega) (by omega) (1462) (by rw [q]; rfl) rfl ?_
        exact law_c39 hδ V i0 (by omega) g31 go
      rcases Decidable.em (x = 40) with q | q
      · refine wp_tsw 1545 dL_law_33 (by omega) (by omega) (1512) (by rw [q]; rfl) rfl ?_
        exact law_c40 hδ V i0 (by omega) g31 go
      rcases Decidable.em (x = 41) with q | q
      · refine wp_tsw 1595 dL_law_33 (by omega) (by omega) (1562) (by rw [q]; rfl) rfl ?_
        exact law_c41 hδ V i0 (by omega) g31 go
      rcases Decidable.em (x = 42) with q | q
      · refine wp_tsw 1634 dL_law_33 (by omega) (by omega) (1601) (by rw [q]; rfl) rfl ?_
        exact law_c42 hδ V i0 (by omega) g31 go
      rcases Decidable.em (x = 43) with q | q
      · refine wp_tsw 1683 dL_law_33 (by omega) (by omega) (1650) (by rw [q]; rfl) rfl ?_
        exact law_c43 hδ V i0 (by omega) g31 go
      rcases Decidable.em (x = 44) with q | q
      · refine wp_tsw 1696 dL_law_33 (by omega) (by omega) (1663) (by rw [q]; rfl) rfl ?_
        exact law_c44 hδ V i0 (by omega) g31 go
      rcases Decidable.em (x = 45) with q | q
      · refine wp_tsw 1735 dL_law_33 (by omega) (by omega) (1702) (by rw [q]; rfl) rfl ?_
        exact law_c45 hδ V i0 (by omega) g31 go
      rcases Decidable.em (x = 46) with q | q
      · refine wp_tsw 1778 dL_law_33 (by omega) (by omega) (1745) (by rw [q]; rfl) rfl ?_
        exact law_c46 hδ V i0 (by omega) g31 go
      rcases Decidable.em (x = 47) with q | q
      · refine wp_tsw 1791 dL_law_33 (by omega) (by omega) (1758) (by rw [q]; rfl) rfl ?_
        exact law_c47 hδ V i0 (by omega) g31 go
      rcases Decidable.em (x = 48) with q | q
      · refine wp_tsw 1830 dL_law_33 (by omega) (by omega) (1797) (by rw [q]; rfl) rfl ?_
        exact law_c48 hδ V i0 (by omega) g31 go
      rcases Decidable.em (x = 49) with q | q
      · refine wp_tsw 1843 dL_law_33 (by omega) (by omega) (1810) (by rw [q]; rfl) rfl ?_
        exact law_c49 hδ V i0 (by omega) g31 go
      rcases Decidable.em (x = 50) with q | q
      · refine wp_tsw 1856 dL_law_33 (by omega) (by omega) (1823) (by rw [q]; rfl) rfl ?_
        exact law_c50 hδ V i0 (by omega) g31 go
      rcases Decidable.em (x = 51) with q | q
      · refine wp_tsw 1869 dL_law_33 (by omega) (by omega) (1836) (by rw [q]; rfl) rfl ?_
        exact law_c51 hδ V i0 (by omega) g31 go
      rcases Decidable.em (x = 52) with q | q
      · refine wp_tsw 1882 dL_law_33 (by omega) (by omega) (1849) (by rw [q]; rfl) rfl ?_
        exact law_c52 hδ V i0 (by omega) g31 go
      rcases Decidable.em (x = 53) with q | q
      · refine wp_tsw 1905 dL_law_33 (by omega) (by omega) (1872) (by rw [q]; rfl) rfl ?_
        exact law_c53 hδ V i0 (by omega) g31 go
      rcases Decidable.em (x = 54) with q | q
      · refine wp_tsw 1918 dL_law_33 (by omega) (by omega) (1885) (by rw [q]; rfl) rfl ?_
        exact law_c54 hδ V i0 (by omega) g31 go
      rcases Decidable.em (x = 55) with q | q
      · refine wp_tsw 1931 dL_law_33 (by omega) (by omega) (1898) (by rw [q]; rfl) rfl ?_
        exact law_c55 hδ V i0 (by omega) g31 go
      refine wp_tswD 1954 dL_law_33 (by omega) rfl ?_
      exact go h hl b R I L V
