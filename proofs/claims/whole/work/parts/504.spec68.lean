/-! what is made: the model -/
theorem all_r {h hl : Nat → Int → Int} {r r' : Nat → Int → Nat} (g : Gr 335 15 h hl r r') (hr : ∀ q : Nat, q ≤ 335 → r q = RR B0 q) : r' = RR B0 := by
  funext q
  by_cases q0 : q ≤ 335
  · rw [g.2.1 q q0]; exact hr q q0
  by_cases q1 : q ≤ 350
  · exact g.2.2 q (by omega) q1
  funext k
  rw [g.1.2.2 q (by omega) k]
  have tn : ty TT q = none := by
    cases q with
    | zero => rfl
    | succ q => exact List.getElem?_eq_none (by rw [TT_l]; omega)
  unfold RR; rw [tn]
set_option maxRecDepth 100000 in
theorem wX9_init {G : GT} {δ : Nat} {h hl : Nat → Int → Int} {r : Nat → Int → Nat} {Q : V → Hp → Prop} (hδ : δ ≤ 1600) (Z : Zn 335 h hl r) (hr : ∀ q : Nat, q ≤ 335 → r q = RR B0 q) (hQ : ∀ h' : Nat → Int → Int, (∀ q : Nat, q ≤ 335 → h' q = h q) → h' 336 4 = 0 → h' 336 5 = -1 → h' 336 6 = -1 → h' 336 23 = 1 → (∀ k : Int, h' 337 k = if k = 3 then -1 else if k = 9 then 367 else 0) → eqR (h' 337) (h' 338) → Q vn (HS h' hl B0)) : WP G δ 14 9859 MX9_init 0 [vr (335 + 1)] [] (HB (335 + 1) h hl r) Q := by
  have p0 := PR.obj (a := 1000) (b := 1000) Z
  refine al_0 dX9_init_0 ?_
  refine c_X9_1 dX9_init_1 rfl (by simp) (by omega) ?_
  refine al_0 dX9_init_4 ?_
  refine si_1278 dX9_init_5 ?_
  refine wp_newaT (kd := 0) (s := 1278) p0.1 tt337 dX9_init_8 (by decide) (by omega) (by omega) (by omega) ac_int ?_
  have p1 := p0.arr tt337 (by decide) (by omega) (by omega)
  refine p_X9_7 dX9_init_10 rfl (tyt (by omega) tt336) rfl (by omega) ?_
  have p2 := p1.put (k := 0) (x := 337) (by omega)
  refine al_0 dX9_init_13 ?_
  refine si_1278 dX9_init_14 ?_
  refine wp_newaT (kd := 0) (s := 1278) p2.1 tt338 dX9_init_17 (by decide) (by omega) (by omega) (by omega) ac_int ?_
  have p3 := p2.arr tt338 (by decide) (by omega) (by omega)
  refine p_X9_13 dX9_init_19 rfl (tyt (by omega) tt336) rfl (by omega) ?_
  have p4 := p3.put (k := 1) (x := 338) (by omega)
  refine al_0 dX9_init_22 ?_
  refine si_2820 dX9_init_23 ?_
  refine wp_newaT (kd := 0) (s := 2820) p4.1 tt339 dX9_init_26 (by decide) (by omega) (by omega) (by omega) ac_int ?_
  have p5 := p4.arr tt339 (by decide) (by omega) (by omega)
  refine p_X9_16 dX9_init_28 rfl (tyt (by omega) tt336) rfl (by omega) ?_
  have p6 := p5.put (k := 2) (x := 339) (by omega)
  refine al_0 dX9_init_31 ?_
  refine si_300 dX9_init_32 ?_
  refine wp_newaT (kd := 0) (s := 300) p6.1 tt340 dX9_init_35 (by decide) (by omega) (by omega) (by omega) ac_int ?_
  have p7 := p6.arr tt340 (by decide) (by omega) (by omega)
  refine p_X9_19 dX9_init_37 rfl (tyt (by omega) tt336) rfl (by omega) ?_
  have p8 := p7.put (k := 3) (x := 340) (by omega)
  refine al_0 dX9_init_40 ?_
  refine ic_m1 dX9_init_41 ?_
  refine p_X9_22 dX9_init_42 rfl (tyt (by omega) tt336) ?_
  have p9 := p8.hup (o := 336) (k := 5) (x := -1) (by omega)
  refine al_0 dX9_init_45 ?_
  refine ic_m1 dX9_init_46 ?_
  refine p_X9_26 dX9_init_47 rfl (tyt (by omega) tt336) ?_
  have p10 := p9.hup (o := 336) (k := 6) (x := -1) (by omega)
  refine al_0 dX9_init_50 ?_
  refine si_160 dX9_init_51 ?_
  refine wp_newaT (kd := 0) (s := 160) p10.1 tt341 dX9_init_54 (by decide) (by omega) (by omega) (by omega) ac_int ?_
  have p11 := p10.arr tt341 (by decide) (by omega) (by omega)
  refine p_X9_29 dX9_init_56 rfl (tyt (by omega) tt336) rfl (by omega) ?_
  have p12 := p11.put (k := 15) (x := 341) (by omega)
  refine al_0 dX9_init_59 ?_
  refine bi_10 dX9_init_60 ?_
  refine wp_newaT (kd := 0) (s := 10) p12.1 tt342 dX9_init_62 (by decide) (by omega) (by omega) (by omega) ac_int ?_
  have p13 := p12.arr tt342 (by decide) (by omega) (by omega)
  refine p_X9_32 dX9_init_64 rfl (tyt (by omega) tt336) rfl (by omega) ?_
  have p14 := p13.put (k := 20) (x := 342) (by omega)
  refine al_0 dX9_init_67 ?_
  refine si_330 dX9_init_68 ?_
  refine wp_newaT (kd := 2) (s := 330) p14.1 tt343 dX9_init_71 (by decide) (by omega) (by omega) (by omega) ac_long ?_
  have p15 := p14.arr tt343 (by decide) (by omega) (by omega)
  refine p_X9_35 dX9_init_73 rfl (tyt (by omega) tt336) rfl (by omega) ?_
  have p16 := p15.put (k := 21) (x := 343) (by omega)
  refine al_0 dX9_init_76 ?_
  refine si_330 dX9_init_77 ?_
  refine wp_newaT (kd := 1) (s := 330) p16.1 tt344 dX9_init_80 (by decide) (by omega) (by omega) (by omega) ac_boolean ?_
  have p17 := p16.arr tt344 (by decide) (by omega) (by omega)
  refine p_X9_39 dX9_init_82 rfl (tyt (by omega) tt336) rfl (by omega) ?_
  have p18 := p17.put (k := 22) (x := 344) (by omega)
  refine al_0 dX9_init_85 ?_
  refine ic_1 dX9_init_86 ?_
  refine p_X9_43 dX9_init_87 rfl (tyt (by omega) tt336) (by omega) ?_
  have p19 := p18.hup (o := 336) (k := 23) (x := 1) (by omega)
  refine al_0 dX9_init_90 ?_
  refine bi_21 dX9_init_91 ?_
  refine wp_newaT (kd := 0) (s := 21) p19.1 tt345 dX9_init_93 (by decide) (by omega) (by omega) (by omega) ac_int ?_
  have p20 := p19.arr tt345 (by decide) (by omega) (by omega)
  refine p_X9_47 dX9_init_95 rfl (tyt (by omega) tt336) rfl (by omega) ?_
  have p21 := p20.put (k := 25) (x := 345) (by omega)
  refine al_0 dX9_init_98 ?_
  refine si_1024 dX9_init_99 ?_
  refine wp_newaT (kd := 1) (s := 1024) p21.1 tt346 dX9_init_102 (by decide) (by omega) (by omega) (by omega) ac_boolean ?_
  have p22 := p21.arr tt346 (by decide) (by omega) (by omega)
  refine p_X9_50 dX9_init_104 rfl (tyt (by omega) tt336) rfl (by omega) ?_
  have p23 := p22.put (k := 26) (x := 346) (by omega)
  refine al_0 dX9_init_107 ?_
  refine ic_4 dX9_init_108 ?_
  refine wp_newaT (kd := 0) (s := 4) p23.1 tt347 dX9_init_109 (by decide) (by omega) (by omega) (by omega) ac_int ?_
  have p24 := p23.arr tt347 (by decide) (by omega) (by omega)
  refine p_X9_53 dX9_init_111 rfl (tyt (by omega) tt336) rfl (by omega) ?_
  have p25 := p24.put (k := 27) (x := 347) (by omega)
  refine al_0 dX9_init_114 ?_
  refine si_256 dX9_init_115 ?_
  refine wp_newaT (kd := 0) (s := 256) p25.1 tt348 dX9_init_118 (by decide) (by omega) (by omega) (by omega) ac_int ?_
  have p26 := p25.arr tt348 (by decide) (by omega) (by omega)
  refine p_X9_56 dX9_init_120 rfl (tyt (by omega) tt336) rfl (by omega) ?_
  have p27 := p26.put (k := 28) (x := 348) (by omega)
  refine al_0 dX9_init_123 ?_
  refine si_1024 dX9_init_124 ?_
  refine wp_newaT (kd := 2) (s := 1024) p27.1 tt349 dX9_init_127 (by decide) (by omega) (by omega) (by omega) ac_long ?_
  have p28 := p27.arr tt349 (by decide) (by omega) (by omega)
  refine p_X9_59 dX9_init_129 rfl (tyt (by omega) tt336) rfl (by omega) ?_
  have p29 := p28.put (k := 29) (x := 349) (by omega)
  refine al_0 dX9_init_132 ?_
  refine si_1024 dX9_init_133 ?_
  refine wp_newaT (kd := 2) (s := 1024) p29.1 tt350 dX9_init_136 (by decide) (by omega) (by omega) (by omega) ac_long ?_
  have p30 := p29.arr tt350 (by decide) (by omega) (by omega)
  refine p_X9_62 dX9_init_138 rfl (tyt (by omega) tt336) rfl (by omega) ?_
  have p31 := p30.put (k := 30) (x := 350) (by omega)
  have gr : Gr 335 15 _ hl r _ := p31.gr (by
      funext k
      rw [RR_c tt336]
      by_cases k30 : k = 30
      · subst k30; simp [RRc, B0]; try omega
      by_cases k29 : k = 29
      · subst k29; simp [RRc, B0]; try omega
      by_cases k28 : k = 28
      · subst k28; simp [RRc, B0]; try omega
      by_cases k27 : k = 27
      · subst k27; simp [RRc, B0]; try omega
      by_cases k26 : k = 26
      · subst k26; simp [RRc, B0]; try omega
      by_cases k25 : k = 25
      · subst k25; simp [RRc, B0]; try omega
      by_cases k22 : k = 22
      · subst k22; simp [RRc, B0]; try omega
      by_cases k21 : k = 21
      · subst k21; simp [RRc, B0]; try omega
      by_cases k20 : k = 20
      · subst k20; simp [RRc, B0]; try omega
      by_cases k15 : k = 15
      · subst k15; simp [RRc, B0]; try omega
      by_cases k3 : k = 3
      · subst k3; simp [RRc, B0]; try omega
      by_cases k2 : k = 2
      · subst k2; simp [RRc, B0]; try omega
      by_cases k1 : k = 1
      · subst k1; simp [RRc, B0]; try omega
      by_cases k0 : k = 0
      · subst k0; simp [RRc, B0]; try omega
      simp [RRc, B0, k0, k1, k2, k3, k15, k20, k21, k22, k25, k26, k27, k28, k29, k30]; rw [if_neg (by omega), if_neg (by omega), if_neg (by omega)]
    ) (by omega)
  have eT : TT.take 350 = TT := List.take_of_length_le (by rw [TT_l]; decide)
  show WP G δ 0 0 MX9_init 141 [vr 336] [] (TT.take 350, _, hl, _) Q
  rw [eT, all_r gr hr]
  refine al_0 dX9_init_141 ?_
  refine g_X9_7 (337) dX9_init_142 rfl tt336 (rr9_0 tt336) (by omega) ?_
  refine bi_9 dX9_init_145 ?_
  refine si_367 dX9_init_147 ?_
  refine wp_iastore dX9_init_150 tt337 (by omega) (by omega) ?_
  refine al_0 dX9_init_151 ?_
  refine g_X9_7 (337) dX9_init_152 rfl tt336 (rr9_0 tt336) (by omega) ?_
  refine ic_3 dX9_init_155 ?_
  refine ic_m1 dX9_init_156 ?_
  refine wp_iastore dX9_init_157 tt337 (by omega) (by omega) ?_
  refine al_0 dX9_init_158 ?_
  refine g_X9_7 (337) dX9_init_159 rfl tt336 (rr9_0 tt336) (by omega) ?_
  refine al_0 dX9_init_162 ?_
  refine g_X9_13 (338) dX9_init_163 rfl tt336 (rr9_1 tt336) (by omega) ?_
  refine c_X9_65 dX9_init_166 rfl (Nat.le_of_ble_eq_true rfl) (by omega) ?_
  refine wX9_copy (by omega) (Or.inl ⟨rfl, rfl⟩) (fun h1 E1 A1 => ?_)
  refine pv_n ?_
  refine wp_vret dX9_init_169 rfl ?_
  have e1 : ∀ q : Nat, q ≠ 338 → h1 q = _ := fun q hq => E1 q (by simp; omega)
  refine hQ h1 (fun q hq => ?_) ?_ ?_ ?_ ?_ (fun k => ?_) ?_
  · rw [e1 q (by omega)]; funext k; repeat rw [up_o (by omega)]
  · rw [e1 336 (by decide)]; repeat first | rw [up_o (by decide)] | rw [up_k (by decide)]
    exact Z.1 336 (by decide) _
  · rw [e1 336 (by decide)]; repeat first | rw [up_s] | rw [up_o (by decide)] | rw [up_k (by decide)]
  · rw [e1 336 (by decide)]; repeat first | rw [up_s] | rw [up_o (by decide)] | rw [up_k (by decide)]
  · rw [e1 336 (by decide)]; repeat first | rw [up_s] | rw [up_o (by decide)] | rw [up_k (by decide)]
  · rw [e1 337 (by decide)]
    by_cases k3 : k = 3
    · subst k3; rw [up_s]; rfl
    rw [up_k k3, if_neg k3]
    by_cases k9 : k = 9
    · subst k9; rw [up_s]; rfl
    rw [up_k k9, if_neg k9]; repeat rw [up_o (by decide)]
    exact Z.1 337 (by decide) k
  · rw [e1 337 (by decide)]; exact A1
