/-! what is made: the reader, the class, the model -/
set_option maxRecDepth 100000 in
theorem wX2_init {G : GT} {δ : Nat} {h hl : Nat → Int → Int} {r : Nat → Int → Nat} {Q : V → Hp → Prop} (hδ : δ ≤ 1860) (Z : Zn 313 h hl r) (hQ : ∀ (h' : Nat → Int → Int) (r' : Nat → Int → Nat), Gr 313 9 h' hl r r' → (∀ q : Nat, q ≤ 313 → h' q = h q) → h' 314 1 = 0 → h' 314 2 = 0 → Q vn (HB (313 + 9) h' hl r')) : WP G δ 8 1907 MX2_init 0 [vr (313 + 1)] [] (HB (313 + 1) h hl r) Q := by
  have p0 := PR.obj (a := 1000) (b := 1000) Z
  refine al_0 dX2_init_0 ?_
  refine c_X2_3 dX2_init_1 rfl (by simp) (by omega) ?_
  refine al_0 dX2_init_4 ?_
  refine si_300 dX2_init_5 ?_
  refine wp_newaT (kd := 0) (s := 300) p0.1 tt315 dX2_init_8 (by decide) (by omega) (by omega) (by omega) ac_int ?_
  have p1 := p0.arr tt315 (by decide) (by omega) (by omega)
  refine p_X2_9 dX2_init_10 rfl (tyt (by omega) tt314) rfl (by omega) ?_
  have p2 := p1.put (k := 0) (x := 315) (by omega)
  refine al_0 dX2_init_13 ?_
  refine ic_m1 dX2_init_14 ?_
  refine p_X2_15 dX2_init_15 rfl (tyt (by omega) tt314) ?_
  have p3 := p2.hup (o := 314) (k := 4) (x := -1) (by omega)
  refine al_0 dX2_init_18 ?_
  refine wp_newT p3.1 tt316 dX2_init_19 (by decide) cl_X2_19 in_X3 ini_X3 rfl ?_
  refine wp_dup dX2_init_22 rfl ?_
  refine c_X2_21 (mc1 := 3) (ms1 := 696) (mc := 3) (ms := 903) dX2_init_23 rfl (Nat.le_of_ble_eq_true rfl) (by omega) ?_
  refine wX3_init (n := 315) (by omega) p3.1 tt316 tt317 tt318 tt319 (fun r4 G4 => ?_)
  refine pv_n ?_
  have p4 := p3.sub G4 (by omega) (by omega)
  refine p_X2_22 dX2_init_26 rfl (tyt (by omega) tt314) rfl (by omega) ?_
  have p5 := p4.put (k := 5) (x := 316) (by omega)
  refine al_0 dX2_init_29 ?_
  refine si_301 dX2_init_30 ?_
  refine wp_newaT (kd := 0) (s := 301) p5.1 tt320 dX2_init_33 (by decide) (by omega) (by omega) (by omega) ac_int ?_
  have p6 := p5.arr tt320 (by decide) (by omega) (by omega)
  refine p_X2_26 dX2_init_35 rfl (tyt (by omega) tt314) rfl (by omega) ?_
  have p7 := p6.put (k := 6) (x := 320) (by omega)
  refine al_0 dX2_init_38 ?_
  refine si_301 dX2_init_39 ?_
  refine wp_newaT (kd := 0) (s := 301) p7.1 tt321 dX2_init_42 (by decide) (by omega) (by omega) (by omega) ac_int ?_
  have p8 := p7.arr tt321 (by decide) (by omega) (by omega)
  refine p_X2_29 dX2_init_44 rfl (tyt (by omega) tt314) rfl (by omega) ?_
  have p9 := p8.put (k := 7) (x := 321) (by omega)
  refine al_0 dX2_init_47 ?_
  refine si_301 dX2_init_48 ?_
  refine wp_newaT (kd := 0) (s := 301) p9.1 tt322 dX2_init_51 (by decide) (by omega) (by omega) (by omega) ac_int ?_
  have p10 := p9.arr tt322 (by decide) (by omega) (by omega)
  refine p_X2_32 dX2_init_53 rfl (tyt (by omega) tt314) rfl (by omega) ?_
  have p11 := p10.put (k := 8) (x := 322) (by omega)
  refine wp_vret dX2_init_56 rfl ?_
  have gr : Gr 313 9 _ hl r _ := p11.gr (by
      funext k
      rw [RR_c tt314]
      by_cases k8 : k = 8
      · subst k8; simp [RRc, B0]; try omega
      by_cases k7 : k = 7
      · subst k7; simp [RRc, B0]; try omega
      by_cases k6 : k = 6
      · subst k6; simp [RRc, B0]; try omega
      by_cases k5 : k = 5
      · subst k5; simp [RRc, B0]; try omega
      by_cases k0 : k = 0
      · subst k0; simp [RRc, B0]; try omega
      simp [RRc, B0, k0, k5, k6, k7, k8]; try omega
    ) (by omega)
  refine hQ _ _ gr (fun q hq => ?_) ?_ ?_
  · funext k; repeat rw [up_o (by omega)]
  · repeat first | rw [up_o (by decide)] | rw [up_k (by decide)]
    exact Z.1 _ (by omega) _
  · repeat first | rw [up_o (by decide)] | rw [up_k (by decide)]
    exact Z.1 _ (by omega) _
