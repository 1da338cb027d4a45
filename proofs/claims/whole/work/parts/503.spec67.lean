/-! what is made: the reader, the class, the model -/
set_option maxRecDepth 100000 in
theorem wX2_init {G : GT} {δ : Nat} {h hl : Nat → Int → Int} {r : Nat → Int → Nat} {Q : V → Hp → Prop} (hδ : δ ≤ 1860) (Z : Zn 313 h hl r) (hQ : ∀ (h' : Nat → Int → Int) (r' : Nat → Int → Nat), Gr 313 9 h' hl r r' → (∀ q : Nat, q ≤ 313 → h' q = h q) → h' 314 1 = 0 → h' 314 2 = 0 → Q vn (HB (313 + 9) h' hl r')) : WP G δ 8 1907 MX2_init 0 [vr (313 + 1)] [] (HB (313 + 1) h hl r) Q := by
  have p0 := PR.obj (a := 1000) (b := 1000) Z
  refine al_0 dX2_init_0 ?_
  refine c_X2_3 dX2_init_1 rfl (by simp) (by omega) ?_
  refine al_0 dX2_init_4 ?_
  refine si_300 dX2_init_5 ?_
  refine wp_newaT (kd := 0) (s := 300) p0.1 tt315 dX2_init_8 (by decide) (by omega) (by omega) (by omega) ac_int ?_
  have p1 := p0.arr tt315 (by decide) (by omega) (by omega)
  refine p_X2_9 dX2_init_10 rfl (tyt (by omega) tt314) rfl (by omega) ?_
  have p2 := p1.put (k := 0) (x := 315) (by omega)
  refine al_0 dX2_init_13 ?_
  refine ic_m1 dX2_init_14 ?_
  refine p_X2_15 dX2_init_15 rfl (tyt (by omega) tt314) ?_
  have p3 := p2.hup (o := 314) (k := 4) (x := -1) (by omega)
  refine al_0 dX2_init_18 ?_
  refine wp_newT p3.1 tt316 dX2_init_19 (by decide) cl_X2_19 in_X3 ini_X3 rfl ?_
  refine wp_dup dX2_init_22 rfl ?_
  refine c_X2_21 (mc1 := 3) (ms1 := 696) (mc := 3) (ms := 903) dX2_init_23 rfl (Nat.le_of_ble_eq_true rfl) (by omega) ?_
  refine wX3_init (n := 315) (by omega) p3.1 tt316 tt317 tt318 tt319 (fun r4 G4 => ?_)
  refine pv_n ?_
  have p4 := p3.sub G4 (by omega) (by omega)
  refine p_X2_22 dX2_init_26 rfl (tyt (by omega) tt314) rfl (by omega) ?_
  have p5 := p4.put (k := 5) (x := 316) (by omega)
  refine al_0 dX2_init_29 ?_
  refine si_301 dX2_init_30 ?_
  refine wp_newaT (kd := 0) (s := 301) p5.1 tt320 dX2_init_33 (by decide) (by omega) (by omega) (by omega) ac_int ?_
  have p6 := p5.arr tt320 (by decide) (by omega) (by omega)
  refine p_X2_26 dX2_init_35 rfl (tyt (by omega) tt314) rfl (by omega) ?_
  have p7 := p6.put (k := 6) (x := 320) (by omega)
  refine al_0 dX2_init_38 ?_
  refine si_301 dX2_init_39 ?_
  refine wp_newaT (kd := 0) (s := 301) p7.1 tt321 dX2_init_42 (by decide) (by omega) (by omega) (by omega) ac_int ?_
  have p8 := p7.arr tt321 (by decide) (by omega) (by omega)
  refine p_X2_29 dX2_init_44 rfl (tyt (by omega) tt314) rfl (by omega) ?_
  have p9 := p8.put (k := 7) (x := 321) (by omega)
  refine al_0 dX2_init_47 ?_
  refine si_301 dX2_init_48 ?_
  refine wp_newaT (kd := 0) (s := 301) p9.1 tt322 dX2_init_51 (by decide) (by omega) (by omega) (by omega) ac_int ?_
  have p10 := p9.arr tt322 (by decide) (by omega) (by omega)
  refine p_X2_32 dX2_init_53 rfl (tyt (by omega) tt314) rfl (by omega) ?_
  have p11 := p10.put (k := 8) (x := 322) (by omega)
  refine wp_vret dX2_init_56 rfl ?_
  have gr : Gr 313 9 _ hl r _ := p11.gr (by
      funext k
      rw [RR_c tt314]
      by_cases k8 : k = 8
      · subst k8; simp [RRc, B0]; try omega
      by_cases k7 : k = 7
      · subst k7; simp [RRc, B0]; try omega
      by_cases k6 : k = 6
      · subst k6; simp [RRc, B0]; try omega
      by_cases k5 : k = 5
      · subst k5; simp [RRc, B0]; try omega
      by_cases k0 : k = 0
      · subst k0; simp [RRc, B0]; try omega
      simp [RRc, B0, k0, k5, k6, k7, k8]; try omega
    ) (by omega)
  refine hQ _ _ gr (fun q hq => ?_) ?_ ?_
  · funext k; repeat rw [up_o (by omega)]
  · repeat first | rw [up_o (by decide)] | rw [up_k (by decide)]
    exact Z.1 _ (by omega) _
  · repeat first | rw [up_o (by decide)] | rw [up_k (by decide)]
    exact Z.1 _ (by omega) _

set_option maxRecDepth 100000 in
def T8 (h : Nat → Int → Int) : Prop := ((∀ k : Int, h 2 k = if k = 8 then -1 else 0) ∧ (∀ k : Int, h 3 k = if k = 4 then 367 else 0) ∧ ∀ q : Nat, 4 ≤ q → q ≤ 16 → ∀ k : Int, h q k = 0) ∧ ((∀ k : Int, h 158 k = if k = 8 then -1 else 0) ∧ (∀ k : Int, h 159 k = if k = 4 then 367 else 0) ∧ ∀ q : Nat, 160 ≤ q → q ≤ 172 → ∀ k : Int, h q k = 0) ∧ h 314 1 = 0 ∧ h 314 2 = 0 ∧ h 324 0 = 0
theorem wX8_init {G : GT} {δ : Nat} {h hl : Nat → Int → Int} {r : Nat → Int → Nat} {Q : V → Hp → Prop} (hδ : δ ≤ 1840) (Z : Zn 0 h hl r) (hQ : ∀ (h' : Nat → Int → Int) (r' : Nat → Int → Nat), Gr 0 335 h' hl r r' → T8 h' → Q vn (HB (0 + 335) h' hl r')) : WP G δ 334 12334 MX8_init 0 [vr (0 + 1)] [] (HB (0 + 1) h hl r) Q := by
  have p0 := PR.obj (a := 1000) (b := 1000) Z
  refine al_0 dX8_init_0 ?_
  refine c_X8_3 dX8_init_1 rfl (by simp) (by omega) ?_
  refine al_0 dX8_init_4 ?_
  refine wp_newT p0.1 tt2 dX8_init_5 (by decide) cl_X8_9 in_X7 ini_X7 rfl ?_
  refine wp_dup dX8_init_8 rfl ?_
  refine c_X8_11 (mc1 := 155) (ms1 := 4273) (mc := 178) (ms := 8048) dX8_init_9 rfl (Nat.le_of_ble_eq_true rfl) (by omega) ?_
  refine wX7_init (n := 1) (by omega) (by omega) p0.1 (fun h1 r1 G1 F1 => ?_)
  refine pv_n ?_
  have p1 := p0.sub G1 (by omega) (by omega)
  refine p_X8_12 dX8_init_12 rfl (tyt (by omega) tt1) rfl (by omega) ?_
  have p2 := p1.put (k := 0) (x := 2) (by omega)
  refine al_0 dX8_init_15 ?_
  refine wp_newT p2.1 tt158 dX8_init_16 (by decide) cl_X8_9 in_X7 ini_X7 rfl ?_
  refine wp_dup dX8_init_19 rfl ?_
  refine c_X8_11 (mc1 := 155) (ms1 := 4273) (mc := 22) (ms := 3762) dX8_init_20 rfl (Nat.le_of_ble_eq_true rfl) (by omega) ?_
  refine wX7_init (n := 157) (by omega) (by omega) p2.1 (fun h3 r3 G3 F3 => ?_)
  refine pv_n ?_
  have p3 := p2.sub G3 (by omega) (by omega)
  refine p_X8_16 dX8_init_23 rfl (tyt (by omega) tt1) rfl (by omega) ?_
  have p4 := p3.put (k := 1) (x := 158) (by omega)
  refine al_0 dX8_init_26 ?_
  refine wp_newT p4.1 tt314 dX8_init_27 (by decide) cl_X8_19 in_X2 ini_X2 rfl ?_
  refine wp_dup dX8_init_30 rfl ?_
  refine c_X8_21 (mc1 := 8) (ms1 := 1907) (mc := 13) (ms := 1844) dX8_init_31 rfl (Nat.le_of_ble_eq_true rfl) (by omega) ?_
  refine wX2_init (by omega) p4.1 (fun h5 r5 G5 F5 F5a F5b => ?_)
  refine pv_n ?_
  have p5 := p4.sub G5 (by omega) (by omega)
  refine p_X8_22 dX8_init_34 rfl (tyt (by omega) tt1) rfl (by omega) ?_
  have p6 := p5.put (k := 2) (x := 314) (by omega)
  refine al_0 dX8_init_37 ?_
  refine wp_newT p6.1 tt323 dX8_init_38 (by decide) cl_X8_26 in_X4 ini_X4 rfl ?_
  refine wp_dup dX8_init_41 rfl ?_
  refine c_X8_28 (mc1 := 4) (ms1 := 1024) (mc := 8) (ms := 814) dX8_init_42 rfl (Nat.le_of_ble_eq_true rfl) (by omega) ?_
  refine wX4_init (n := 322) (by omega) p6.1 tt323 tt324 tt325 tt326 tt327 (fun r7 G7 => ?_)
  refine pv_n ?_
  have p7 := p6.sub G7 (by omega) (by omega)
  refine p_X8_29 dX8_init_45 rfl (tyt (by omega) tt1) rfl (by omega) ?_
  have p8 := p7.put (k := 3) (x := 323) (by omega)
  refine al_0 dX8_init_48 ?_
  refine wp_newT p8.1 tt328 dX8_init_49 (by decide) cl_X8_33 in_X0 ini_X0 rfl ?_
  refine wp_dup dX8_init_52 rfl ?_
  refine c_X8_35 (mc1 := 3) (ms1 := 768) (mc := 4) (ms := 42) dX8_init_53 rfl (Nat.le_of_ble_eq_true rfl) (by omega) ?_
  refine wX0_init (n := 327) (by omega) p8.1 tt328 tt329 tt330 tt331 (fun r9 G9 => ?_)
  refine pv_n ?_
  have p9 := p8.sub G9 (by omega) (by omega)
  refine p_X8_36 dX8_init_56 rfl (tyt (by omega) tt1) rfl (by omega) ?_
  have p10 := p9.put (k := 4) (x := 328) (by omega)
  refine al_0 dX8_init_59 ?_
  refine wp_newT p10.1 tt332 dX8_init_60 (by decide) cl_X8_40 in_X5 ini_X5 rfl ?_
  refine wp_dup dX8_init_63 rfl ?_
  refine c_X8_42 (mc1 := 3) (ms1 := 33) (mc := 0) (ms := 0) dX8_init_64 rfl (Nat.le_of_ble_eq_true rfl) (by omega) ?_
  refine wX5_init (n := 331) (by omega) p10.1 tt332 tt333 tt334 tt335 (fun r11 G11 => ?_)
  refine pv_n ?_
  have p11 := p10.sub G11 (by omega) (by omega)
  refine p_X8_43 dX8_init_67 rfl (tyt (by omega) tt1) rfl (by omega) ?_
  have p12 := p11.put (k := 5) (x := 332) (by omega)
  refine wp_vret dX8_init_70 rfl ?_
  have gr : Gr 0 335 _ hl r _ := p12.gr (by
      funext k
      rw [RR_c tt1]
      by_cases k5 : k = 5
      · subst k5; simp [RRc, B0]; try omega
      by_cases k4 : k = 4
      · subst k4; simp [RRc, B0]; try omega
      by_cases k3 : k = 3
      · subst k3; simp [RRc, B0]; try omega
      by_cases k2 : k = 2
      · subst k2; simp [RRc, B0]; try omega
      by_cases k1 : k = 1
      · subst k1; simp [RRc, B0]; try omega
      by_cases k0 : k = 0
      · subst k0; simp [RRc, B0]; try omega
      simp [RRc, B0, k0, k1, k2, k3, k4, k5]; try omega
    ) (by omega)
  obtain ⟨ta1, ta2, ta3, ta4⟩ := F1
  obtain ⟨tb1, tb2, tb3, tb4⟩ := F3
  have e5 : ∀ q : Nat, q ≤ 313 → h5 q = h3 q := F5
  refine hQ _ _ gr ⟨⟨fun k => ?_, fun k => ?_, fun q q0 q1 k => ?_⟩, ⟨fun k => ?_, fun k => ?_, fun q q0 q1 k => ?_⟩, ?_, ?_, ?_⟩
  · repeat rw [up_o (by decide)]
    rw [e5 2 (by decide), tb1 2 (by decide)]; exact ta2 k
  · repeat rw [up_o (by decide)]
    rw [e5 3 (by decide), tb1 3 (by decide)]; exact ta3 k
  · repeat rw [up_o (by omega)]
    rw [e5 q (by omega), tb1 q (by omega)]; exact ta4 q (by omega) (by omega) k
  · repeat rw [up_o (by decide)]
    rw [e5 158 (by decide)]; exact tb2 k
  · repeat rw [up_o (by decide)]
    rw [e5 159 (by decide)]; exact tb3 k
  · repeat rw [up_o (by omega)]
    rw [e5 q (by omega)]; exact tb4 q (by omega) (by omega) k
  · repeat rw [up_o (by decide)]
    exact F5a
  · repeat rw [up_o (by decide)]
    exact F5b
  · repeat rw [up_o (by decide)]
    exact G5.1.1 324 (by decide) 0
