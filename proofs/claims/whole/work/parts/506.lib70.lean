/-! the law, whole -/
def zh : Nat → Int → Int := fun _ _ => 0
def zr : Nat → Int → Nat := fun _ _ => 0
theorem Zn_0 : Zn 0 zh zh zr := ⟨fun _ _ _ => rfl, fun _ _ _ => rfl, fun _ _ _ => rfl⟩
theorem T8.c {h h' : Nat → Int → Int} (t : T8 h) (e : ∀ q : Nat, q ≤ 335 → h' q = h q) : T8 h' := by
  obtain ⟨⟨b1, b2, b3⟩, ⟨c1, c2, c3⟩, d1, d2, d3⟩ := t
  refine ⟨⟨by rw [e 2 (by omega)]; exact b1, by rw [e 3 (by omega)]; exact b2, fun q q0 q1 => by rw [e q (by omega)]; exact b3 q q0 q1⟩, ⟨by rw [e 158 (by omega)]; exact c1, by rw [e 159 (by omega)]; exact c2, fun q q0 q1 => by rw [e q (by omega)]; exact c3 q q0 q1⟩, by rw [e 314 (by omega)]; exact d1, by rw [e 314 (by omega)]; exact d2, by rw [e 324 (by omega)]; exact d3⟩
set_option maxRecDepth 100000 in
theorem law_all {G : GT} {δ : Nat} {Q : V → Hp → Prop} (hδ : δ ≤ 700) (hQ : ∀ σ : Hp, Q (vi 1) σ) : WP G δ 350 22230 ML_law 0 [vs 1, vn, vn, vn] [] (HB 0 zh zh zr) Q := by
  refine wp_newT Zn_0 tt1 dL_law_0 (by decide) cl_L_7 in_X8 ini_X8 rfl ?_
  refine wp_dup dL_law_3 rfl ?_
  refine c_L_9 (mc1 := 334) (ms1 := 12334) (mc := 15) (ms := 9890) dL_law_4 rfl (Nat.le_of_ble_eq_true rfl) (by omega) ?_
  refine wX8_init (by omega) Zn_0 (fun h1 r1 G1 T1 => ?_)
  refine pv_n ?_
  refine as_1 dL_law_7 rfl (by decide) ?_
  refine wp_newT G1.1 tt336 dL_law_8 (by decide) cl_L_10 in_X9 ini_X9 rfl ?_
  refine wp_dup dL_law_11 rfl ?_
  refine c_L_12 (mc1 := 14) (ms1 := 9859) (mc := 0) (ms := 0) dL_law_12 rfl (Nat.le_of_ble_eq_true rfl) (by omega) ?_
  refine wX9_init (by omega) G1.1 (fun q hq => ?_) (fun h2 e a4 a5 a6 a23 r ee => ?_)
  · by_cases q0 : q = 0
    · subst q0; rw [G1.2.1 0 (by omega)]; rfl
    · exact G1.2.2 q (by omega) hq
  refine pv_n ?_
  refine as_2 dL_law_15 rfl (by decide) ?_
  refine ic_0 dL_law_16 ?_
  refine is_3 dL_law_17 rfl (by decide) ?_
  exact law_loop (by omega) hQ _ 0 h2 zh B0 R0 R0 (fun _ _ => none) (Nat.lt_succ_self _) (by omega) (by omega) (INV_0 (T1.c e) a4 a5 a6 a23 r ee)
