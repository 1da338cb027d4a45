/-! the law's cases: tape, text, image -/
theorem law_c2a {G : GT} {δ : Nat} {h hl : Nat → Int → Int} {b : Bool × Bool} {Q : V → Hp → Prop} {R I : Int → Int} {L : Laws} {i : Int} (hδ : δ ≤ 800) (V : INV h R I L) (q : h 336 4 ≤ 280) (i0 : 0 ≤ i) (i1 : i + 6 ≤ gL G) (g31 : (gL G : Int) < 2147483648) (go : ∀ (h' hl' : Nat → Int → Int) (b' : Bool × Bool) (R' I' : Int → Int) (L' : Laws), INV h' R' I' L' → WP G δ 0 0 ML_law 1954 [vs 1, vr (1), vr (336), vi i] [] (HS h' hl' b') Q) : WP G δ 0 0 ML_law 328 [vs 1, vr (1), vr (336), vi i] [] (HS h hl b) Q := by
  refine al_1 dL_law_328 ?_
  refine wp_sload1_n dL_law_329 rfl rfl ?_
  refine il_3 dL_law_330 ?_
  refine ic_1 dL_law_331 ?_
  refine wp_iadd dL_law_332 (r32 (by omega) (by omega)) ?_
  refine wp_sld dL_law_333 (by omega) (by omega) ?_
  refine wp_sload1_n dL_law_334 rfl rfl ?_
  refine il_3 dL_law_335 ?_
  refine ic_2 dL_law_336 ?_
  refine wp_iadd dL_law_337 (r32 (by omega) (by omega)) ?_
  refine wp_sld dL_law_338 (by omega) (by omega) ?_
  refine wp_sload1_n dL_law_339 rfl rfl ?_
  refine il_3 dL_law_340 ?_
  refine ic_3 dL_law_341 ?_
  refine wp_iadd dL_law_342 (r32 (by omega) (by omega)) ?_
  refine wp_sld dL_law_343 (by omega) (by omega) ?_
  refine wp_sload1_n dL_law_344 rfl rfl ?_
  refine il_3 dL_law_345 ?_
  refine ic_4 dL_law_346 ?_
  refine wp_iadd dL_law_347 (r32 (by omega) (by omega)) ?_
  refine wp_sld dL_law_348 (by omega) (by omega) ?_
  refine wp_sload1_n dL_law_349 rfl rfl ?_
  refine il_3 dL_law_350 ?_
  refine ic_5 dL_law_351 ?_
  refine wp_iadd dL_law_352 (r32 (by omega) (by omega)) ?_
  refine wp_sld dL_law_353 (by omega) (by omega) ?_
  refine c_L_23 dL_law_354 rfl tt1 (Nat.le_of_ble_eq_true rfl) (by omega) ?_
  refine wX8_feed (by omega) (n0 := h 336 4) V.tp.1 V.tp.2.1 V.tp.2.2.1 (fun z => absurd z (by omega)) (fun _ h1 A1 A2 A3 A4 => ?_)
  refine pv_i ?_
  refine al_2 dL_law_357 ?_
  refine wp_sload1_n dL_law_358 rfl rfl ?_
  refine il_3 dL_law_359 ?_
  refine ic_1 dL_law_360 ?_
  refine wp_iadd dL_law_361 (r32 (by omega) (by omega)) ?_
  refine wp_sld dL_law_362 (by omega) (by omega) ?_
  refine wp_sload1_n dL_law_363 rfl rfl ?_
  refine il_3 dL_law_364 ?_
  refine ic_2 dL_law_365 ?_
  refine wp_iadd dL_law_366 (r32 (by omega) (by omega)) ?_
  refine wp_sld dL_law_367 (by omega) (by omega) ?_
  refine wp_sload1_n dL_law_368 rfl rfl ?_
  refine il_3 dL_law_369 ?_
  refine ic_3 dL_law_370 ?_
  refine wp_iadd dL_law_371 (r32 (by omega) (by omega)) ?_
  refine wp_sld dL_law_372 (by omega) (by omega) ?_
  refine wp_sload1_n dL_law_373 rfl rfl ?_
  refine il_3 dL_law_374 ?_
  refine ic_4 dL_law_375 ?_
  refine wp_iadd dL_law_376 (r32 (by omega) (by omega)) ?_
  refine wp_sld dL_law_377 (by omega) (by omega) ?_
  refine wp_sload1_n dL_law_378 rfl rfl ?_
  refine il_3 dL_law_379 ?_
  refine ic_5 dL_law_380 ?_
  refine wp_iadd dL_law_381 (r32 (by omega) (by omega)) ?_
  refine wp_sld dL_law_382 (by omega) (by omega) ?_
  refine c_L_27 dL_law_383 rfl tt336 (Nat.le_of_ble_eq_true rfl) (by omega) ?_
  refine wX9_feed (by omega) (n0 := h 336 4) (by rw [A1 336 (by decide) (by decide)]) V.tp.2.1 V.tp.2.2.1 (fun z => absurd z (by omega)) (fun _ h2 B1 B2 B3 B4 => ?_)
  have V2 : INV h2 R I L := V.fd q A1 A2 A3 A4 B1 B2 B3 B4
  refine pv_i ?_
  refine wp_icmp_eq 1954 dL_law_386 rfl (fun c386 => ?_) (fun c386 => ?_)
  · exact go _ _ _ _ _ _ V2
  · exact absurd rfl c386

theorem law_c2b {G : GT} {δ : Nat} {h hl : Nat → Int → Int} {b : Bool × Bool} {Q : V → Hp → Prop} {R I : Int → Int} {L : Laws} {i : Int} (hδ : δ ≤ 800) (V : INV h R I L) (q : 280 < h 336 4) (i0 : 0 ≤ i) (i1 : i + 6 ≤ gL G) (g31 : (gL G : Int) < 2147483648) (go : ∀ (h' hl' : Nat → Int → Int) (b' : Bool × Bool) (R' I' : Int → Int) (L' : Laws), INV h' R' I' L' → WP G δ 0 0 ML_law 1954 [vs 1, vr (1), vr (336), vi i] [] (HS h' hl' b') Q) : WP G δ 0 0 ML_law 328 [vs 1, vr (1), vr (336), vi i] [] (HS h hl b) Q := by
  refine al_1 dL_law_328 ?_
  refine wp_sload1_n dL_law_329 rfl rfl ?_
  refine il_3 dL_law_330 ?_
  refine ic_1 dL_law_331 ?_
  refine wp_iadd dL_law_332 (r32 (by omega) (by omega)) ?_
  refine wp_sld dL_law_333 (by omega) (by omega) ?_
  refine wp_sload1_n dL_law_334 rfl rfl ?_
  refine il_3 dL_law_335 ?_
  refine ic_2 dL_law_336 ?_
  refine wp_iadd dL_law_337 (r32 (by omega) (by omega)) ?_
  refine wp_sld dL_law_338 (by omega) (by omega) ?_
  refine wp_sload1_n dL_law_339 rfl rfl ?_
  refine il_3 dL_law_340 ?_
  refine ic_3 dL_law_341 ?_
  refine wp_iadd dL_law_342 (r32 (by omega) (by omega)) ?_
  refine wp_sld dL_law_343 (by omega) (by omega) ?_
  refine wp_sload1_n dL_law_344 rfl rfl ?_
  refine il_3 dL_law_345 ?_
  refine ic_4 dL_law_346 ?_
  refine wp_iadd dL_law_347 (r32 (by omega) (by omega)) ?_
  refine wp_sld dL_law_348 (by omega) (by omega) ?_
  refine wp_sload1_n dL_law_349 rfl rfl ?_
  refine il_3 dL_law_350 ?_
  refine ic_5 dL_law_351 ?_
  refine wp_iadd dL_law_352 (r32 (by omega) (by omega)) ?_
  refine wp_sld dL_law_353 (by omega) (by omega) ?_
  refine c_L_23 dL_law_354 rfl tt1 (Nat.le_of_ble_eq_true rfl) (by omega) ?_
  refine wX8_feed (by omega) (n0 := h 336 4) V.tp.1 V.tp.2.1 V.tp.2.2.1 (fun _ => ?_) (fun z => absurd z (by omega))
  refine pv_i ?_
  refine al_2 dL_law_357 ?_
  refine wp_sload1_n dL_law_358 rfl rfl ?_
  refine il_3 dL_law_359 ?_
  refine ic_1 dL_law_360 ?_
  refine wp_iadd dL_law_361 (r32 (by omega) (by omega)) ?_
  refine wp_sld dL_law_362 (by omega) (by omega) ?_
  refine wp_sload1_n dL_law_363 rfl rfl ?_
  refine il_3 dL_law_364 ?_
  refine ic_2 dL_law_365 ?_
  refine wp_iadd dL_law_366 (r32 (by omega) (by omega)) ?_
  refine wp_sld dL_law_367 (by omega) (by omega) ?_
  refine wp_sload1_n dL_law_368 rfl rfl ?_
  refine il_3 dL_law_369 ?_
  refine ic_3 dL_law_370 ?_
  refine wp_iadd dL_law_371 (r32 (by omega) (by omega)) ?_
  refine wp_sld dL_law_372 (by omega) (by omega) ?_
  refine wp_sload1_n dL_law_373 rfl rfl ?_
  refine il_3 dL_law_374 ?_
  refine ic_4 dL_law_375 ?_
  refine wp_iadd dL_law_376 (r32 (by omega) (by omega)) ?_
  refine wp_sld dL_law_377 (by omega) (by omega) ?_
  refine wp_sload1_n dL_law_378 rfl rfl ?_
  refine il_3 dL_law_379 ?_
  refine ic_5 dL_law_380 ?_
  refine wp_iadd dL_law_381 (r32 (by omega) (by omega)) ?_
  refine wp_sld dL_law_382 (by omega) (by omega) ?_
  refine c_L_27 dL_law_383 rfl tt336 (Nat.le_of_ble_eq_true rfl) (by omega) ?_
  refine wX9_feed (by omega) (n0 := h 336 4) rfl V.tp.2.1 V.tp.2.2.1 (fun _ => ?_) (fun z => absurd z (by omega))
  refine pv_i ?_
  refine wp_icmp_eq 1954 dL_law_386 rfl (fun c386 => ?_) (fun c386 => ?_)
  · exact go _ _ _ _ _ _ V
  · exact absurd rfl c386

theorem law_c3a {G : GT} {δ : Nat} {h hl : Nat → Int → Int} {b : Bool × Bool} {Q : V → Hp → Prop} {R I : Int → Int} {L : Laws} {i : Int} (hδ : δ ≤ 800) (V : INV h R I L) (q : 0 ≤ (gx G (i + 1).toNat) ∧ (gx G (i + 1).toNat) ≤ h 336 4) (i0 : 0 ≤ i) (i1 : i + 6 ≤ gL G) (g31 : (gL G : Int) < 2147483648) (go : ∀ (h' hl' : Nat → Int → Int) (b' : Bool × Bool) (R' I' : Int → Int) (L' : Laws), INV h' R' I' L' → WP G δ 0 0 ML_law 1954 [vs 1, vr (1), vr (336), vi i] [] (HS h' hl' b') Q) : WP G δ 0 0 ML_law 391 [vs 1, vr (1), vr (336), vi i] [] (HS h hl b) Q := by
  refine al_1 dL_law_391 ?_
  refine wp_sload1_n dL_law_392 rfl rfl ?_
  refine il_3 dL_law_393 ?_
  refine ic_1 dL_law_394 ?_
  refine wp_iadd dL_law_395 (r32 (by omega) (by omega)) ?_
  refine wp_sld dL_law_396 (by omega) (by omega) ?_
  refine c_L_28 dL_law_397 rfl tt1 (Nat.le_of_ble_eq_true rfl) (by omega) ?_
  refine wX8_end (by omega) (n0 := h 336 4) V.tp.1 (fun z => absurd q z) (fun _ => ?_)
  refine pv_i ?_
  refine al_2 dL_law_400 ?_
  refine wp_sload1_n dL_law_401 rfl rfl ?_
  refine il_3 dL_law_402 ?_
  refine ic_1 dL_law_403 ?_
  refine wp_iadd dL_law_404 (r32 (by omega) (by omega)) ?_
  refine wp_sld dL_law_405 (by omega) (by omega) ?_
  refine c_L_31 dL_law_406 rfl tt336 (Nat.le_of_ble_eq_true rfl) (by omega) ?_
  refine wX9_end (by omega) (n0 := h 336 4) (by rw [up_o (by decide)]) (fun z => absurd q z) (fun _ => ?_)
  have V2 := V.en q
  refine pv_i ?_
  refine wp_icmp_eq 1954 dL_law_409 rfl (fun c409 => ?_) (fun c409 => ?_)
  · exact go _ _ _ _ _ _ V2
  · exact absurd rfl c409

theorem law_c3b {G : GT} {δ : Nat} {h hl : Nat → Int → Int} {b : Bool × Bool} {Q : V → Hp → Prop} {R I : Int → Int} {L : Laws} {i : Int} (hδ : δ ≤ 800) (V : INV h R I L) (q : ¬ (0 ≤ (gx G (i + 1).toNat) ∧ (gx G (i + 1).toNat) ≤ h 336 4)) (i0 : 0 ≤ i) (i1 : i + 6 ≤ gL G) (g31 : (gL G : Int) < 2147483648) (go : ∀ (h' hl' : Nat → Int → Int) (b' : Bool × Bool) (R' I' : Int → Int) (L' : Laws), INV h' R' I' L' → WP G δ 0 0 ML_law 1954 [vs 1, vr (1), vr (336), vi i] [] (HS h' hl' b') Q) : WP G δ 0 0 ML_law 391 [vs 1, vr (1), vr (336), vi i] [] (HS h hl b) Q := by
  refine al_1 dL_law_391 ?_
  refine wp_sload1_n dL_law_392 rfl rfl ?_
  refine il_3 dL_law_393 ?_
  refine ic_1 dL_law_394 ?_
  refine wp_iadd dL_law_395 (r32 (by omega) (by omega)) ?_
  refine wp_sld dL_law_396 (by omega) (by omega) ?_
  refine c_L_28 dL_law_397 rfl tt1 (Nat.le_of_ble_eq_true rfl) (by omega) ?_
  refine wX8_end (by omega) (n0 := h 336 4) V.tp.1 (fun _ => ?_) (fun z => absurd z q)
  refine pv_i ?_
  refine al_2 dL_law_400 ?_
  refine wp_sload1_n dL_law_401 rfl rfl ?_
  refine il_3 dL_law_402 ?_
  refine ic_1 dL_law_403 ?_
  refine wp_iadd dL_law_404 (r32 (by omega) (by omega)) ?_
  refine wp_sld dL_law_405 (by omega) (by omega) ?_
  refine c_L_31 dL_law_406 rfl tt336 (Nat.le_of_ble_eq_true rfl) (by omega) ?_
  refine wX9_end (by omega) (n0 := h 336 4) rfl (fun _ => ?_) (fun z => absurd z q)
  refine pv_i ?_
  refine wp_icmp_eq 1954 dL_law_409 rfl (fun c409 => ?_) (fun c409 => ?_)
  · exact go _ _ _ _ _ _ V
  · exact absurd rfl c409

theorem law_c4a {G : GT} {δ : Nat} {h hl : Nat → Int → Int} {b : Bool × Bool} {Q : V → Hp → Prop} {R I : Int → Int} {L : Laws} {i : Int} (hδ : δ ≤ 800) (V : INV h R I L) (q : R 2 = 4) (i0 : 0 ≤ i) (i1 : i + 6 ≤ gL G) (g31 : (gL G : Int) < 2147483648) (go : ∀ (h' hl' : Nat → Int → Int) (b' : Bool × Bool) (R' I' : Int → Int) (L' : Laws), INV h' R' I' L' → WP G δ 0 0 ML_law 1954 [vs 1, vr (1), vr (336), vi i] [] (HS h' hl' b') Q) : WP G δ 0 0 ML_law 414 [vs 1, vr (1), vr (336), vi i] [] (HS h hl b) Q := by
  refine al_1 dL_law_414 ?_
  refine c_L_32 dL_law_415 rfl tt1 (Nat.le_of_ble_eq_true rfl) (by omega) ?_
  refine wX8_text (by omega) V.2.1 rfl rfl (by rw [V.tp.1]; exact V.by.1) (fun _ => ?_) (fun z => absurd z (by omega))
  refine pv_i ?_
  refine al_2 dL_law_418 ?_
  refine c_L_36 dL_law_419 rfl tt336 (Nat.le_of_ble_eq_true rfl) (by omega) ?_
  refine wX9_text (n := 301) (by omega) rfl rfl V.by.2.1 (TkE_ex V.tp.2.1 V.tp.2.2.1) (k := R 2) (by rw [V.1]) V.V.n.2.2.1.1 V.V.n.2.2.1.2 (fun _ => ?_) (fun z => absurd z (by omega))
  refine pv_i ?_
  refine wp_icmp_eq 1954 dL_law_422 rfl (fun c422 => ?_) (fun c422 => ?_)
  · exact go _ _ _ _ _ _ V
  · exact absurd rfl c422

theorem law_c4b {G : GT} {δ : Nat} {h hl : Nat → Int → Int} {b : Bool × Bool} {Q : V → Hp → Prop} {R I : Int → Int} {L : Laws} {i : Int} (hδ : δ ≤ 800) (V : INV h R I L) (q : R 2 < 4) {e : Int × Int} (hr : rdP (kF (h 340) (h 336 4)) (vF (h 340) (h 336 4)) 301 0 st0 = .inl e) (i0 : 0 ≤ i) (i1 : i + 6 ≤ gL G) (g31 : (gL G : Int) < 2147483648) (go : ∀ (h' hl' : Nat → Int → Int) (b' : Bool × Bool) (R' I' : Int → Int) (L' : Laws), INV h' R' I' L' → WP G δ 0 0 ML_law 1954 [vs 1, vr (1), vr (336), vi i] [] (HS h' hl' b') Q) : WP G δ 0 0 ML_law 414 [vs 1, vr (1), vr (336), vi i] [] (HS h hl b) Q := by
  refine al_1 dL_law_414 ?_
  refine c_L_32 dL_law_415 rfl tt1 (Nat.le_of_ble_eq_true rfl) (by omega) ?_
  refine wX8_text (N := h 336 4) (T := h 315) (by omega) V.2.1 V.tp.1 rfl V.by.1 (fun z => absurd z (by omega)) (fun _ => ?_)
  rw [kF_c V.by.2.2 V.tp.2.1, vF_c V.by.2.2 V.tp.2.1, hr]
  rw [pF_c V.by.2.2 V.tp.2.1]
  intro h1 E1 z1 z2 z3 z4 z5
  refine pv_i ?_
  refine al_2 dL_law_418 ?_
  refine c_L_36 dL_law_419 rfl tt336 (Nat.le_of_ble_eq_true rfl) (by omega) ?_
  have m : ∀ o : Nat, 322 < o → h1 o = h o := fun o ho => E1.1 o (by omega) (by omega) (by omega)
  refine wX9_text (N := h 336 4) (T := h 340) (n := 301) (by omega) (by rw [m 336 (by decide)]) (m 340 (by decide)) V.by.2.1 (TkE_ex V.tp.2.1 V.tp.2.2.1) (k := R 2) (by rw [m 337 (by decide), V.1]) V.V.n.2.2.1.1 V.V.n.2.2.1.2 (fun z => absurd z (by omega)) (fun _ => ?_)
  rw [hr]
  intro h2 hl2 X m7 m4 m5 m6 m1
  have V2 : INV h2 R I L := V.tx0 q E1 z1 z2 z3 z4 z5 X m7 m4 m5 m6
  refine pv_i ?_
  refine wp_icmp_eq 1954 dL_law_422 rfl (fun c422 => ?_) (fun c422 => ?_)
  · exact go _ _ _ _ _ _ V2
  · exact absurd rfl c422

theorem law_c4c {G : GT} {δ : Nat} {h hl : Nat → Int → Int} {b : Bool × Bool} {Q : V → Hp → Prop} {R I : Int → Int} {L : Laws} {i : Int} (hδ : δ ≤ 800) (V : INV h R I L) (q : R 2 < 4) {st : RSt} (hr : rdP (kF (h 340) (h 336 4)) (vF (h 340) (h 336 4)) 301 0 st0 = .inr st) (i0 : 0 ≤ i) (i1 : i + 6 ≤ gL G) (g31 : (gL G : Int) < 2147483648) (go : ∀ (h' hl' : Nat → Int → Int) (b' : Bool × Bool) (R' I' : Int → Int) (L' : Laws), INV h' R' I' L' → WP G δ 0 0 ML_law 1954 [vs 1, vr (1), vr (336), vi i] [] (HS h' hl' b') Q) : WP G δ 0 0 ML_law 414 [vs 1, vr (1), vr (336), vi i] [] (HS h hl b) Q := by
  refine al_1 dL_law_414 ?_
  refine c_L_32 dL_law_415 rfl tt1 (Nat.le_of_ble_eq_true rfl) (by omega) ?_
  refine wX8_text (N := h 336 4) (T := h 315) (by omega) V.2.1 V.tp.1 rfl V.by.1 (fun z => absurd z (by omega)) (fun _ => ?_)
  rw [kF_c V.by.2.2 V.tp.2.1, vF_c V.by.2.2 V.tp.2.1, hr]
  intro h1 E1 z1 z2 z3 z4 z5 D1 S1
  refine pv_i ?_
  refine al_2 dL_law_418 ?_
  refine c_L_36 dL_law_419 rfl tt336 (Nat.le_of_ble_eq_true rfl) (by omega) ?_
  have m : ∀ o : Nat, 322 < o → h1 o = h o := fun o ho => E1.1 o (by omega) (by omega) (by omega)
  refine wX9_text (N := h 336 4) (T := h 340) (n := 301) (by omega) (by rw [m 336 (by decide)]) (m 340 (by decide)) V.by.2.1 (TkE_ex V.tp.2.1 V.tp.2.2.1) (k := R 2) (by rw [m 337 (by decide), V.1]) V.V.n.2.2.1.1 V.V.n.2.2.1.2 (fun z => absurd z (by omega)) (fun _ => ?_)
  rw [hr]
  intro h2 hl2 X m7 m4 m5 m6 Mo
  have V2 : INV h2 (rTxt R) I (Lx R L st) := V.tx1 q hr E1 z1 z2 z3 z4 z5 D1 S1 X m7 m4 m5 m6 Mo
  refine pv_i ?_
  refine wp_icmp_eq 1954 dL_law_422 rfl (fun c422 => ?_) (fun c422 => ?_)
  · exact go _ _ _ _ _ _ V2
  · exact absurd rfl c422

theorem law_c5 {G : GT} {δ : Nat} {h hl : Nat → Int → Int} {b : Bool × Bool} {Q : V → Hp → Prop} {R I : Int → Int} {L : Laws} {i : Int} (hδ : δ ≤ 800) (V : INV h R I L) (i0 : 0 ≤ i) (i1 : i + 6 ≤ gL G) (g31 : (gL G : Int) < 2147483648) (go : ∀ (h' hl' : Nat → Int → Int) (b' : Bool × Bool) (R' I' : Int → Int) (L' : Laws), INV h' R' I' L' → WP G δ 0 0 ML_law 1954 [vs 1, vr (1), vr (336), vi i] [] (HS h' hl' b') Q) : WP G δ 0 0 ML_law 427 [vs 1, vr (1), vr (336), vi i] [] (HS h hl b) Q := by
  refine al_1 dL_law_427 ?_
  refine wp_sload1_n dL_law_428 rfl rfl ?_
  refine il_3 dL_law_429 ?_
  refine ic_1 dL_law_430 ?_
  refine wp_iadd dL_law_431 (r32 (by omega) (by omega)) ?_
  refine wp_sld dL_law_432 (by omega) (by omega) ?_
  refine c_L_37 dL_law_433 rfl tt1 (Nat.le_of_ble_eq_true rfl) (by omega) ?_
  refine wX8_fault (by omega) V.fp ?_
  refine pv_i ?_
  refine al_2 dL_law_436 ?_
  refine wp_sload1_n dL_law_437 rfl rfl ?_
  refine il_3 dL_law_438 ?_
  refine ic_1 dL_law_439 ?_
  refine wp_iadd dL_law_440 (r32 (by omega) (by omega)) ?_
  refine wp_sld dL_law_441 (by omega) (by omega) ?_
  refine c_L_40 dL_law_442 rfl tt336 (Nat.le_of_ble_eq_true rfl) (by omega) ?_
  refine wX9_fault (by omega) ?_
  refine pv_i ?_
  refine wp_icmp_eq 1954 dL_law_445 rfl (fun c445 => ?_) (fun c445 => ?_)
  · exact go _ _ _ _ _ _ V
  · exact absurd rfl c445

theorem law_c11 {G : GT} {δ : Nat} {h hl : Nat → Int → Int} {b : Bool × Bool} {Q : V → Hp → Prop} {R I : Int → Int} {L : Laws} {i : Int} (hδ : δ ≤ 800) (V : INV h R I L) (i0 : 0 ≤ i) (i1 : i + 6 ≤ gL G) (g31 : (gL G : Int) < 2147483648) (go : ∀ (h' hl' : Nat → Int → Int) (b' : Bool × Bool) (R' I' : Int → Int) (L' : Laws), INV h' R' I' L' → WP G δ 0 0 ML_law 1954 [vs 1, vr (1), vr (336), vi i] [] (HS h' hl' b') Q) : WP G δ 0 0 ML_law 595 [vs 1, vr (1), vr (336), vi i] [] (HS h hl b) Q := by
  refine al_1 dL_law_595 ?_
  refine wp_sload1_n dL_law_596 rfl rfl ?_
  refine il_3 dL_law_597 ?_
  refine ic_1 dL_law_598 ?_
  refine wp_iadd dL_law_599 (r32 (by omega) (by omega)) ?_
  refine wp_sld dL_law_600 (by omega) (by omega) ?_
  refine c_L_64 dL_law_601 rfl tt1 (Nat.le_of_ble_eq_true rfl) (by omega) ?_
  refine wX8_played (by omega) V.2.1 V.cl (fun h1 E1 C1 => ?_)
  have M1 : MT h1 R L := V.M.o (E1 337 (by omega)) (E1 339 (by omega))
  refine pv_i ?_
  refine al_2 dL_law_604 ?_
  refine wp_sload1_n dL_law_605 rfl rfl ?_
  refine il_3 dL_law_606 ?_
  refine ic_1 dL_law_607 ?_
  refine wp_iadd dL_law_608 (r32 (by omega) (by omega)) ?_
  refine wp_sld dL_law_609 (by omega) (by omega) ?_
  refine c_L_67 dL_law_610 rfl tt336 (Nat.le_of_ble_eq_true rfl) (by omega) ?_
  refine wX9_played (by omega) M1 (E1 339 (by omega)) (by rw [E1 336 (by omega)]; exact V.w1) (V.ok (h1 := h1) (E1 339 (by omega))) (fun h2 hl2 E2 M2 => ?_)
  refine pv_i ?_
  refine wp_icmp_eq 1954 dL_law_613 rfl (fun c613 => ?_) (fun c613 => ?_)
  · exact go _ _ _ _ _ _ (V.st C1 M2.1 (k2_played V.2.2.1 V.V).2 (k2_played V.2.2.1 V.V).1 E1 E2.1 E2.2)
  · exact absurd rfl c613

theorem law_c20 {G : GT} {δ : Nat} {h hl : Nat → Int → Int} {b : Bool × Bool} {Q : V → Hp → Prop} {R I : Int → Int} {L : Laws} {i : Int} (hδ : δ ≤ 800) (V : INV h R I L) (i0 : 0 ≤ i) (i1 : i + 6 ≤ gL G) (g31 : (gL G : Int) < 2147483648) (go : ∀ (h' hl' : Nat → Int → Int) (b' : Bool × Bool) (R' I' : Int → Int) (L' : Laws), INV h' R' I' L' → WP G δ 0 0 ML_law 1954 [vs 1, vr (1), vr (336), vi i] [] (HS h' hl' b') Q) : WP G δ 0 0 ML_law 852 [vs 1, vr (1), vr (336), vi i] [] (HS h hl b) Q := by
  refine al_1 dL_law_852 ?_
  refine wp_sload1_n dL_law_853 rfl rfl ?_
  refine il_3 dL_law_854 ?_
  refine ic_1 dL_law_855 ?_
  refine wp_iadd dL_law_856 (r32 (by omega) (by omega)) ?_
  refine wp_sld dL_law_857 (by omega) (by omega) ?_
  refine wp_sload1_n dL_law_858 rfl rfl ?_
  refine il_3 dL_law_859 ?_
  refine ic_2 dL_law_860 ?_
  refine wp_iadd dL_law_861 (r32 (by omega) (by omega)) ?_
  refine wp_sld dL_law_862 (by omega) (by omega) ?_
  refine c_L_100 dL_law_863 rfl tt1 (Nat.le_of_ble_eq_true rfl) (by omega) ?_
  refine wX8_foretold (by omega) V.2.1 (fun h1 E1 C1 => ?_)
  have M1 : MT h1 R L := V.M.o (E1 337 (by omega)) (E1 339 (by omega))
  refine pv_i ?_
  refine al_2 dL_law_866 ?_
  refine wp_sload1_n dL_law_867 rfl rfl ?_
  refine il_3 dL_law_868 ?_
  refine ic_1 dL_law_869 ?_
  refine wp_iadd dL_law_870 (r32 (by omega) (by omega)) ?_
  refine wp_sld dL_law_871 (by omega) (by omega) ?_
  refine wp_sload1_n dL_law_872 rfl rfl ?_
  refine il_3 dL_law_873 ?_
  refine ic_2 dL_law_874 ?_
  refine wp_iadd dL_law_875 (r32 (by omega) (by omega)) ?_
  refine wp_sld dL_law_876 (by omega) (by omega) ?_
  refine c_L_103 dL_law_877 rfl tt336 (Nat.le_of_ble_eq_true rfl) (by omega) ?_
  refine wX9_foretold (by omega) M1 (by rw [E1 336 (by omega)]; exact V.w1) (fun h2 hl2 E2 M2 => ?_)
  refine pv_i ?_
  refine wp_icmp_eq 1954 dL_law_880 rfl (fun c880 => ?_) (fun c880 => ?_)
  · exact go _ _ _ _ _ _ (V.st2 C1 M2.1 V.2.2.1 rfl (fun o ho => E1 o (by omega)) (fun o ho => E2.1 o (by simp; omega)) E2.2)
  · exact absurd rfl c880

theorem law_c53 {G : GT} {δ : Nat} {h hl : Nat → Int → Int} {b : Bool × Bool} {Q : V → Hp → Prop} {R I : Int → Int} {L : Laws} {i : Int} (hδ : δ ≤ 800) (V : INV h R I L) (i0 : 0 ≤ i) (i1 : i + 6 ≤ gL G) (g31 : (gL G : Int) < 2147483648) (go : ∀ (h' hl' : Nat → Int → Int) (b' : Bool × Bool) (R' I' : Int → Int) (L' : Laws), INV h' R' I' L' → WP G δ 0 0 ML_law 1954 [vs 1, vr (1), vr (336), vi i] [] (HS h' hl' b') Q) : WP G δ 0 0 ML_law 1905 [vs 1, vr (1), vr (336), vi i] [] (HS h hl b) Q := by
  refine al_1 dL_law_1905 ?_
  refine c_L_238 dL_law_1906 rfl tt1 (Nat.le_of_ble_eq_true rfl) (by omega) ?_
  refine wX8_image (by omega) V.2.1 V.cl (fun h1 E1 P1 W1 D1 => ?_)
  have M1 : MT h1 R L := V.M.o (E1 337 (by omega)) (E1 339 (by omega))
  refine pv_i ?_
  refine al_2 dL_law_1909 ?_
  refine c_L_241 dL_law_1910 rfl tt336 (Nat.le_of_ble_eq_true rfl) (by omega) ?_
  refine wX9_image (by omega) M1 (fun h2 E2 q2 => ?_)
  refine pv_i ?_
  refine wp_icmp_eq 1954 dL_law_1913 rfl (fun c1913 => ?_) (fun c1913 => ?_)
  · exact go _ _ _ _ _ _ (V.im E1 P1 W1 D1 E2 q2)
  · exact absurd rfl c1913

theorem law_c54 {G : GT} {δ : Nat} {h hl : Nat → Int → Int} {b : Bool × Bool} {Q : V → Hp → Prop} {R I : Int → Int} {L : Laws} {i : Int} (hδ : δ ≤ 800) (V : INV h R I L) (i0 : 0 ≤ i) (i1 : i + 6 ≤ gL G) (g31 : (gL G : Int) < 2147483648) (go : ∀ (h' hl' : Nat → Int → Int) (b' : Bool × Bool) (R' I' : Int → Int) (L' : Laws), INV h' R' I' L' → WP G δ 0 0 ML_law 1954 [vs 1, vr (1), vr (336), vi i] [] (HS h' hl' b') Q) : WP G δ 0 0 ML_law 1918 [vs 1, vr (1), vr (336), vi i] [] (HS h hl b) Q := by
  refine al_1 dL_law_1918 ?_
  refine c_L_242 dL_law_1919 rfl tt1 (Nat.le_of_ble_eq_true rfl) (by omega) ?_
  refine wX8_back (by omega) V.2.2.2.1.2.2.2.1 V.2.2.2.1.2.1 V.2.2.2.1.2.2.2.2.1 V.2.2.2.1.2.2.2.2.2.1 (fun h1 E1 C1 D1 => ?_)
  refine pv_i ?_
  refine al_2 dL_law_1922 ?_
  refine c_L_245 dL_law_1923 rfl tt336 (Nat.le_of_ble_eq_true rfl) (by omega) ?_
  refine wX9_back (by omega) (fun h2 E2 q2 => ?_)
  rw [show h1 338 8 = I 8 by rw [E1 338 (by omega)]; exact V.2.2.2.1.1 8 (by omega) (by omega)]
  refine pv_i ?_
  refine wp_icmp_eq 1954 dL_law_1926 rfl (fun c1926 => ?_) (fun c1926 => ?_)
  · exact go _ _ _ _ _ _ (V.bk E1 C1 D1 E2 q2)
  · exact absurd rfl c1926

theorem law_c55 {G : GT} {δ : Nat} {h hl : Nat → Int → Int} {b : Bool × Bool} {Q : V → Hp → Prop} {R I : Int → Int} {L : Laws} {i : Int} (hδ : δ ≤ 800) (V : INV h R I L) (i0 : 0 ≤ i) (i1 : i + 6 ≤ gL G) (g31 : (gL G : Int) < 2147483648) (go : ∀ (h' hl' : Nat → Int → Int) (b' : Bool × Bool) (R' I' : Int → Int) (L' : Laws), INV h' R' I' L' → WP G δ 0 0 ML_law 1954 [vs 1, vr (1), vr (336), vi i] [] (HS h' hl' b') Q) : WP G δ 0 0 ML_law 1931 [vs 1, vr (1), vr (336), vi i] [] (HS h hl b) Q := by
  refine al_1 dL_law_1931 ?_
  refine wp_sload1_n dL_law_1932 rfl rfl ?_
  refine il_3 dL_law_1933 ?_
  refine ic_1 dL_law_1934 ?_
  refine wp_iadd dL_law_1935 (r32 (by omega) (by omega)) ?_
  refine wp_sld dL_law_1936 (by omega) (by omega) ?_
  refine c_L_246 dL_law_1937 rfl tt1 (Nat.le_of_ble_eq_true rfl) (by omega) ?_
  refine wX8_about (by omega) V.2.1 ?_
  rw [V.tp.1]
  refine pv_i ?_
  refine al_2 dL_law_1940 ?_
  refine wp_sload1_n dL_law_1941 rfl rfl ?_
  refine il_3 dL_law_1942 ?_
  refine ic_1 dL_law_1943 ?_
  refine wp_iadd dL_law_1944 (r32 (by omega) (by omega)) ?_
  refine wp_sld dL_law_1945 (by omega) (by omega) ?_
  refine c_L_249 dL_law_1946 rfl tt336 (Nat.le_of_ble_eq_true rfl) (by omega) ?_
  refine wX9_about (by omega) V.M ?_
  refine pv_i ?_
  refine wp_icmp_eq 1954 dL_law_1949 rfl (fun c1949 => ?_) (fun c1949 => ?_)
  · exact go _ _ _ _ _ _ V
  · exact absurd rfl c1949

theorem law_c2 {G : GT} {δ : Nat} {h hl : Nat → Int → Int} {b : Bool × Bool} {Q : V → Hp → Prop} {R I : Int → Int} {L : Laws} {i : Int} (hδ : δ ≤ 800) (V : INV h R I L) (i0 : 0 ≤ i) (i1 : i + 6 ≤ gL G) (g31 : (gL G : Int) < 2147483648) (go : ∀ (h' hl' : Nat → Int → Int) (b' : Bool × Bool) (R' I' : Int → Int) (L' : Laws), INV h' R' I' L' → WP G δ 0 0 ML_law 1954 [vs 1, vr (1), vr (336), vi i] [] (HS h' hl' b') Q) : WP G δ 0 0 ML_law 328 [vs 1, vr (1), vr (336), vi i] [] (HS h hl b) Q := by
  by_cases q : h 336 4 ≤ 280
  · exact law_c2a hδ V q i0 i1 g31 go
  · exact law_c2b hδ V (by omega) i0 i1 g31 go

theorem law_c3 {G : GT} {δ : Nat} {h hl : Nat → Int → Int} {b : Bool × Bool} {Q : V → Hp → Prop} {R I : Int → Int} {L : Laws} {i : Int} (hδ : δ ≤ 800) (V : INV h R I L) (i0 : 0 ≤ i) (i1 : i + 6 ≤ gL G) (g31 : (gL G : Int) < 2147483648) (go : ∀ (h' hl' : Nat → Int → Int) (b' : Bool × Bool) (R' I' : Int → Int) (L' : Laws), INV h' R' I' L' → WP G δ 0 0 ML_law 1954 [vs 1, vr (1), vr (336), vi i] [] (HS h' hl' b') Q) : WP G δ 0 0 ML_law 391 [vs 1, vr (1), vr (336), vi i] [] (HS h hl b) Q := by
  by_cases q : 0 ≤ (gx G (i + 1).toNat) ∧ (gx G (i + 1).toNat) ≤ h 336 4
  · exact law_c3a hδ V q i0 i1 g31 go
  · exact law_c3b hδ V q i0 i1 g31 go

theorem law_c4 {G : GT} {δ : Nat} {h hl : Nat → Int → Int} {b : Bool × Bool} {Q : V → Hp → Prop} {R I : Int → Int} {L : Laws} {i : Int} (hδ : δ ≤ 800) (V : INV h R I L) (i0 : 0 ≤ i) (i1 : i + 6 ≤ gL G) (g31 : (gL G : Int) < 2147483648) (go : ∀ (h' hl' : Nat → Int → Int) (b' : Bool × Bool) (R' I' : Int → Int) (L' : Laws), INV h' R' I' L' → WP G δ 0 0 ML_law 1954 [vs 1, vr (1), vr (336), vi i] [] (HS h' hl' b') Q) : WP G δ 0 0 ML_law 414 [vs 1, vr (1), vr (336), vi i] [] (HS h hl b) Q := by
  have n := V.V.n
  by_cases q : R 2 = 4
  · exact law_c4a hδ V q i0 i1 g31 go
  cases hr : rdP (kF (h 340) (h 336 4)) (vF (h 340) (h 336 4)) 301 0 st0 with
  | inl e => exact law_c4b hδ V (by omega) hr i0 i1 g31 go
  | inr st => exact law_c4c hδ V (by omega) hr i0 i1 g31 go
