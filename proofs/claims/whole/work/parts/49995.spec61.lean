/-! the law's cases -/
theorem INV.i1c {h : Nat → Int → Int} {R I : Int → Int} {L : Laws} (V : INV h R I L) : h 159 1 = I 10 := V.2.2.2.1.2.2.2.1.1.2.2.2.1
theorem INV.i3c {h : Nat → Int → Int} {R I : Int → Int} {L : Laws} (V : INV h R I L) : h 338 10 = I 10 := V.2.2.2.1.1 10 (by omega) (by omega)

theorem law_c0 {G : GT} {δ : Nat} {h hl : Nat → Int → Int} {b : Bool × Bool} {Q : V → Hp → Prop} {R I : Int → Int} {L : Laws} {i : Int} (hδ : δ ≤ 800) (V : INV h R I L) (i0 : 0 ≤ i) (i1 : i + 6 ≤ gL G) (g31 : (gL G : Int) < 2147483648) (go : ∀ (h' hl' : Nat → Int → Int) (b' : Bool × Bool) (R' I' : Int → Int) (L' : Laws), INV h' R' I' L' → WP G δ 0 0 ML_law 1954 [vs 1, vr (1), vr (336), vi i] [] (HS h' hl' b') Q) : WP G δ 0 0 ML_law 272 [vs 1, vr (1), vr (336), vi i] [] (HS h hl b) Q := by
  refine al_1 dL_law_272 ?_
  refine wp_sload1_n dL_law_273 rfl rfl ?_
  refine il_3 dL_law_274 ?_
  refine ic_1 dL_law_275 ?_
  refine wp_iadd dL_law_276 (r32 (by omega) (by omega)) ?_
  refine wp_sld dL_law_277 (by omega) (by omega) ?_
  refine wp_sload1_n dL_law_278 rfl rfl ?_
  refine il_3 dL_law_279 ?_
  refine ic_2 dL_law_280 ?_
  refine wp_iadd dL_law_281 (r32 (by omega) (by omega)) ?_
  refine wp_sld dL_law_282 (by omega) (by omega) ?_
  refine c_L_13 dL_law_283 rfl tt1 (Nat.le_of_ble_eq_true rfl) (by omega) ?_
  refine wX8_person (by omega) V.2.1 (fun h1 E1 C1 => ?_)
  have M1 : MT h1 R L := V.M.o (E1 337 (by omega)) (E1 339 (by omega))
  refine pv_i ?_
  refine al_2 dL_law_286 ?_
  refine wp_sload1_n dL_law_287 rfl rfl ?_
  refine il_3 dL_law_288 ?_
  refine ic_1 dL_law_289 ?_
  refine wp_iadd dL_law_290 (r32 (by omega) (by omega)) ?_
  refine wp_sld dL_law_291 (by omega) (by omega) ?_
  refine wp_sload1_n dL_law_292 rfl rfl ?_
  refine il_3 dL_law_293 ?_
  refine ic_2 dL_law_294 ?_
  refine wp_iadd dL_law_295 (r32 (by omega) (by omega)) ?_
  refine wp_sld dL_law_296 (by omega) (by omega) ?_
  refine c_L_17 dL_law_297 rfl tt336 (Nat.le_of_ble_eq_true rfl) (by omega) ?_
  refine uX9_person (by omega) M1 (fun h2 hl2 E2 M2 => ?_)
  refine pv_i ?_
  refine wp_icmp_eq 1954 dL_law_300 rfl (fun c300 => ?_) (fun c300 => ?_)
  · exact go _ _ _ _ _ _ (V.st C1 M2.1 (T_per V.2.2.1 V.V) (k2_per V.V) E1 E2.1 E2.2)
  · exact absurd rfl c300

theorem law_c1 {G : GT} {δ : Nat} {h hl : Nat → Int → Int} {b : Bool × Bool} {Q : V → Hp → Prop} {R I : Int → Int} {L : Laws} {i : Int} (hδ : δ ≤ 800) (V : INV h R I L) (i0 : 0 ≤ i) (i1 : i + 6 ≤ gL G) (g31 : (gL G : Int) < 2147483648) (go : ∀ (h' hl' : Nat → Int → Int) (b' : Bool × Bool) (R' I' : Int → Int) (L' : Laws), INV h' R' I' L' → WP G δ 0 0 ML_law 1954 [vs 1, vr (1), vr (336), vi i] [] (HS h' hl' b') Q) : WP G δ 0 0 ML_law 305 [vs 1, vr (1), vr (336), vi i] [] (HS h hl b) Q := by
  refine al_1 dL_law_305 ?_
  refine wp_sload1_n dL_law_306 rfl rfl ?_
  refine il_3 dL_law_307 ?_
  refine ic_1 dL_law_308 ?_
  refine wp_iadd dL_law_309 (r32 (by omega) (by omega)) ?_
  refine wp_sld dL_law_310 (by omega) (by omega) ?_
  refine c_L_18 dL_law_311 rfl tt1 (Nat.le_of_ble_eq_true rfl) (by omega) ?_
  refine wX8_dispute (by omega) V.2.1 (fun h1 E1 C1 => ?_)
  have M1 : MT h1 R L := V.M.o (E1 337 (by omega)) (E1 339 (by omega))
  refine pv_i ?_
  refine al_2 dL_law_314 ?_
  refine wp_sload1_n dL_law_315 rfl rfl ?_
  refine il_3 dL_law_316 ?_
  refine ic_1 dL_law_317 ?_
  refine wp_iadd dL_law_318 (r32 (by omega) (by omega)) ?_
  refine wp_sld dL_law_319 (by omega) (by omega) ?_
  refine c_L_22 dL_law_320 rfl tt336 (Nat.le_of_ble_eq_true rfl) (by omega) ?_
  refine uX9_dispute (by omega) M1 (fun h2 hl2 E2 M2 => ?_)
  refine pv_i ?_
  refine wp_icmp_eq 1954 dL_law_323 rfl (fun c323 => ?_) (fun c323 => ?_)
  · exact go _ _ _ _ _ _ (V.st C1 M2.1 (T_dis V.2.2.1 V.V) (k2_dis V.V) E1 E2.1 E2.2)
  · exact absurd rfl c323

theorem law_c6 {G : GT} {δ : Nat} {h hl : Nat → Int → Int} {b : Bool × Bool} {Q : V → Hp → Prop} {R I : Int → Int} {L : Laws} {i : Int} (hδ : δ ≤ 800) (V : INV h R I L) (i0 : 0 ≤ i) (i1 : i + 6 ≤ gL G) (g31 : (gL G : Int) < 2147483648) (go : ∀ (h' hl' : Nat → Int → Int) (b' : Bool × Bool) (R' I' : Int → Int) (L' : Laws), INV h' R' I' L' → WP G δ 0 0 ML_law 1954 [vs 1, vr (1), vr (336), vi i] [] (HS h' hl' b') Q) : WP G δ 0 0 ML_law 450 [vs 1, vr (1), vr (336), vi i] [] (HS h hl b) Q := by
  refine al_1 dL_law_450 ?_
  refine wp_sload1_n dL_law_451 rfl rfl ?_
  refine il_3 dL_law_452 ?_
  refine ic_1 dL_law_453 ?_
  refine wp_iadd dL_law_454 (r32 (by omega) (by omega)) ?_
  refine wp_sld dL_law_455 (by omega) (by omega) ?_
  refine c_L_41 dL_law_456 rfl tt1 (Nat.le_of_ble_eq_true rfl) (by omega) ?_
  refine wX8_by (by omega) V.2.1 (fun h1 E1 C1 => ?_)
  have M1 : MT h1 R L := V.M.o (E1 337 (by omega)) (E1 339 (by omega))
  refine pv_i ?_
  refine al_2 dL_law_459 ?_
  refine wp_sload1_n dL_law_460 rfl rfl ?_
  refine il_3 dL_law_461 ?_
  refine ic_1 dL_law_462 ?_
  refine wp_iadd dL_law_463 (r32 (by omega) (by omega)) ?_
  refine wp_sld dL_law_464 (by omega) (by omega) ?_
  refine c_L_45 dL_law_465 rfl tt336 (Nat.le_of_ble_eq_true rfl) (by omega) ?_
  refine wX9_by (by omega) M1 (fun h2 hl2 E2 M2 => ?_)
  refine pv_i ?_
  refine wp_icmp_eq 1954 dL_law_468 rfl (fun c468 => ?_) (fun c468 => ?_)
  · exact go _ _ _ _ _ _ (V.st C1 M2.1 (T_by V.2.2.1 V.V) (k2_by V.V) E1 E2.1 E2.2)
  · exact absurd rfl c468

theorem law_c7 {G : GT} {δ : Nat} {h hl : Nat → Int → Int} {b : Bool × Bool} {Q : V → Hp → Prop} {R I : Int → Int} {L : Laws} {i : Int} (hδ : δ ≤ 800) (V : INV h R I L) (i0 : 0 ≤ i) (i1 : i + 6 ≤ gL G) (g31 : (gL G : Int) < 2147483648) (go : ∀ (h' hl' : Nat → Int → Int) (b' : Bool × Bool) (R' I' : Int → Int) (L' : Laws), INV h' R' I' L' → WP G δ 0 0 ML_law 1954 [vs 1, vr (1), vr (336), vi i] [] (HS h' hl' b') Q) : WP G δ 0 0 ML_law 473 [vs 1, vr (1), vr (336), vi i] [] (HS h hl b) Q := by
  refine al_1 dL_law_473 ?_
  refine wp_sload1_n dL_law_474 rfl rfl ?_
  refine il_3 dL_law_475 ?_
  refine ic_1 dL_law_476 ?_
  refine wp_iadd dL_law_477 (r32 (by omega) (by omega)) ?_
  refine wp_sld dL_law_478 (by omega) (by omega) ?_
  refine wp_sload1_n dL_law_479 rfl rfl ?_
  refine il_3 dL_law_480 ?_
  refine ic_2 dL_law_481 ?_
  refine wp_iadd dL_law_482 (r32 (by omega) (by omega)) ?_
  refine wp_sld dL_law_483 (by omega) (by omega) ?_
  refine wp_sload1_n dL_law_484 rfl rfl ?_
  refine il_3 dL_law_485 ?_
  refine ic_3 dL_law_486 ?_
  refine wp_iadd dL_law_487 (r32 (by omega) (by omega)) ?_
  refine wp_sld dL_law_488 (by omega) (by omega) ?_
  refine c_L_46 dL_law_489 rfl tt1 (Nat.le_of_ble_eq_true rfl) (by omega) ?_
  refine wX8_argue (by omega) V.2.1 (fun h1 E1 C1 => ?_)
  have M1 : MT h1 R L := V.M.o (E1 337 (by omega)) (E1 339 (by omega))
  refine pv_i ?_
  refine al_2 dL_law_492 ?_
  refine wp_sload1_n dL_law_493 rfl rfl ?_
  refine il_3 dL_law_494 ?_
  refine ic_1 dL_law_495 ?_
  refine wp_iadd dL_law_496 (r32 (by omega) (by omega)) ?_
  refine wp_sld dL_law_497 (by omega) (by omega) ?_
  refine wp_sload1_n dL_law_498 rfl rfl ?_
  refine il_3 dL_law_499 ?_
  refine ic_2 dL_law_500 ?_
  refine wp_iadd dL_law_501 (r32 (by omega) (by omega)) ?_
  refine wp_sld dL_law_502 (by omega) (by omega) ?_
  refine wp_sload1_n dL_law_503 rfl rfl ?_
  refine il_3 dL_law_504 ?_
  refine ic_3 dL_law_505 ?_
  refine wp_iadd dL_law_506 (r32 (by omega) (by omega)) ?_
  refine wp_sld dL_law_507 (by omega) (by omega) ?_
  refine c_L_50 dL_law_508 rfl tt336 (Nat.le_of_ble_eq_true rfl) (by omega) ?_
  refine uX9_argue (by omega) M1 (by rw [E1 336 (by omega)]; exact V.w1) (fun h2 hl2 E2 M2 => ?_)
  refine pv_i ?_
  refine wp_icmp_eq 1954 dL_law_511 rfl (fun c511 => ?_) (fun c511 => ?_)
  · exact go _ _ _ _ _ _ (V.st C1 M2.1 (T_arg V.2.2.1 V.V) ((k2_arg V.V).1) E1 E2.1 E2.2)
  · exact absurd rfl c511

theorem law_c8 {G : GT} {δ : Nat} {h hl : Nat → Int → Int} {b : Bool × Bool} {Q : V → Hp → Prop} {R I : Int → Int} {L : Laws} {i : Int} (hδ : δ ≤ 800) (V : INV h R I L) (i0 : 0 ≤ i) (i1 : i + 6 ≤ gL G) (g31 : (gL G : Int) < 2147483648) (go : ∀ (h' hl' : Nat → Int → Int) (b' : Bool × Bool) (R' I' : Int → Int) (L' : Laws), INV h' R' I' L' → WP G δ 0 0 ML_law 1954 [vs 1, vr (1), vr (336), vi i] [] (HS h' hl' b') Q) : WP G δ 0 0 ML_law 516 [vs 1, vr (1), vr (336), vi i] [] (HS h hl b) Q := by
  refine al_1 dL_law_516 ?_
  refine wp_sload1_n dL_law_517 rfl rfl ?_
  refine il_3 dL_law_518 ?_
  refine ic_1 dL_law_519 ?_
  refine wp_iadd dL_law_520 (r32 (by omega) (by omega)) ?_
  refine wp_sld dL_law_521 (by omega) (by omega) ?_
  refine wp_sload1_n dL_law_522 rfl rfl ?_
  refine il_3 dL_law_523 ?_
  refine ic_2 dL_law_524 ?_
  refine wp_iadd dL_law_525 (r32 (by omega) (by omega)) ?_
  refine wp_sld dL_law_526 (by omega) (by omega) ?_
  refine c_L_51 dL_law_527 rfl tt1 (Nat.le_of_ble_eq_true rfl) (by omega) ?_
  refine wX8_pour (by omega) V.2.1 (fun h1 E1 C1 => ?_)
  have M1 : MT h1 R L := V.M.o (E1 337 (by omega)) (E1 339 (by omega))
  refine pv_i ?_
  refine al_2 dL_law_530 ?_
  refine wp_sload1_n dL_law_531 rfl rfl ?_
  refine il_3 dL_law_532 ?_
  refine ic_1 dL_law_533 ?_
  refine wp_iadd dL_law_534 (r32 (by omega) (by omega)) ?_
  refine wp_sld dL_law_535 (by omega) (by omega) ?_
  refine wp_sload1_n dL_law_536 rfl rfl ?_
  refine il_3 dL_law_537 ?_
  refine ic_2 dL_law_538 ?_
  refine wp_iadd dL_law_539 (r32 (by omega) (by omega)) ?_
  refine wp_sld dL_law_540 (by omega) (by omega) ?_
  refine c_L_55 dL_law_541 rfl tt336 (Nat.le_of_ble_eq_true rfl) (by omega) ?_
  refine uX9_pour (by omega) M1 (by rw [E1 336 (by omega)]; exact V.w1) (fun h2 hl2 E2 M2 => ?_)
  refine pv_i ?_
  refine wp_icmp_eq 1954 dL_law_544 rfl (fun c544 => ?_) (fun c544 => ?_)
  · exact go _ _ _ _ _ _ (V.st C1 M2.1 (T_pour V.2.2.1 V.V) ((k2_pour V.V).1) E1 E2.1 E2.2)
  · exact absurd rfl c544

theorem law_c9 {G : GT} {δ : Nat} {h hl : Nat → Int → Int} {b : Bool × Bool} {Q : V → Hp → Prop} {R I : Int → Int} {L : Laws} {i : Int} (hδ : δ ≤ 800) (V : INV h R I L) (i0 : 0 ≤ i) (i1 : i + 6 ≤ gL G) (g31 : (gL G : Int) < 2147483648) (go : ∀ (h' hl' : Nat → Int → Int) (b' : Bool × Bool) (R' I' : Int → Int) (L' : Laws), INV h' R' I' L' → WP G δ 0 0 ML_law 1954 [vs 1, vr (1), vr (336), vi i] [] (HS h' hl' b') Q) : WP G δ 0 0 ML_law 549 [vs 1, vr (1), vr (336), vi i] [] (HS h hl b) Q := by
  refine al_1 dL_law_549 ?_
  refine wp_sload1_n dL_law_550 rfl rfl ?_
  refine il_3 dL_law_551 ?_
  refine ic_1 dL_law_552 ?_
  refine wp_iadd dL_law_553 (r32 (by omega) (by omega)) ?_
  refine wp_sld dL_law_554 (by omega) (by omega) ?_
  refine c_L_56 dL_law_555 rfl tt1 (Nat.le_of_ble_eq_true rfl) (by omega) ?_
  refine wX8_snuff (by omega) V.2.1 (fun h1 E1 C1 => ?_)
  have M1 : MT h1 R L := V.M.o (E1 337 (by omega)) (E1 339 (by omega))
  refine pv_i ?_
  refine al_2 dL_law_558 ?_
  refine wp_sload1_n dL_law_559 rfl rfl ?_
  refine il_3 dL_law_560 ?_
  refine ic_1 dL_law_561 ?_
  refine wp_iadd dL_law_562 (r32 (by omega) (by omega)) ?_
  refine wp_sld dL_law_563 (by omega) (by omega) ?_
  refine c_L_59 dL_law_564 rfl tt336 (Nat.le_of_ble_eq_true rfl) (by omega) ?_
  refine uX9_snuff (by omega) M1 (by rw [E1 336 (by omega)]; exact V.w1) (fun h2 hl2 E2 M2 => ?_)
  refine pv_i ?_
  refine wp_icmp_eq 1954 dL_law_567 rfl (fun c567 => ?_) (fun c567 => ?_)
  · exact go _ _ _ _ _ _ (V.st C1 M2.1 (T_snuff V.2.2.1 V.V) ((k2_snuff V.V).1) E1 E2.1 E2.2)
  · exact absurd rfl c567

theorem law_c10 {G : GT} {δ : Nat} {h hl : Nat → Int → Int} {b : Bool × Bool} {Q : V → Hp → Prop} {R I : Int → Int} {L : Laws} {i : Int} (hδ : δ ≤ 800) (V : INV h R I L) (i0 : 0 ≤ i) (i1 : i + 6 ≤ gL G) (g31 : (gL G : Int) < 2147483648) (go : ∀ (h' hl' : Nat → Int → Int) (b' : Bool × Bool) (R' I' : Int → Int) (L' : Laws), INV h' R' I' L' → WP G δ 0 0 ML_law 1954 [vs 1, vr (1), vr (336), vi i] [] (HS h' hl' b') Q) : WP G δ 0 0 ML_law 572 [vs 1, vr (1), vr (336), vi i] [] (HS h hl b) Q := by
  refine al_1 dL_law_572 ?_
  refine wp_sload1_n dL_law_573 rfl rfl ?_
  refine il_3 dL_law_574 ?_
  refine ic_1 dL_law_575 ?_
  refine wp_iadd dL_law_576 (r32 (by omega) (by omega)) ?_
  refine wp_sld dL_law_577 (by omega) (by omega) ?_
  refine c_L_60 dL_law_578 rfl tt1 (Nat.le_of_ble_eq_true rfl) (by omega) ?_
  refine wX8_night (by omega) V.2.1 (fun h1 E1 C1 => ?_)
  have M1 : MT h1 R L := V.M.o (E1 337 (by omega)) (E1 339 (by omega))
  refine pv_i ?_
  refine al_2 dL_law_581 ?_
  refine wp_sload1_n dL_law_582 rfl rfl ?_
  refine il_3 dL_law_583 ?_
  refine ic_1 dL_law_584 ?_
  refine wp_iadd dL_law_585 (r32 (by omega) (by omega)) ?_
  refine wp_sld dL_law_586 (by omega) (by omega) ?_
  refine c_L_63 dL_law_587 rfl tt336 (Nat.le_of_ble_eq_true rfl) (by omega) ?_
  refine uX9_night (by omega) M1 (by rw [E1 336 (by omega)]; exact V.w1) (fun h2 hl2 E2 M2 => ?_)
  refine pv_i ?_
  refine wp_icmp_eq 1954 dL_law_590 rfl (fun c590 => ?_) (fun c590 => ?_)
  · exact go _ _ _ _ _ _ (V.st C1 M2.1 (T_night V.2.2.1 V.V) (k2_night V.V) E1 E2.1 E2.2)
  · exact absurd rfl c590

theorem law_c12 {G : GT} {δ : Nat} {h hl : Nat → Int → Int} {b : Bool × Bool} {Q : V → Hp → Prop} {R I : Int → Int} {L : Laws} {i : Int} (hδ : δ ≤ 800) (V : INV h R I L) (i0 : 0 ≤ i) (i1 : i + 6 ≤ gL G) (g31 : (gL G : Int) < 2147483648) (go : ∀ (h' hl' : Nat → Int → Int) (b' : Bool × Bool) (R' I' : Int → Int) (L' : Laws), INV h' R' I' L' → WP G δ 0 0 ML_law 1954 [vs 1, vr (1), vr (336), vi i] [] (HS h' hl' b') Q) : WP G δ 0 0 ML_law 618 [vs 1, vr (1), vr (336), vi i] [] (HS h hl b) Q := by
  refine al_1 dL_law_618 ?_
  refine wp_sload1_n dL_law_619 rfl rfl ?_
  refine il_3 dL_law_620 ?_
  refine ic_1 dL_law_621 ?_
  refine wp_iadd dL_law_622 (r32 (by omega) (by omega)) ?_
  refine wp_sld dL_law_623 (by omega) (by omega) ?_
  refine wp_sload1_n dL_law_624 rfl rfl ?_
  refine il_3 dL_law_625 ?_
  refine ic_2 dL_law_626 ?_
  refine wp_iadd dL_law_627 (r32 (by omega) (by omega)) ?_
  refine wp_sld dL_law_628 (by omega) (by omega) ?_
  refine c_L_68 dL_law_629 rfl tt1 (Nat.le_of_ble_eq_true rfl) (by omega) ?_
  refine wX8_years (by omega) V.2.1 (fun h1 E1 C1 => ?_)
  have M1 : MT h1 R L := V.M.o (E1 337 (by omega)) (E1 339 (by omega))
  refine pv_i ?_
  refine al_2 dL_law_632 ?_
  refine wp_sload1_n dL_law_633 rfl rfl ?_
  refine il_3 dL_law_634 ?_
  refine ic_1 dL_law_635 ?_
  refine wp_iadd dL_law_636 (r32 (by omega) (by omega)) ?_
  refine wp_sld dL_law_637 (by omega) (by omega) ?_
  refine wp_sload1_n dL_law_638 rfl rfl ?_
  refine il_3 dL_law_639 ?_
  refine ic_2 dL_law_640 ?_
  refine wp_iadd dL_law_641 (r32 (by omega) (by omega)) ?_
  refine wp_sld dL_law_642 (by omega) (by omega) ?_
  refine c_L_71 dL_law_643 rfl tt336 (Nat.le_of_ble_eq_true rfl) (by omega) ?_
  refine uX9_years (by omega) M1 (by rw [E1 336 (by omega)]; exact V.w1) (fun h2 hl2 E2 M2 => ?_)
  refine pv_i ?_
  refine wp_icmp_eq 1954 dL_law_646 rfl (fun c646 => ?_) (fun c646 => ?_)
  · exact go _ _ _ _ _ _ (V.st C1 M2.1 (T_years V.2.2.1 V.V) (k2_years V.V) E1 E2.1 E2.2)
  · exact absurd rfl c646

theorem law_c13 {G : GT} {δ : Nat} {h hl : Nat → Int → Int} {b : Bool × Bool} {Q : V → Hp → Prop} {R I : Int → Int} {L : Laws} {i : Int} (hδ : δ ≤ 800) (V : INV h R I L) (i0 : 0 ≤ i) (i1 : i + 6 ≤ gL G) (g31 : (gL G : Int) < 2147483648) (go : ∀ (h' hl' : Nat → Int → Int) (b' : Bool × Bool) (R' I' : Int → Int) (L' : Laws), INV h' R' I' L' → WP G δ 0 0 ML_law 1954 [vs 1, vr (1), vr (336), vi i] [] (HS h' hl' b') Q) : WP G δ 0 0 ML_law 651 [vs 1, vr (1), vr (336), vi i] [] (HS h hl b) Q := by
  refine al_1 dL_law_651 ?_
  refine c_L_72 dL_law_652 rfl tt1 (Nat.le_of_ble_eq_true rfl) (by omega) ?_
  refine wX8_undo (by omega) V.2.1 V.2.2.1 (fun h1 E1 C1 => ?_)
  have M1 : MT h1 R L := V.M.o (E1 337 (by omega)) (E1 339 (by omega))
  refine pv_i ?_
  refine al_2 dL_law_655 ?_
  refine c_L_75 dL_law_656 rfl tt336 (Nat.le_of_ble_eq_true rfl) (by omega) ?_
  refine uX9_undo (by omega) M1 (fun h2 hl2 E2 M2 => ?_)
  refine pv_i ?_
  refine wp_icmp_eq 1954 dL_law_659 rfl (fun c659 => ?_) (fun c659 => ?_)
  · exact go _ _ _ _ _ _ (V.st C1 M2.1 (T_undo V.2.2.1 V.V) (k2_undo V.V) E1 E2.1 E2.2)
  · exact absurd rfl c659

theorem law_c14 {G : GT} {δ : Nat} {h hl : Nat → Int → Int} {b : Bool × Bool} {Q : V → Hp → Prop} {R I : Int → Int} {L : Laws} {i : Int} (hδ : δ ≤ 800) (V : INV h R I L) (i0 : 0 ≤ i) (i1 : i + 6 ≤ gL G) (g31 : (gL G : Int) < 2147483648) (go : ∀ (h' hl' : Nat → Int → Int) (b' : Bool × Bool) (R' I' : Int → Int) (L' : Laws), INV h' R' I' L' → WP G δ 0 0 ML_law 1954 [vs 1, vr (1), vr (336), vi i] [] (HS h' hl' b') Q) : WP G δ 0 0 ML_law 664 [vs 1, vr (1), vr (336), vi i] [] (HS h hl b) Q := by
  refine al_1 dL_law_664 ?_
  refine wp_sload1_n dL_law_665 rfl rfl ?_
  refine il_3 dL_law_666 ?_
  refine ic_1 dL_law_667 ?_
  refine wp_iadd dL_law_668 (r32 (by omega) (by omega)) ?_
  refine wp_sld dL_law_669 (by omega) (by omega) ?_
  refine wp_sload1_n dL_law_670 rfl rfl ?_
  refine il_3 dL_law_671 ?_
  refine ic_2 dL_law_672 ?_
  refine wp_iadd dL_law_673 (r32 (by omega) (by omega)) ?_
  refine wp_sld dL_law_674 (by omega) (by omega) ?_
  refine c_L_76 dL_law_675 rfl tt1 (Nat.le_of_ble_eq_true rfl) (by omega) ?_
  refine wX8_of (by omega) V.2.1 ?_
  refine pv_i ?_
  refine al_2 dL_law_678 ?_
  refine wp_sload1_n dL_law_679 rfl rfl ?_
  refine il_3 dL_law_680 ?_
  refine ic_1 dL_law_681 ?_
  refine wp_iadd dL_law_682 (r32 (by omega) (by omega)) ?_
  refine wp_sld dL_law_683 (by omega) (by omega) ?_
  refine wp_sload1_n dL_law_684 rfl rfl ?_
  refine il_3 dL_law_685 ?_
  refine ic_2 dL_law_686 ?_
  refine wp_iadd dL_law_687 (r32 (by omega) (by omega)) ?_
  refine wp_sld dL_law_688 (by omega) (by omega) ?_
  refine c_L_79 dL_law_689 rfl tt336 (Nat.le_of_ble_eq_true rfl) (by omega) ?_
  refine wX9_of (by omega) V.M ?_
  refine pv_i ?_
  refine wp_icmp_eq 1954 dL_law_692 rfl (fun c692 => ?_) (fun c692 => ?_)
  · exact go _ _ _ _ _ _ V
  · exact absurd rfl c692

theorem law_c15 {G : GT} {δ : Nat} {h hl : Nat → Int → Int} {b : Bool × Bool} {Q : V → Hp → Prop} {R I : Int → Int} {L : Laws} {i : Int} (hδ : δ ≤ 800) (V : INV h R I L) (i0 : 0 ≤ i) (i1 : i + 6 ≤ gL G) (g31 : (gL G : Int) < 2147483648) (go : ∀ (h' hl' : Nat → Int → Int) (b' : Bool × Bool) (R' I' : Int → Int) (L' : Laws), INV h' R' I' L' → WP G δ 0 0 ML_law 1954 [vs 1, vr (1), vr (336), vi i] [] (HS h' hl' b') Q) : WP G δ 0 0 ML_law 697 [vs 1, vr (1), vr (336), vi i] [] (HS h hl b) Q := by
  refine al_1 dL_law_697 ?_
  refine wp_sload1_n dL_law_698 rfl rfl ?_
  refine il_3 dL_law_699 ?_
  refine ic_1 dL_law_700 ?_
  refine wp_iadd dL_law_701 (r32 (by omega) (by omega)) ?_
  refine wp_sld dL_law_702 (by omega) (by omega) ?_
  refine c_L_80 dL_law_703 rfl tt1 (Nat.le_of_ble_eq_true rfl) (by omega) ?_
  refine wX8_lamps (by omega) V.2.1 ?_
  refine pv_i ?_
  refine al_2 dL_law_706 ?_
  refine wp_sload1_n dL_law_707 rfl rfl ?_
  refine il_3 dL_law_708 ?_
  refine ic_1 dL_law_709 ?_
  refine wp_iadd dL_law_710 (r32 (by omega) (by omega)) ?_
  refine wp_sld dL_law_711 (by omega) (by omega) ?_
  refine c_L_83 dL_law_712 rfl tt336 (Nat.le_of_ble_eq_true rfl) (by omega) ?_
  refine wX9_lamps (by omega) V.M ?_
  refine pv_i ?_
  refine wp_icmp_eq 1954 dL_law_715 rfl (fun c715 => ?_) (fun c715 => ?_)
  · exact go _ _ _ _ _ _ V
  · exact absurd rfl c715

theorem law_c16 {G : GT} {δ : Nat} {h hl : Nat → Int → Int} {b : Bool × Bool} {Q : V → Hp → Prop} {R I : Int → Int} {L : Laws} {i : Int} (hδ : δ ≤ 800) (V : INV h R I L) (i0 : 0 ≤ i) (i1 : i + 6 ≤ gL G) (g31 : (gL G : Int) < 2147483648) (go : ∀ (h' hl' : Nat → Int → Int) (b' : Bool × Bool) (R' I' : Int → Int) (L' : Laws), INV h' R' I' L' → WP G δ 0 0 ML_law 1954 [vs 1, vr (1), vr (336), vi i] [] (HS h' hl' b') Q) : WP G δ 0 0 ML_law 720 [vs 1, vr (1), vr (336), vi i] [] (HS h hl b) Q := by
  refine al_1 dL_law_720 ?_
  refine wp_sload1_n dL_law_721 rfl rfl ?_
  refine il_3 dL_law_722 ?_
  refine ic_1 dL_law_723 ?_
  refine wp_iadd dL_law_724 (r32 (by omega) (by omega)) ?_
  refine wp_sld dL_law_725 (by omega) (by omega) ?_
  refine c_L_84 dL_law_726 rfl tt1 (Nat.le_of_ble_eq_true rfl) (by omega) ?_
  refine wX8_is (by omega) V.2.1 ?_
  refine pv_i ?_
  refine al_2 dL_law_729 ?_
  refine wp_sload1_n dL_law_730 rfl rfl ?_
  refine il_3 dL_law_731 ?_
  refine ic_1 dL_law_732 ?_
  refine wp_iadd dL_law_733 (r32 (by omega) (by omega)) ?_
  refine wp_sld dL_law_734 (by omega) (by omega) ?_
  refine c_L_87 dL_law_735 rfl tt336 (Nat.le_of_ble_eq_true rfl) (by omega) ?_
  refine wX9_is (by omega) V.M ?_
  refine pv_i ?_
  refine wp_icmp_eq 1954 dL_law_738 rfl (fun c738 => ?_) (fun c738 => ?_)
  · exact go _ _ _ _ _ _ V
  · exact absurd rfl c738

theorem law_c17 {G : GT} {δ : Nat} {h hl : Nat → Int → Int} {b : Bool × Bool} {Q : V → Hp → Prop} {R I : Int → Int} {L : Laws} {i : Int} (hδ : δ ≤ 800) (V : INV h R I L) (i0 : 0 ≤ i) (i1 : i + 6 ≤ gL G) (g31 : (gL G : Int) < 2147483648) (go : ∀ (h' hl' : Nat → Int → Int) (b' : Bool × Bool) (R' I' : Int → Int) (L' : Laws), INV h' R' I' L' → WP G δ 0 0 ML_law 1954 [vs 1, vr (1), vr (336), vi i] [] (HS h' hl' b') Q) : WP G δ 0 0 ML_law 743 [vs 1, vr (1), vr (336), vi i] [] (HS h hl b) Q := by
  refine al_1 dL_law_743 ?_
  refine wp_sload1_n dL_law_744 rfl rfl ?_
  refine il_3 dL_law_745 ?_
  refine ic_1 dL_law_746 ?_
  refine wp_iadd dL_law_747 (r32 (by omega) (by omega)) ?_
  refine wp_sld dL_law_748 (by omega) (by omega) ?_
  refine wp_sload1_n dL_law_749 rfl rfl ?_
  refine il_3 dL_law_750 ?_
  refine ic_2 dL_law_751 ?_
  refine wp_iadd dL_law_752 (r32 (by omega) (by omega)) ?_
  refine wp_sld dL_law_753 (by omega) (by omega) ?_
  refine wp_sload1_n dL_law_754 rfl rfl ?_
  refine il_3 dL_law_755 ?_
  refine ic_3 dL_law_756 ?_
  refine wp_iadd dL_law_757 (r32 (by omega) (by omega)) ?_
  refine wp_sld dL_law_758 (by omega) (by omega) ?_
  refine c_L_88 dL_law_759 rfl tt1 (Nat.le_of_ble_eq_true rfl) (by omega) ?_
  refine wX8_loses (by omega) V.2.1 (fun h1 E1 => ?_)
  have V1 : INV h1 R I L := V.lk (fun o ho => E1 o (by simp; omega)) (by rw [E1 324 (by decide)]; exact V.z0)
  refine pv_i ?_
  refine al_2 dL_law_762 ?_
  refine wp_sload1_n dL_law_763 rfl rfl ?_
  refine il_3 dL_law_764 ?_
  refine ic_1 dL_law_765 ?_
  refine wp_iadd dL_law_766 (r32 (by omega) (by omega)) ?_
  refine wp_sld dL_law_767 (by omega) (by omega) ?_
  refine wp_sload1_n dL_law_768 rfl rfl ?_
  refine il_3 dL_law_769 ?_
  refine ic_2 dL_law_770 ?_
  refine wp_iadd dL_law_771 (r32 (by omega) (by omega)) ?_
  refine wp_sld dL_law_772 (by omega) (by omega) ?_
  refine wp_sload1_n dL_law_773 rfl rfl ?_
  refine il_3 dL_law_774 ?_
  refine ic_3 dL_law_775 ?_
  refine wp_iadd dL_law_776 (r32 (by omega) (by omega)) ?_
  refine wp_sld dL_law_777 (by omega) (by omega) ?_
  refine c_L_91 dL_law_778 rfl tt336 (Nat.le_of_ble_eq_true rfl) (by omega) ?_
  refine wX9_loses (by omega) V1.M (fun h2 hl2 E2 => ?_)
  have V2 : INV h2 R I L := V1.lk (fun o ho => E2 o (by simp; omega)) (by rw [E2 324 (by decide)]; exact V1.z0)
  refine pv_i ?_
  refine wp_icmp_eq 1954 dL_law_781 rfl (fun c781 => ?_) (fun c781 => ?_)
  · exact go _ _ _ _ _ _ V2
  · exact absurd rfl c781

theorem law_c18 {G : GT} {δ : Nat} {h hl : Nat → Int → Int} {b : Bool × Bool} {Q : V → Hp → Prop} {R I : Int → Int} {L : Laws} {i : Int} (hδ : δ ≤ 800) (V : INV h R I L) (i0 : 0 ≤ i) (i1 : i + 6 ≤ gL G) (g31 : (gL G : Int) < 2147483648) (go : ∀ (h' hl' : Nat → Int → Int) (b' : Bool × Bool) (R' I' : Int → Int) (L' : Laws), INV h' R' I' L' → WP G δ 0 0 ML_law 1954 [vs 1, vr (1), vr (336), vi i] [] (HS h' hl' b') Q) : WP G δ 0 0 ML_law 786 [vs 1, vr (1), vr (336), vi i] [] (HS h hl b) Q := by
  refine al_1 dL_law_786 ?_
  refine wp_sload1_n dL_law_787 rfl rfl ?_
  refine il_3 dL_law_788 ?_
  refine ic_1 dL_law_789 ?_
  refine wp_iadd dL_law_790 (r32 (by omega) (by omega)) ?_
  refine wp_sld dL_law_791 (by omega) (by omega) ?_
  refine wp_sload1_n dL_law_792 rfl rfl ?_
  refine il_3 dL_law_793 ?_
  refine ic_2 dL_law_794 ?_
  refine wp_iadd dL_law_795 (r32 (by omega) (by omega)) ?_
  refine wp_sld dL_law_796 (by omega) (by omega) ?_
  refine c_L_92 dL_law_797 rfl tt1 (Nat.le_of_ble_eq_true rfl) (by omega) ?_
  refine wX8_fills (by omega) V.2.1 (fun h1 E1 => ?_)
  have V1 : INV h1 R I L := V.lk (fun o ho => E1 o (by simp; omega)) (by rw [E1 324 (by decide)]; exact V.z0)
  refine pv_i ?_
  refine al_2 dL_law_800 ?_
  refine wp_sload1_n dL_law_801 rfl rfl ?_
  refine il_3 dL_law_802 ?_
  refine ic_1 dL_law_803 ?_
  refine wp_iadd dL_law_804 (r32 (by omega) (by omega)) ?_
  refine wp_sld dL_law_805 (by omega) (by omega) ?_
  refine wp_sload1_n dL_law_806 rfl rfl ?_
  refine il_3 dL_law_807 ?_
  refine ic_2 dL_law_808 ?_
  refine wp_iadd dL_law_809 (r32 (by omega) (by omega)) ?_
  refine wp_sld dL_law_810 (by omega) (by omega) ?_
  refine c_L_95 dL_law_811 rfl tt336 (Nat.le_of_ble_eq_true rfl) (by omega) ?_
  refine wX9_fills (by omega) V1.M (fun h2 hl2 E2 => ?_)
  have V2 : INV h2 R I L := V1.lk (fun o ho => E2 o (by simp; omega)) (by rw [E2 324 (by decide)]; exact V1.z0)
  refine pv_i ?_
  refine wp_icmp_eq 1954 dL_law_814 rfl (fun c814 => ?_) (fun c814 => ?_)
  · exact go _ _ _ _ _ _ V2
  · exact absurd rfl c814

theorem law_c19 {G : GT} {δ : Nat} {h hl : Nat → Int → Int} {b : Bool × Bool} {Q : V → Hp → Prop} {R I : Int → Int} {L : Laws} {i : Int} (hδ : δ ≤ 800) (V : INV h R I L) (i0 : 0 ≤ i) (i1 : i + 6 ≤ gL G) (g31 : (gL G : Int) < 2147483648) (go : ∀ (h' hl' : Nat → Int → Int) (b' : Bool × Bool) (R' I' : Int → Int) (L' : Laws), INV h' R' I' L' → WP G δ 0 0 ML_law 1954 [vs 1, vr (1), vr (336), vi i] [] (HS h' hl' b') Q) : WP G δ 0 0 ML_law 819 [vs 1, vr (1), vr (336), vi i] [] (HS h hl b) Q := by
  refine al_1 dL_law_819 ?_
  refine wp_sload1_n dL_law_820 rfl rfl ?_
  refine il_3 dL_law_821 ?_
  refine ic_1 dL_law_822 ?_
  refine wp_iadd dL_law_823 (r32 (by omega) (by omega)) ?_
  refine wp_sld dL_law_824 (by omega) (by omega) ?_
  refine wp_sload1_n dL_law_825 rfl rfl ?_
  refine il_3 dL_law_826 ?_
  refine ic_2 dL_law_827 ?_
  refine wp_iadd dL_law_828 (r32 (by omega) (by omega)) ?_
  refine wp_sld dL_law_829 (by omega) (by omega) ?_
  refine c_L_96 dL_law_830 rfl tt1 (Nat.le_of_ble_eq_true rfl) (by omega) ?_
  refine wX8_book (by omega) V.2.1 ?_
  refine pv_i ?_
  refine al_2 dL_law_833 ?_
  refine wp_sload1_n dL_law_834 rfl rfl ?_
  refine il_3 dL_law_835 ?_
  refine ic_1 dL_law_836 ?_
  refine wp_iadd dL_law_837 (r32 (by omega) (by omega)) ?_
  refine wp_sld dL_law_838 (by omega) (by omega) ?_
  refine wp_sload1_n dL_law_839 rfl rfl ?_
  refine il_3 dL_law_840 ?_
  refine ic_2 dL_law_841 ?_
  refine wp_iadd dL_law_842 (r32 (by omega) (by omega)) ?_
  refine wp_sld dL_law_843 (by omega) (by omega) ?_
  refine c_L_99 dL_law_844 rfl tt336 (Nat.le_of_ble_eq_true rfl) (by omega) ?_
  refine wX9_book (by omega) V.M ?_
  refine pv_i ?_
  refine wp_icmp_eq 1954 dL_law_847 rfl (fun c847 => ?_) (fun c847 => ?_)
  · exact go _ _ _ _ _ _ V
  · exact absurd rfl c847

theorem law_c21 {G : GT} {δ : Nat} {h hl : Nat → Int → Int} {b : Bool × Bool} {Q : V → Hp → Prop} {R I : Int → Int} {L : Laws} {i : Int} (hδ : δ ≤ 800) (V : INV h R I L) (i0 : 0 ≤ i) (i1 : i + 6 ≤ gL G) (g31 : (gL G : Int) < 2147483648) (go : ∀ (h' hl' : Nat → Int → Int) (b' : Bool × Bool) (R' I' : Int → Int) (L' : Laws), INV h' R' I' L' → WP G δ 0 0 ML_law 1954 [vs 1, vr (1), vr (336), vi i] [] (HS h' hl' b') Q) : WP G δ 0 0 ML_law 885 [vs 1, vr (1), vr (336), vi i] [] (HS h hl b) Q := by
  refine al_1 dL_law_885 ?_
  refine c_L_104 dL_law_886 rfl tt1 (Nat.le_of_ble_eq_true rfl) (by omega) ?_
  refine wX8_rank (by omega) V.2.1 V.z0 (fun h1 E1 z1 => ?_)
  have V1 : INV h1 R I L := V.lk (fun o ho => E1 o (by omega)) z1
  refine pv_i ?_
  refine al_2 dL_law_889 ?_
  refine c_L_107 dL_law_890 rfl tt336 (Nat.le_of_ble_eq_true rfl) (by omega) ?_
  refine wX9_rank (by omega) V1.M ?_
  refine pv_i ?_
  refine wp_icmp_eq 1954 dL_law_893 rfl (fun c893 => ?_) (fun c893 => ?_)
  · exact go _ _ _ _ _ _ V1
  · exact absurd rfl c893

theorem law_c22 {G : GT} {δ : Nat} {h hl : Nat → Int → Int} {b : Bool × Bool} {Q : V → Hp → Prop} {R I : Int → Int} {L : Laws} {i : Int} (hδ : δ ≤ 800) (V : INV h R I L) (i0 : 0 ≤ i) (i1 : i + 6 ≤ gL G) (g31 : (gL G : Int) < 2147483648) (go : ∀ (h' hl' : Nat → Int → Int) (b' : Bool × Bool) (R' I' : Int → Int) (L' : Laws), INV h' R' I' L' → WP G δ 0 0 ML_law 1954 [vs 1, vr (1), vr (336), vi i] [] (HS h' hl' b') Q) : WP G δ 0 0 ML_law 898 [vs 1, vr (1), vr (336), vi i] [] (HS h hl b) Q := by
  refine al_1 dL_law_898 ?_
  refine wp_sload1_n dL_law_899 rfl rfl ?_
  refine il_3 dL_law_900 ?_
  refine ic_1 dL_law_901 ?_
  refine wp_iadd dL_law_902 (r32 (by omega) (by omega)) ?_
  refine wp_sld dL_law_903 (by omega) (by omega) ?_
  refine wp_sload1_n dL_law_904 rfl rfl ?_
  refine il_3 dL_law_905 ?_
  refine ic_2 dL_law_906 ?_
  refine wp_iadd dL_law_907 (r32 (by omega) (by omega)) ?_
  refine wp_sld dL_law_908 (by omega) (by omega) ?_
  refine wp_bz dL_law_909 dL_law_912 dL_law_913 dL_law_916 ?_
  refine c_L_108 dL_law_917 rfl tt1 (Nat.le_of_ble_eq_true rfl) (by omega) ?_
  refine wX8_bring (by omega) V.2.1 V.z0 (fun h1 E1 z1 => ?_)
  have V1 : INV h1 R I L := V.lk (fun o ho => E1 o (by omega)) z1
  refine pv_i ?_
  refine al_2 dL_law_920 ?_
  refine wp_sload1_n dL_law_921 rfl rfl ?_
  refine il_3 dL_law_922 ?_
  refine ic_1 dL_law_923 ?_
  refine wp_iadd dL_law_924 (r32 (by omega) (by omega)) ?_
  refine wp_sld dL_law_925 (by omega) (by omega) ?_
  refine wp_sload1_n dL_law_926 rfl rfl ?_
  refine il_3 dL_law_927 ?_
  refine ic_2 dL_law_928 ?_
  refine wp_iadd dL_law_929 (r32 (by omega) (by omega)) ?_
  refine wp_sld dL_law_930 (by omega) (by omega) ?_
  refine wp_bz dL_law_931 dL_law_934 dL_law_935 dL_law_938 ?_
  refine c_L_112 dL_law_939 rfl tt336 (Nat.le_of_ble_eq_true rfl) (by omega) ?_
  refine wX9_bring (by omega) V1.M ?_
  refine pv_i ?_
  refine wp_icmp_eq 1954 dL_law_942 rfl (fun c942 => ?_) (fun c942 => ?_)
  · exact go _ _ _ _ _ _ V1
  · exact absurd rfl c942

theorem law_c23 {G : GT} {δ : Nat} {h hl : Nat → Int → Int} {b : Bool × Bool} {Q : V → Hp → Prop} {R I : Int → Int} {L : Laws} {i : Int} (hδ : δ ≤ 800) (V : INV h R I L) (i0 : 0 ≤ i) (i1 : i + 6 ≤ gL G) (g31 : (gL G : Int) < 2147483648) (go : ∀ (h' hl' : Nat → Int → Int) (b' : Bool × Bool) (R' I' : Int → Int) (L' : Laws), INV h' R' I' L' → WP G δ 0 0 ML_law 1954 [vs 1, vr (1), vr (336), vi i] [] (HS h' hl' b') Q) : WP G δ 0 0 ML_law 947 [vs 1, vr (1), vr (336), vi i] [] (HS h hl b) Q := by
  refine al_1 dL_law_947 ?_
  refine wp_sload1_n dL_law_948 rfl rfl ?_
  refine il_3 dL_law_949 ?_
  refine ic_1 dL_law_950 ?_
  refine wp_iadd dL_law_951 (r32 (by omega) (by omega)) ?_
  refine wp_sld dL_law_952 (by omega) (by omega) ?_
  refine c_L_113 dL_law_953 rfl tt1 (Nat.le_of_ble_eq_true rfl) (by omega) ?_
  refine wX8_ways (by omega) V.2.1 V.z0 (fun h1 E1 z1 => ?_)
  have V1 : INV h1 R I L := V.lk (fun o ho => E1 o (by omega)) z1
  refine pv_i ?_
  refine al_2 dL_law_956 ?_
  refine wp_sload1_n dL_law_957 rfl rfl ?_
  refine il_3 dL_law_958 ?_
  refine ic_1 dL_law_959 ?_
  refine wp_iadd dL_law_960 (r32 (by omega) (by omega)) ?_
  refine wp_sld dL_law_961 (by omega) (by omega) ?_
  refine c_L_116 dL_law_962 rfl tt336 (Nat.le_of_ble_eq_true rfl) (by omega) ?_
  refine wX9_ways (by omega) V1.M ?_
  refine pv_i ?_
  refine wp_icmp_eq 1954 dL_law_965 rfl (fun c965 => ?_) (fun c965 => ?_)
  · exact go _ _ _ _ _ _ V1
  · exact absurd rfl c965

theorem law_c24 {G : GT} {δ : Nat} {h hl : Nat → Int → Int} {b : Bool × Bool} {Q : V → Hp → Prop} {R I : Int → Int} {L : Laws} {i : Int} (hδ : δ ≤ 800) (V : INV h R I L) (i0 : 0 ≤ i) (i1 : i + 6 ≤ gL G) (g31 : (gL G : Int) < 2147483648) (go : ∀ (h' hl' : Nat → Int → Int) (b' : Bool × Bool) (R' I' : Int → Int) (L' : Laws), INV h' R' I' L' → WP G δ 0 0 ML_law 1954 [vs 1, vr (1), vr (336), vi i] [] (HS h' hl' b') Q) : WP G δ 0 0 ML_law 970 [vs 1, vr (1), vr (336), vi i] [] (HS h hl b) Q := by
  refine al_1 dL_law_970 ?_
  refine c_L_117 dL_law_971 rfl tt1 (Nat.le_of_ble_eq_true rfl) (by omega) ?_
  refine wX8_weight (by omega) V.2.1 V.z0 (fun h1 E1 z1 => ?_)
  have V1 : INV h1 R I L := V.lk (fun o ho => E1 o (by omega)) z1
  refine pv_i ?_
  refine al_2 dL_law_974 ?_
  refine c_L_120 dL_law_975 rfl tt336 (Nat.le_of_ble_eq_true rfl) (by omega) ?_
  refine wX9_weight (by omega) V1.M ?_
  refine pv_i ?_
  refine wp_icmp_eq 1954 dL_law_978 rfl (fun c978 => ?_) (fun c978 => ?_)
  · exact go _ _ _ _ _ _ V1
  · exact absurd rfl c978

theorem law_c25 {G : GT} {δ : Nat} {h hl : Nat → Int → Int} {b : Bool × Bool} {Q : V → Hp → Prop} {R I : Int → Int} {L : Laws} {i : Int} (hδ : δ ≤ 800) (V : INV h R I L) (i0 : 0 ≤ i) (i1 : i + 6 ≤ gL G) (g31 : (gL G : Int) < 2147483648) (go : ∀ (h' hl' : Nat → Int → Int) (b' : Bool × Bool) (R' I' : Int → Int) (L' : Laws), INV h' R' I' L' → WP G δ 0 0 ML_law 1954 [vs 1, vr (1), vr (336), vi i] [] (HS h' hl' b') Q) : WP G δ 0 0 ML_law 983 [vs 1, vr (1), vr (336), vi i] [] (HS h hl b) Q := by
  refine al_1 dL_law_983 ?_
  refine wp_sload1_n dL_law_984 rfl rfl ?_
  refine il_3 dL_law_985 ?_
  refine ic_1 dL_law_986 ?_
  refine wp_iadd dL_law_987 (r32 (by omega) (by omega)) ?_
  refine wp_sld dL_law_988 (by omega) (by omega) ?_
  refine c_L_121 dL_law_989 rfl tt1 (Nat.le_of_ble_eq_true rfl) (by omega) ?_
  refine wX8_reach (by omega) V.2.1 V.z0 (fun h1 E1 z1 => ?_)
  have V1 : INV h1 R I L := V.lk (fun o ho => E1 o (by omega)) z1
  refine pv_i ?_
  refine al_2 dL_law_992 ?_
  refine wp_sload1_n dL_law_993 rfl rfl ?_
  refine il_3 dL_law_994 ?_
  refine ic_1 dL_law_995 ?_
  refine wp_iadd dL_law_996 (r32 (by omega) (by omega)) ?_
  refine wp_sld dL_law_997 (by omega) (by omega) ?_
  refine c_L_124 dL_law_998 rfl tt336 (Nat.le_of_ble_eq_true rfl) (by omega) ?_
  refine wX9_reach (by omega) V1.M (fun h2 E2 => ?_)
  have V2 : INV h2 R I L := V1.lk (fun o ho => E2 o (by simp; omega)) (by rw [E2 324 (by decide)]; exact V1.z0)
  refine pv_i ?_
  refine wp_icmp_eq 1954 dL_law_1001 rfl (fun c1001 => ?_) (fun c1001 => ?_)
  · exact go _ _ _ _ _ _ V2
  · exact absurd rfl c1001

theorem law_c26 {G : GT} {δ : Nat} {h hl : Nat → Int → Int} {b : Bool × Bool} {Q : V → Hp → Prop} {R I : Int → Int} {L : Laws} {i : Int} (hδ : δ ≤ 800) (V : INV h R I L) (i0 : 0 ≤ i) (i1 : i + 6 ≤ gL G) (g31 : (gL G : Int) < 2147483648) (go : ∀ (h' hl' : Nat → Int → Int) (b' : Bool × Bool) (R' I' : Int → Int) (L' : Laws), INV h' R' I' L' → WP G δ 0 0 ML_law 1954 [vs 1, vr (1), vr (336), vi i] [] (HS h' hl' b') Q) : WP G δ 0 0 ML_law 1006 [vs 1, vr (1), vr (336), vi i] [] (HS h hl b) Q := by
  refine al_1 dL_law_1006 ?_
  refine wp_sload1_n dL_law_1007 rfl rfl ?_
  refine il_3 dL_law_1008 ?_
  refine ic_1 dL_law_1009 ?_
  refine wp_iadd dL_law_1010 (r32 (by omega) (by omega)) ?_
  refine wp_sld dL_law_1011 (by omega) (by omega) ?_
  refine c_L_125 dL_law_1012 rfl tt1 (Nat.le_of_ble_eq_true rfl) (by omega) ?_
  refine wX8_pattern (by omega) V.2.1 V.z0 (fun h1 E1 z1 => ?_)
  have V1 : INV h1 R I L := V.lk (fun o ho => E1 o (by omega)) z1
  refine pv_i ?_
  refine al_2 dL_law_1015 ?_
  refine wp_sload1_n dL_law_1016 rfl rfl ?_
  refine il_3 dL_law_1017 ?_
  refine ic_1 dL_law_1018 ?_
  refine wp_iadd dL_law_1019 (r32 (by omega) (by omega)) ?_
  refine wp_sld dL_law_1020 (by omega) (by omega) ?_
  refine c_L_128 dL_law_1021 rfl tt336 (Nat.le_of_ble_eq_true rfl) (by omega) ?_
  refine wX9_pattern (by omega) V1.M (fun h2 E2 => ?_)
  have V2 : INV h2 R I L := V1.lk (fun o ho => E2 o (by simp; omega)) (by rw [E2 324 (by decide)]; exact V1.z0)
  refine pv_i ?_
  refine wp_icmp_eq 1954 dL_law_1024 rfl (fun c1024 => ?_) (fun c1024 => ?_)
  · exact go _ _ _ _ _ _ V2
  · exact absurd rfl c1024

theorem law_c27 {G : GT} {δ : Nat} {h hl : Nat → Int → Int} {b : Bool × Bool} {Q : V → Hp → Prop} {R I : Int → Int} {L : Laws} {i : Int} (hδ : δ ≤ 800) (V : INV h R I L) (i0 : 0 ≤ i) (i1 : i + 6 ≤ gL G) (g31 : (gL G : Int) < 2147483648) (go : ∀ (h' hl' : Nat → Int → Int) (b' : Bool × Bool) (R' I' : Int → Int) (L' : Laws), INV h' R' I' L' → WP G δ 0 0 ML_law 1954 [vs 1, vr (1), vr (336), vi i] [] (HS h' hl' b') Q) : WP G δ 0 0 ML_law 1029 [vs 1, vr (1), vr (336), vi i] [] (HS h hl b) Q := by
  refine al_1 dL_law_1029 ?_
  refine wp_sload1_n dL_law_1030 rfl rfl ?_
  refine il_3 dL_law_1031 ?_
  refine ic_1 dL_law_1032 ?_
  refine wp_iadd dL_law_1033 (r32 (by omega) (by omega)) ?_
  refine wp_sld dL_law_1034 (by omega) (by omega) ?_
  refine c_L_129 dL_law_1035 rfl tt1 (Nat.le_of_ble_eq_true rfl) (by omega) ?_
  refine wX8_kernel (by omega) V.2.1 V.z0 (fun h1 E1 z1 => ?_)
  have V1 : INV h1 R I L := V.lk (fun o ho => E1 o (by omega)) z1
  refine pv_i ?_
  refine al_2 dL_law_1038 ?_
  refine wp_sload1_n dL_law_1039 rfl rfl ?_
  refine il_3 dL_law_1040 ?_
  refine ic_1 dL_law_1041 ?_
  refine wp_iadd dL_law_1042 (r32 (by omega) (by omega)) ?_
  refine wp_sld dL_law_1043 (by omega) (by omega) ?_
  refine c_L_132 dL_law_1044 rfl tt336 (Nat.le_of_ble_eq_true rfl) (by omega) ?_
  refine wX9_kernel (by omega) V1.M ?_
  refine pv_i ?_
  refine wp_icmp_eq 1954 dL_law_1047 rfl (fun c1047 => ?_) (fun c1047 => ?_)
  · exact go _ _ _ _ _ _ V1
  · exact absurd rfl c1047

theorem law_c28 {G : GT} {δ : Nat} {h hl : Nat → Int → Int} {b : Bool × Bool} {Q : V → Hp → Prop} {R I : Int → Int} {L : Laws} {i : Int} (hδ : δ ≤ 800) (V : INV h R I L) (i0 : 0 ≤ i) (i1 : i + 6 ≤ gL G) (g31 : (gL G : Int) < 2147483648) (go : ∀ (h' hl' : Nat → Int → Int) (b' : Bool × Bool) (R' I' : Int → Int) (L' : Laws), INV h' R' I' L' → WP G δ 0 0 ML_law 1954 [vs 1, vr (1), vr (336), vi i] [] (HS h' hl' b') Q) : WP G δ 0 0 ML_law 1052 [vs 1, vr (1), vr (336), vi i] [] (HS h hl b) Q := by
  refine al_1 dL_law_1052 ?_
  refine c_L_133 dL_law_1053 rfl tt1 (Nat.le_of_ble_eq_true rfl) (by omega) ?_
  refine wX8_basis (by omega) V.2.1 V.z0 (fun h1 E1 z1 => ?_)
  have V1 : INV h1 R I L := V.lk (fun o ho => E1 o (by omega)) z1
  refine pv_i ?_
  refine al_2 dL_law_1056 ?_
  refine c_L_136 dL_law_1057 rfl tt336 (Nat.le_of_ble_eq_true rfl) (by omega) ?_
  refine wX9_basis (by omega) V1.M ?_
  refine pv_i ?_
  refine wp_icmp_eq 1954 dL_law_1060 rfl (fun c1060 => ?_) (fun c1060 => ?_)
  · exact go _ _ _ _ _ _ V1
  · exact absurd rfl c1060

theorem law_c29 {G : GT} {δ : Nat} {h hl : Nat → Int → Int} {b : Bool × Bool} {Q : V → Hp → Prop} {R I : Int → Int} {L : Laws} {i : Int} (hδ : δ ≤ 800) (V : INV h R I L) (i0 : 0 ≤ i) (i1 : i + 6 ≤ gL G) (g31 : (gL G : Int) < 2147483648) (go : ∀ (h' hl' : Nat → Int → Int) (b' : Bool × Bool) (R' I' : Int → Int) (L' : Laws), INV h' R' I' L' → WP G δ 0 0 ML_law 1954 [vs 1, vr (1), vr (336), vi i] [] (HS h' hl' b') Q) : WP G δ 0 0 ML_law 1065 [vs 1, vr (1), vr (336), vi i] [] (HS h hl b) Q := by
  refine al_1 dL_law_1065 ?_
  refine wp_sload1_n dL_law_1066 rfl rfl ?_
  refine il_3 dL_law_1067 ?_
  refine ic_1 dL_law_1068 ?_
  refine wp_iadd dL_law_1069 (r32 (by omega) (by omega)) ?_
  refine wp_sld dL_law_1070 (by omega) (by omega) ?_
  refine c_L_137 dL_law_1071 rfl tt1 (Nat.le_of_ble_eq_true rfl) (by omega) ?_
  refine wX8_spare (by omega) V.2.1 V.z0 (fun h1 E1 z1 => ?_)
  have V1 : INV h1 R I L := V.lk (fun o ho => E1 o (by omega)) z1
  refine pv_i ?_
  refine al_2 dL_law_1074 ?_
  refine wp_sload1_n dL_law_1075 rfl rfl ?_
  refine il_3 dL_law_1076 ?_
  refine ic_1 dL_law_1077 ?_
  refine wp_iadd dL_law_1078 (r32 (by omega) (by omega)) ?_
  refine wp_sld dL_law_1079 (by omega) (by omega) ?_
  refine c_L_140 dL_law_1080 rfl tt336 (Nat.le_of_ble_eq_true rfl) (by omega) ?_
  refine wX9_spare (by omega) V1.M ?_
  refine pv_i ?_
  refine wp_icmp_eq 1954 dL_law_1083 rfl (fun c1083 => ?_) (fun c1083 => ?_)
  · exact go _ _ _ _ _ _ V1
  · exact absurd rfl c1083

theorem law_c30 {G : GT} {δ : Nat} {h hl : Nat → Int → Int} {b : Bool × Bool} {Q : V → Hp → Prop} {R I : Int → Int} {L : Laws} {i : Int} (hδ : δ ≤ 800) (V : INV h R I L) (i0 : 0 ≤ i) (i1 : i + 6 ≤ gL G) (g31 : (gL G : Int) < 2147483648) (go : ∀ (h' hl' : Nat → Int → Int) (b' : Bool × Bool) (R' I' : Int → Int) (L' : Laws), INV h' R' I' L' → WP G δ 0 0 ML_law 1954 [vs 1, vr (1), vr (336), vi i] [] (HS h' hl' b') Q) : WP G δ 0 0 ML_law 1088 [vs 1, vr (1), vr (336), vi i] [] (HS h hl b) Q := by
  refine al_1 dL_law_1088 ?_
  refine wp_sload1_n dL_law_1089 rfl rfl ?_
  refine il_3 dL_law_1090 ?_
  refine ic_1 dL_law_1091 ?_
  refine wp_iadd dL_law_1092 (r32 (by omega) (by omega)) ?_
  refine wp_sld dL_law_1093 (by omega) (by omega) ?_
  refine c_L_141 dL_law_1094 rfl tt1 (Nat.le_of_ble_eq_true rfl) (by omega) ?_
  refine wX8_nearest (by omega) V.2.1 V.z0 (fun h1 E1 z1 => ?_)
  have V1 : INV h1 R I L := V.lk (fun o ho => E1 o (by omega)) z1
  refine pv_i ?_
  refine al_2 dL_law_1097 ?_
  refine wp_sload1_n dL_law_1098 rfl rfl ?_
  refine il_3 dL_law_1099 ?_
  refine ic_1 dL_law_1100 ?_
  refine wp_iadd dL_law_1101 (r32 (by omega) (by omega)) ?_
  refine wp_sld dL_law_1102 (by omega) (by omega) ?_
  refine c_L_144 dL_law_1103 rfl tt336 (Nat.le_of_ble_eq_true rfl) (by omega) ?_
  refine wX9_nearest (by omega) V1.M (fun h2 E2 => ?_)
  have V2 : INV h2 R I L := V1.lk (fun o ho => E2 o (by simp; omega)) (by rw [E2 324 (by decide)]; exact V1.z0)
  refine pv_i ?_
  refine wp_icmp_eq 1954 dL_law_1106 rfl (fun c1106 => ?_) (fun c1106 => ?_)
  · exact go _ _ _ _ _ _ V2
  · exact absurd rfl c1106

theorem law_c31 {G : GT} {δ : Nat} {h hl : Nat → Int → Int} {b : Bool × Bool} {Q : V → Hp → Prop} {R I : Int → Int} {L : Laws} {i : Int} (hδ : δ ≤ 800) (V : INV h R I L) (i0 : 0 ≤ i) (i1 : i + 6 ≤ gL G) (g31 : (gL G : Int) < 2147483648) (go : ∀ (h' hl' : Nat → Int → Int) (b' : Bool × Bool) (R' I' : Int → Int) (L' : Laws), INV h' R' I' L' → WP G δ 0 0 ML_law 1954 [vs 1, vr (1), vr (336), vi i] [] (HS h' hl' b') Q) : WP G δ 0 0 ML_law 1111 [vs 1, vr (1), vr (336), vi i] [] (HS h hl b) Q := by
  refine al_1 dL_law_1111 ?_
  refine wp_sload1_n dL_law_1112 rfl rfl ?_
  refine il_3 dL_law_1113 ?_
  refine ic_1 dL_law_1114 ?_
  refine wp_iadd dL_law_1115 (r32 (by omega) (by omega)) ?_
  refine wp_sld dL_law_1116 (by omega) (by omega) ?_
  refine c_L_145 dL_law_1117 rfl tt1 (Nat.le_of_ble_eq_true rfl) (by omega) ?_
  refine wX8_street (by omega) V.2.1 (fun h1 E1 C1 => ?_)
  have M1 : MT h1 R L := V.M.o (E1 337 (by omega)) (E1 339 (by omega))
  refine pv_i ?_
  refine al_2 dL_law_1120 ?_
  refine wp_sload1_n dL_law_1121 rfl rfl ?_
  refine il_3 dL_law_1122 ?_
  refine ic_1 dL_law_1123 ?_
  refine wp_iadd dL_law_1124 (r32 (by omega) (by omega)) ?_
  refine wp_sld dL_law_1125 (by omega) (by omega) ?_
  refine c_L_148 dL_law_1126 rfl tt336 (Nat.le_of_ble_eq_true rfl) (by omega) ?_
  refine wX9_street (by omega) M1 (fun h2 hl2 E2 M2 => ?_)
  refine pv_i ?_
  refine wp_icmp_eq 1954 dL_law_1129 rfl (fun c1129 => ?_) (fun c1129 => ?_)
  · exact go _ _ _ _ _ _ (V.st C1 M2.1 (T_str V.2.2.1 V.V) (k2_str V.V) E1 E2.1 E2.2)
  · exact absurd rfl c1129

theorem law_c32 {G : GT} {δ : Nat} {h hl : Nat → Int → Int} {b : Bool × Bool} {Q : V → Hp → Prop} {R I : Int → Int} {L : Laws} {i : Int} (hδ : δ ≤ 800) (V : INV h R I L) (i0 : 0 ≤ i) (i1 : i + 6 ≤ gL G) (g31 : (gL G : Int) < 2147483648) (go : ∀ (h' hl' : Nat → Int → Int) (b' : Bool × Bool) (R' I' : Int → Int) (L' : Laws), INV h' R' I' L' → WP G δ 0 0 ML_law 1954 [vs 1, vr (1), vr (336), vi i] [] (HS h' hl' b') Q) : WP G δ 0 0 ML_law 1134 [vs 1, vr (1), vr (336), vi i] [] (HS h hl b) Q := by
  refine al_1 dL_law_1134 ?_
  refine wp_sload1_n dL_law_1135 rfl rfl ?_
  refine il_3 dL_law_1136 ?_
  refine ic_1 dL_law_1137 ?_
  refine wp_iadd dL_law_1138 (r32 (by omega) (by omega)) ?_
  refine wp_sld dL_law_1139 (by omega) (by omega) ?_
  refine wp_bz dL_law_1140 dL_law_1143 dL_law_1144 dL_law_1147 ?_
  refine c_L_149 dL_law_1148 rfl tt1 (Nat.le_of_ble_eq_true rfl) (by omega) ?_
  refine wX8_lights (by omega) V.2.1 V.z0 (fun h1 E1 z1 => ?_)
  have V1 : INV h1 R I L := V.lk (fun o ho => E1 o (by omega)) z1
  refine pv_i ?_
  refine al_2 dL_law_1151 ?_
  refine wp_sload1_n dL_law_1152 rfl rfl ?_
  refine il_3 dL_law_1153 ?_
  refine ic_1 dL_law_1154 ?_
  refine wp_iadd dL_law_1155 (r32 (by omega) (by omega)) ?_
  refine wp_sld dL_law_1156 (by omega) (by omega) ?_
  refine wp_bz dL_law_1157 dL_law_1160 dL_law_1161 dL_law_1164 ?_
  refine c_L_153 dL_law_1165 rfl tt336 (Nat.le_of_ble_eq_true rfl) (by omega) ?_
  refine wX9_lights (by omega) V1.M ?_
  refine pv_i ?_
  refine wp_icmp_eq 1954 dL_law_1168 rfl (fun c1168 => ?_) (fun c1168 => ?_)
  · exact go _ _ _ _ _ _ V1
  · exact absurd rfl c1168

theorem law_c33 {G : GT} {δ : Nat} {h hl : Nat → Int → Int} {b : Bool × Bool} {Q : V → Hp → Prop} {R I : Int → Int} {L : Laws} {i : Int} (hδ : δ ≤ 800) (V : INV h R I L) (i0 : 0 ≤ i) (i1 : i + 6 ≤ gL G) (g31 : (gL G : Int) < 2147483648) (go : ∀ (h' hl' : Nat → Int → Int) (b' : Bool × Bool) (R' I' : Int → Int) (L' : Laws), INV h' R' I' L' → WP G δ 0 0 ML_law 1954 [vs 1, vr (1), vr (336), vi i] [] (HS h' hl' b') Q) : WP G δ 0 0 ML_law 1173 [vs 1, vr (1), vr (336), vi i] [] (HS h hl b) Q := by
  refine al_1 dL_law_1173 ?_
  refine wp_sload1_n dL_law_1174 rfl rfl ?_
  refine il_3 dL_law_1175 ?_
  refine ic_1 dL_law_1176 ?_
  refine wp_iadd dL_law_1177 (r32 (by omega) (by omega)) ?_
  refine wp_sld dL_law_1178 (by omega) (by omega) ?_
  refine wp_sload1_n dL_law_1179 rfl rfl ?_
  refine il_3 dL_law_1180 ?_
  refine ic_2 dL_law_1181 ?_
  refine wp_iadd dL_law_1182 (r32 (by omega) (by omega)) ?_
  refine wp_sld dL_law_1183 (by omega) (by omega) ?_
  refine c_L_154 dL_law_1184 rfl tt1 (Nat.le_of_ble_eq_true rfl) (by omega) ?_
  refine wX8_bill (by omega) V.2.1 (fun h1 b1 E1 => ?_)
  have V1 : INV h1 R I L := V.lk (fun o ho => E1 o (by simp [BLL]; omega)) (by rw [E1 324 (by decide)]; exact V.z0)
  refine pv_i ?_
  refine al_2 dL_law_1187 ?_
  refine wp_sload1_n dL_law_1188 rfl rfl ?_
  refine il_3 dL_law_1189 ?_
  refine ic_1 dL_law_1190 ?_
  refine wp_iadd dL_law_1191 (r32 (by omega) (by omega)) ?_
  refine wp_sld dL_law_1192 (by omega) (by omega) ?_
  refine wp_sload1_n dL_law_1193 rfl rfl ?_
  refine il_3 dL_law_1194 ?_
  refine ic_2 dL_law_1195 ?_
  refine wp_iadd dL_law_1196 (r32 (by omega) (by omega)) ?_
  refine wp_sld dL_law_1197 (by omega) (by omega) ?_
  refine c_L_157 dL_law_1198 rfl tt336 (Nat.le_of_ble_eq_true rfl) (by omega) ?_
  refine wX9_bill (by omega) V1.M (fun h2 hl2 E2 => ?_)
  have V2 : INV h2 R I L := V1.lk (fun o ho => E2 o (by simp; omega)) (by rw [E2 324 (by decide)]; exact V1.z0)
  refine pv_i ?_
  refine wp_icmp_eq 1954 dL_law_1201 rfl (fun c1201 => ?_) (fun c1201 => ?_)
  · exact go _ _ _ _ _ _ V2
  · exact absurd rfl c1201

theorem law_c34 {G : GT} {δ : Nat} {h hl : Nat → Int → Int} {b : Bool × Bool} {Q : V → Hp → Prop} {R I : Int → Int} {L : Laws} {i : Int} (hδ : δ ≤ 800) (V : INV h R I L) (i0 : 0 ≤ i) (i1 : i + 6 ≤ gL G) (g31 : (gL G : Int) < 2147483648) (go : ∀ (h' hl' : Nat → Int → Int) (b' : Bool × Bool) (R' I' : Int → Int) (L' : Laws), INV h' R' I' L' → WP G δ 0 0 ML_law 1954 [vs 1, vr (1), vr (336), vi i] [] (HS h' hl' b') Q) : WP G δ 0 0 ML_law 1206 [vs 1, vr (1), vr (336), vi i] [] (HS h hl b) Q := by
  refine al_1 dL_law_1206 ?_
  refine wp_sload1_n dL_law_1207 rfl rfl ?_
  refine il_3 dL_law_1208 ?_
  refine ic_1 dL_law_1209 ?_
  refine wp_iadd dL_law_1210 (r32 (by omega) (by omega)) ?_
  refine wp_sld dL_law_1211 (by omega) (by omega) ?_
  refine wp_sload1_n dL_law_1212 rfl rfl ?_
  refine il_3 dL_law_1213 ?_
  refine ic_2 dL_law_1214 ?_
  refine wp_iadd dL_law_1215 (r32 (by omega) (by omega)) ?_
  refine wp_sld dL_law_1216 (by omega) (by omega) ?_
  refine wp_sload1_n dL_law_1217 rfl rfl ?_
  refine il_3 dL_law_1218 ?_
  refine ic_3 dL_law_1219 ?_
  refine wp_iadd dL_law_1220 (r32 (by omega) (by omega)) ?_
  refine wp_sld dL_law_1221 (by omega) (by omega) ?_
  refine wp_sload1_n dL_law_1222 rfl rfl ?_
  refine il_3 dL_law_1223 ?_
  refine ic_4 dL_law_1224 ?_
  refine wp_iadd dL_law_1225 (r32 (by omega) (by omega)) ?_
  refine wp_sld dL_law_1226 (by omega) (by omega) ?_
  refine wp_bz dL_law_1227 dL_law_1230 dL_law_1231 dL_law_1234 ?_
  refine c_L_158 dL_law_1235 rfl tt1 (Nat.le_of_ble_eq_true rfl) (by omega) ?_
  refine wX8_war (by omega) V.2.1 ?_
  refine pv_l ?_
  refine al_2 dL_law_1238 ?_
  refine wp_sload1_n dL_law_1239 rfl rfl ?_
  refine il_3 dL_law_1240 ?_
  refine ic_1 dL_law_1241 ?_
  refine wp_iadd dL_law_1242 (r32 (by omega) (by omega)) ?_
  refine wp_sld dL_law_1243 (by omega) (by omega) ?_
  refine wp_sload1_n dL_law_1244 rfl rfl ?_
  refine il_3 dL_law_1245 ?_
  refine ic_2 dL_law_1246 ?_
  refine wp_iadd dL_law_1247 (r32 (by omega) (by omega)) ?_
  refine wp_sld dL_law_1248 (by omega) (by omega) ?_
  refine wp_sload1_n dL_law_1249 rfl rfl ?_
  refine il_3 dL_law_1250 ?_
  refine ic_3 dL_law_1251 ?_
  refine wp_iadd dL_law_1252 (r32 (by omega) (by omega)) ?_
  refine wp_sld dL_law_1253 (by omega) (by omega) ?_
  refine wp_sload1_n dL_law_1254 rfl rfl ?_
  refine il_3 dL_law_1255 ?_
  refine ic_4 dL_law_1256 ?_
  refine wp_iadd dL_law_1257 (r32 (by omega) (by omega)) ?_
  refine wp_sld dL_law_1258 (by omega) (by omega) ?_
  refine wp_bz dL_law_1259 dL_law_1262 dL_law_1263 dL_law_1266 ?_
  refine c_L_162 dL_law_1267 rfl tt336 (Nat.le_of_ble_eq_true rfl) (by omega) ?_
  refine wX9_war (by omega) V.M ?_
  refine pv_l ?_
  refine wp_lcmp dL_law_1270 ?_
  refine wp_if_eq 1954 dL_law_1271 rfl (fun c1271 => ?_) (fun c1271 => ?_)
  · rw [lcmp_z] at c1271
    exact go _ _ _ _ _ _ V
  · rw [lcmp_z] at c1271
    exact absurd rfl c1271

theorem law_c35 {G : GT} {δ : Nat} {h hl : Nat → Int → Int} {b : Bool × Bool} {Q : V → Hp → Prop} {R I : Int → Int} {L : Laws} {i : Int} (hδ : δ ≤ 800) (V : INV h R I L) (i0 : 0 ≤ i) (i1 : i + 6 ≤ gL G) (g31 : (gL G : Int) < 2147483648) (go : ∀ (h' hl' : Nat → Int → Int) (b' : Bool × Bool) (R' I' : Int → Int) (L' : Laws), INV h' R' I' L' → WP G δ 0 0 ML_law 1954 [vs 1, vr (1), vr (336), vi i] [] (HS h' hl' b') Q) : WP G δ 0 0 ML_law 1276 [vs 1, vr (1), vr (336), vi i] [] (HS h hl b) Q := by
  refine al_1 dL_law_1276 ?_
  refine wp_sload1_n dL_law_1277 rfl rfl ?_
  refine il_3 dL_law_1278 ?_
  refine ic_1 dL_law_1279 ?_
  refine wp_iadd dL_law_1280 (r32 (by omega) (by omega)) ?_
  refine wp_sld dL_law_1281 (by omega) (by omega) ?_
  refine wp_sload1_n dL_law_1282 rfl rfl ?_
  refine il_3 dL_law_1283 ?_
  refine ic_2 dL_law_1284 ?_
  refine wp_iadd dL_law_1285 (r32 (by omega) (by omega)) ?_
  refine wp_sld dL_law_1286 (by omega) (by omega) ?_
  refine wp_sload1_n dL_law_1287 rfl rfl ?_
  refine il_3 dL_law_1288 ?_
  refine ic_3 dL_law_1289 ?_
  refine wp_iadd dL_law_1290 (r32 (by omega) (by omega)) ?_
  refine wp_sld dL_law_1291 (by omega) (by omega) ?_
  refine wp_sload1_n dL_law_1292 rfl rfl ?_
  refine il_3 dL_law_1293 ?_
  refine ic_4 dL_law_1294 ?_
  refine wp_iadd dL_law_1295 (r32 (by omega) (by omega)) ?_
  refine wp_sld dL_law_1296 (by omega) (by omega) ?_
  refine wp_bz dL_law_1297 dL_law_1300 dL_law_1301 dL_law_1304 ?_
  refine c_L_163 dL_law_1305 rfl tt1 (Nat.le_of_ble_eq_true rfl) (by omega) ?_
  refine wX8_rest (by omega) V.2.1 ?_
  refine pv_l ?_
  refine al_2 dL_law_1308 ?_
  refine wp_sload1_n dL_law_1309 rfl rfl ?_
  refine il_3 dL_law_1310 ?_
  refine ic_1 dL_law_1311 ?_
  refine wp_iadd dL_law_1312 (r32 (by omega) (by omega)) ?_
  refine wp_sld dL_law_1313 (by omega) (by omega) ?_
  refine wp_sload1_n dL_law_1314 rfl rfl ?_
  refine il_3 dL_law_1315 ?_
  refine ic_2 dL_law_1316 ?_
  refine wp_iadd dL_law_1317 (r32 (by omega) (by omega)) ?_
  refine wp_sld dL_law_1318 (by omega) (by omega) ?_
  refine wp_sload1_n dL_law_1319 rfl rfl ?_
  refine il_3 dL_law_1320 ?_
  refine ic_3 dL_law_1321 ?_
  refine wp_iadd dL_law_1322 (r32 (by omega) (by omega)) ?_
  refine wp_sld dL_law_1323 (by omega) (by omega) ?_
  refine wp_sload1_n dL_law_1324 rfl rfl ?_
  refine il_3 dL_law_1325 ?_
  refine ic_4 dL_law_1326 ?_
  refine wp_iadd dL_law_1327 (r32 (by omega) (by omega)) ?_
  refine wp_sld dL_law_1328 (by omega) (by omega) ?_
  refine wp_bz dL_law_1329 dL_law_1332 dL_law_1333 dL_law_1336 ?_
  refine c_L_166 dL_law_1337 rfl tt336 (Nat.le_of_ble_eq_true rfl) (by omega) ?_
  refine wX9_rest (by omega) V.M ?_
  refine pv_l ?_
  refine wp_lcmp dL_law_1340 ?_
  refine wp_if_eq 1954 dL_law_1341 rfl (fun c1341 => ?_) (fun c1341 => ?_)
  · rw [lcmp_z] at c1341
    exact go _ _ _ _ _ _ V
  · rw [lcmp_z] at c1341
    exact absurd rfl c1341

theorem law_c36 {G : GT} {δ : Nat} {h hl : Nat → Int → Int} {b : Bool × Bool} {Q : V → Hp → Prop} {R I : Int → Int} {L : Laws} {i : Int} (hδ : δ ≤ 800) (V : INV h R I L) (i0 : 0 ≤ i) (i1 : i + 6 ≤ gL G) (g31 : (gL G : Int) < 2147483648) (go : ∀ (h' hl' : Nat → Int → Int) (b' : Bool × Bool) (R' I' : Int → Int) (L' : Laws), INV h' R' I' L' → WP G δ 0 0 ML_law 1954 [vs 1, vr (1), vr (336), vi i] [] (HS h' hl' b') Q) : WP G δ 0 0 ML_law 1346 [vs 1, vr (1), vr (336), vi i] [] (HS h hl b) Q := by
  refine al_1 dL_law_1346 ?_
  refine wp_sload1_n dL_law_1347 rfl rfl ?_
  refine il_3 dL_law_1348 ?_
  refine ic_1 dL_law_1349 ?_
  refine wp_iadd dL_law_1350 (r32 (by omega) (by omega)) ?_
  refine wp_sld dL_law_1351 (by omega) (by omega) ?_
  refine wp_sload1_n dL_law_1352 rfl rfl ?_
  refine il_3 dL_law_1353 ?_
  refine ic_2 dL_law_1354 ?_
  refine wp_iadd dL_law_1355 (r32 (by omega) (by omega)) ?_
  refine wp_sld dL_law_1356 (by omega) (by omega) ?_
  refine wp_bz dL_law_1357 dL_law_1360 dL_law_1361 dL_law_1364 ?_
  refine c_L_167 dL_law_1365 rfl tt1 (Nat.le_of_ble_eq_true rfl) (by omega) ?_
  refine wX8_verdict (by omega) V.2.1 bz_01 (fun h1 E1 C1 => ?_)
  have M1 : MT h1 R L := V.M.o (E1 337 (by omega)) (E1 339 (by omega))
  refine pv_i ?_
  refine al_2 dL_law_1368 ?_
  refine wp_sload1_n dL_law_1369 rfl rfl ?_
  refine il_3 dL_law_1370 ?_
  refine ic_1 dL_law_1371 ?_
  refine wp_iadd dL_law_1372 (r32 (by omega) (by omega)) ?_
  refine wp_sld dL_law_1373 (by omega) (by omega) ?_
  refine wp_sload1_n dL_law_1374 rfl rfl ?_
  refine il_3 dL_law_1375 ?_
  refine ic_2 dL_law_1376 ?_
  refine wp_iadd dL_law_1377 (r32 (by omega) (by omega)) ?_
  refine wp_sld dL_law_1378 (by omega) (by omega) ?_
  refine wp_bz dL_law_1379 dL_law_1382 dL_law_1383 dL_law_1386 ?_
  refine c_L_170 dL_law_1387 rfl tt336 (Nat.le_of_ble_eq_true rfl) (by omega) ?_
  refine wX9_verdict (by omega) M1 bz_01 (fun h2 hl2 E2 M2 => ?_)
  refine pv_i ?_
  refine wp_icmp_eq 1954 dL_law_1390 rfl (fun c1390 => ?_) (fun c1390 => ?_)
  · exact go _ _ _ _ _ _ (V.st C1 M2.1 (T_ver V.2.2.1 V.V) (k2_ver V.V) E1 E2.1 E2.2)
  · exact absurd rfl c1390

theorem law_c37 {G : GT} {δ : Nat} {h hl : Nat → Int → Int} {b : Bool × Bool} {Q : V → Hp → Prop} {R I : Int → Int} {L : Laws} {i : Int} (hδ : δ ≤ 800) (V : INV h R I L) (i0 : 0 ≤ i) (i1 : i + 6 ≤ gL G) (g31 : (gL G : Int) < 2147483648) (go : ∀ (h' hl' : Nat → Int → Int) (b' : Bool × Bool) (R' I' : Int → Int) (L' : Laws), INV h' R' I' L' → WP G δ 0 0 ML_law 1954 [vs 1, vr (1), vr (336), vi i] [] (HS h' hl' b') Q) : WP G δ 0 0 ML_law 1395 [vs 1, vr (1), vr (336), vi i] [] (HS h hl b) Q := by
  refine al_1 dL_law_1395 ?_
  refine wp_sload1_n dL_law_1396 rfl rfl ?_
  refine il_3 dL_law_1397 ?_
  refine ic_1 dL_law_1398 ?_
  refine wp_iadd dL_law_1399 (r32 (by omega) (by omega)) ?_
  refine wp_sld dL_law_1400 (by omega) (by omega) ?_
  refine wp_bz dL_law_1401 dL_law_1404 dL_law_1405 dL_law_1408 ?_
  refine c_L_171 dL_law_1409 rfl tt1 (Nat.le_of_ble_eq_true rfl) (by omega) ?_
  refine wX8_belief (by omega) V.2.1 ?_
  refine pv_l ?_
  refine al_2 dL_law_1412 ?_
  refine wp_sload1_n dL_law_1413 rfl rfl ?_
  refine il_3 dL_law_1414 ?_
  refine ic_1 dL_law_1415 ?_
  refine wp_iadd dL_law_1416 (r32 (by omega) (by omega)) ?_
  refine wp_sld dL_law_1417 (by omega) (by omega) ?_
  refine wp_bz dL_law_1418 dL_law_1421 dL_law_1422 dL_law_1425 ?_
  refine c_L_175 dL_law_1426 rfl tt336 (Nat.le_of_ble_eq_true rfl) (by omega) ?_
  refine wX9_belief (by omega) V.M ?_
  refine pv_l ?_
  refine wp_lcmp dL_law_1429 ?_
  refine wp_if_eq 1954 dL_law_1430 rfl (fun c1430 => ?_) (fun c1430 => ?_)
  · rw [lcmp_z] at c1430
    exact go _ _ _ _ _ _ V
  · rw [lcmp_z] at c1430
    exact absurd rfl c1430

theorem law_c38 {G : GT} {δ : Nat} {h hl : Nat → Int → Int} {b : Bool × Bool} {Q : V → Hp → Prop} {R I : Int → Int} {L : Laws} {i : Int} (hδ : δ ≤ 800) (V : INV h R I L) (i0 : 0 ≤ i) (i1 : i + 6 ≤ gL G) (g31 : (gL G : Int) < 2147483648) (go : ∀ (h' hl' : Nat → Int → Int) (b' : Bool × Bool) (R' I' : Int → Int) (L' : Laws), INV h' R' I' L' → WP G δ 0 0 ML_law 1954 [vs 1, vr (1), vr (336), vi i] [] (HS h' hl' b') Q) : WP G δ 0 0 ML_law 1435 [vs 1, vr (1), vr (336), vi i] [] (HS h hl b) Q := by
  refine al_1 dL_law_1435 ?_
  refine wp_sload1_n dL_law_1436 rfl rfl ?_
  refine il_3 dL_law_1437 ?_
  refine ic_1 dL_law_1438 ?_
  refine wp_iadd dL_law_1439 (r32 (by omega) (by omega)) ?_
  refine wp_sld dL_law_1440 (by omega) (by omega) ?_
  refine wp_sload1_n dL_law_1441 rfl rfl ?_
  refine il_3 dL_law_1442 ?_
  refine ic_2 dL_law_1443 ?_
  refine wp_iadd dL_law_1444 (r32 (by omega) (by omega)) ?_
  refine wp_sld dL_law_1445 (by omega) (by omega) ?_
  refine wp_sload1_n dL_law_1446 rfl rfl ?_
  refine il_3 dL_law_1447 ?_
  refine ic_3 dL_law_1448 ?_
  refine wp_iadd dL_law_1449 (r32 (by omega) (by omega)) ?_
  refine wp_sld dL_law_1450 (by omega) (by omega) ?_
  refine wp_bz dL_law_1451 dL_law_1454 dL_law_1455 dL_law_1458 ?_
  refine c_L_176 dL_law_1459 rfl tt1 (Nat.le_of_ble_eq_true rfl) (by omega) ?_
  refine wX8_lit (by omega) V.2.1 V.z0 (fun h1 b1 E1 z1 => ?_)
  have V1 : INV h1 R I L := V.lk (fun o ho => E1 o (by omega)) z1
  refine pv_l ?_
  refine al_2 dL_law_1462 ?_
  refine wp_sload1_n dL_law_1463 rfl rfl ?_
  refine il_3 dL_law_1464 ?_
  refine ic_1 dL_law_1465 ?_
  refine wp_iadd dL_law_1466 (r32 (by omega) (by omega)) ?_
  refine wp_sld dL_law_1467 (by omega) (by omega) ?_
  refine wp_sload1_n dL_law_1468 rfl rfl ?_
  refine il_3 dL_law_1469 ?_
  refine ic_2 dL_law_1470 ?_
  refine wp_iadd dL_law_1471 (r32 (by omega) (by omega)) ?_
  refine wp_sld dL_law_1472 (by omega) (by omega) ?_
  refine wp_sload1_n dL_law_1473 rfl rfl ?_
  refine il_3 dL_law_1474 ?_
  refine ic_3 dL_law_1475 ?_
  refine wp_iadd dL_law_1476 (r32 (by omega) (by omega)) ?_
  refine wp_sld dL_law_1477 (by omega) (by omega) ?_
  refine wp_bz dL_law_1478 dL_law_1481 dL_law_1482 dL_law_1485 ?_
  refine c_L_180 dL_law_1486 rfl tt336 (Nat.le_of_ble_eq_true rfl) (by omega) ?_
  refine wX9_lit (by omega) V1.M (fun hl2 => ?_)
  refine pv_l ?_
  refine wp_lcmp dL_law_1489 ?_
  refine wp_if_eq 1954 dL_law_1490 rfl (fun c1490 => ?_) (fun c1490 => ?_)
  · rw [lcmp_z] at c1490
    exact go _ _ _ _ _ _ V1
  · rw [lcmp_z] at c1490
    exact absurd rfl c1490

theorem law_c39 {G : GT} {δ : Nat} {h hl : Nat → Int → Int} {b : Bool × Bool} {Q : V → Hp → Prop} {R I : Int → Int} {L : Laws} {i : Int} (hδ : δ ≤ 800) (V : INV h R I L) (i0 : 0 ≤ i) (i1 : i + 6 ≤ gL G) (g31 : (gL G : Int) < 2147483648) (go : ∀ (h' hl' : Nat → Int → Int) (b' : Bool × Bool) (R' I' : Int → Int) (L' : Laws), INV h' R' I' L' → WP G δ 0 0 ML_law 1954 [vs 1, vr (1), vr (336), vi i] [] (HS h' hl' b') Q) : WP G δ 0 0 ML_law 1495 [vs 1, vr (1), vr (336), vi i] [] (HS h hl b) Q := by
  refine al_1 dL_law_1495 ?_
  refine wp_sload1_n dL_law_1496 rfl rfl ?_
  refine il_3 dL_law_1497 ?_
  refine ic_1 dL_law_1498 ?_
  refine wp_iadd dL_law_1499 (r32 (by omega) (by omega)) ?_
  refine wp_sld dL_law_1500 (by omega) (by omega) ?_
  refine wp_sload1_n dL_law_1501 rfl rfl ?_
  refine il_3 dL_law_1502 ?_
  refine ic_2 dL_law_1503 ?_
  refine wp_iadd dL_law_1504 (r32 (by omega) (by omega)) ?_
  refine wp_sld dL_law_1505 (by omega) (by omega) ?_
  refine wp_bz dL_law_1506 dL_law_1509 dL_law_1510 dL_law_1513 ?_
  refine c_L_181 dL_law_1514 rfl tt1 (Nat.le_of_ble_eq_true rfl) (by omega) ?_
  refine wX8_dark (by omega) V.2.1 V.z0 (fun h1 b1 E1 z1 => ?_)
  have V1 : INV h1 R I L := V.lk (fun o ho => E1 o (by omega)) z1
  refine pv_l ?_
  refine al_2 dL_law_1517 ?_
  refine wp_sload1_n dL_law_1518 rfl rfl ?_
  refine il_3 dL_law_1519 ?_
  refine ic_1 dL_law_1520 ?_
  refine wp_iadd dL_law_1521 (r32 (by omega) (by omega)) ?_
  refine wp_sld dL_law_1522 (by omega) (by omega) ?_
  refine wp_sload1_n dL_law_1523 rfl rfl ?_
  refine il_3 dL_law_1524 ?_
  refine ic_2 dL_law_1525 ?_
  refine wp_iadd dL_law_1526 (r32 (by omega) (by omega)) ?_
  refine wp_sld dL_law_1527 (by omega) (by omega) ?_
  refine wp_bz dL_law_1528 dL_law_1531 dL_law_1532 dL_law_1535 ?_
  refine c_L_185 dL_law_1536 rfl tt336 (Nat.le_of_ble_eq_true rfl) (by omega) ?_
  refine wX9_dark (by omega) V1.M (fun hl2 => ?_)
  refine pv_l ?_
  refine wp_lcmp dL_law_1539 ?_
  refine wp_if_eq 1954 dL_law_1540 rfl (fun c1540 => ?_) (fun c1540 => ?_)
  · rw [lcmp_z] at c1540
    exact go _ _ _ _ _ _ V1
  · rw [lcmp_z] at c1540
    exact absurd rfl c1540

theorem law_c40 {G : GT} {δ : Nat} {h hl : Nat → Int → Int} {b : Bool × Bool} {Q : V → Hp → Prop} {R I : Int → Int} {L : Laws} {i : Int} (hδ : δ ≤ 800) (V : INV h R I L) (i0 : 0 ≤ i) (i1 : i + 6 ≤ gL G) (g31 : (gL G : Int) < 2147483648) (go : ∀ (h' hl' : Nat → Int → Int) (b' : Bool × Bool) (R' I' : Int → Int) (L' : Laws), INV h' R' I' L' → WP G δ 0 0 ML_law 1954 [vs 1, vr (1), vr (336), vi i] [] (HS h' hl' b') Q) : WP G δ 0 0 ML_law 1545 [vs 1, vr (1), vr (336), vi i] [] (HS h hl b) Q := by
  refine al_1 dL_law_1545 ?_
  refine wp_sload1_n dL_law_1546 rfl rfl ?_
  refine il_3 dL_law_1547 ?_
  refine ic_1 dL_law_1548 ?_
  refine wp_iadd dL_law_1549 (r32 (by omega) (by omega)) ?_
  refine wp_sld dL_law_1550 (by omega) (by omega) ?_
  refine wp_sload1_n dL_law_1551 rfl rfl ?_
  refine il_3 dL_law_1552 ?_
  refine ic_2 dL_law_1553 ?_
  refine wp_iadd dL_law_1554 (r32 (by omega) (by omega)) ?_
  refine wp_sld dL_law_1555 (by omega) (by omega) ?_
  refine wp_bz dL_law_1556 dL_law_1559 dL_law_1560 dL_law_1563 ?_
  refine c_L_186 dL_law_1564 rfl tt1 (Nat.le_of_ble_eq_true rfl) (by omega) ?_
  refine wX8_mean (by omega) V.2.1 V.z0 (fun h1 b1 E1 z1 => ?_)
  have V1 : INV h1 R I L := V.lk (fun o ho => E1 o (by omega)) z1
  refine pv_l ?_
  refine al_2 dL_law_1567 ?_
  refine wp_sload1_n dL_law_1568 rfl rfl ?_
  refine il_3 dL_law_1569 ?_
  refine ic_1 dL_law_1570 ?_
  refine wp_iadd dL_law_1571 (r32 (by omega) (by omega)) ?_
  refine wp_sld dL_law_1572 (by omega) (by omega) ?_
  refine wp_sload1_n dL_law_1573 rfl rfl ?_
  refine il_3 dL_law_1574 ?_
  refine ic_2 dL_law_1575 ?_
  refine wp_iadd dL_law_1576 (r32 (by omega) (by omega)) ?_
  refine wp_sld dL_law_1577 (by omega) (by omega) ?_
  refine wp_bz dL_law_1578 dL_law_1581 dL_law_1582 dL_law_1585 ?_
  refine c_L_189 dL_law_1586 rfl tt336 (Nat.le_of_ble_eq_true rfl) (by omega) ?_
  refine wX9_mean (by omega) V1.M (fun hl2 => ?_)
  refine pv_l ?_
  refine wp_lcmp dL_law_1589 ?_
  refine wp_if_eq 1954 dL_law_1590 rfl (fun c1590 => ?_) (fun c1590 => ?_)
  · rw [lcmp_z] at c1590
    exact go _ _ _ _ _ _ V1
  · rw [lcmp_z] at c1590
    exact absurd rfl c1590

theorem law_c41 {G : GT} {δ : Nat} {h hl : Nat → Int → Int} {b : Bool × Bool} {Q : V → Hp → Prop} {R I : Int → Int} {L : Laws} {i : Int} (hδ : δ ≤ 800) (V : INV h R I L) (i0 : 0 ≤ i) (i1 : i + 6 ≤ gL G) (g31 : (gL G : Int) < 2147483648) (go : ∀ (h' hl' : Nat → Int → Int) (b' : Bool × Bool) (R' I' : Int → Int) (L' : Laws), INV h' R' I' L' → WP G δ 0 0 ML_law 1954 [vs 1, vr (1), vr (336), vi i] [] (HS h' hl' b') Q) : WP G δ 0 0 ML_law 1595 [vs 1, vr (1), vr (336), vi i] [] (HS h hl b) Q := by
  refine al_1 dL_law_1595 ?_
  refine wp_sload1_n dL_law_1596 rfl rfl ?_
  refine il_3 dL_law_1597 ?_
  refine ic_1 dL_law_1598 ?_
  refine wp_iadd dL_law_1599 (r32 (by omega) (by omega)) ?_
  refine wp_sld dL_law_1600 (by omega) (by omega) ?_
  refine wp_bz dL_law_1601 dL_law_1604 dL_law_1605 dL_law_1608 ?_
  refine c_L_190 dL_law_1609 rfl tt1 (Nat.le_of_ble_eq_true rfl) (by omega) ?_
  refine wX8_game (by omega) V.2.1 V.z0 (fun h1 E1 z1 => ?_)
  have V1 : INV h1 R I L := V.lk (fun o ho => E1 o (by omega)) z1
  refine pv_i ?_
  refine al_2 dL_law_1612 ?_
  refine wp_sload1_n dL_law_1613 rfl rfl ?_
  refine il_3 dL_law_1614 ?_
  refine ic_1 dL_law_1615 ?_
  refine wp_iadd dL_law_1616 (r32 (by omega) (by omega)) ?_
  refine wp_sld dL_law_1617 (by omega) (by omega) ?_
  refine wp_bz dL_law_1618 dL_law_1621 dL_law_1622 dL_law_1625 ?_
  refine c_L_193 dL_law_1626 rfl tt336 (Nat.le_of_ble_eq_true rfl) (by omega) ?_
  refine wX9_game (by omega) V1.M (fun h2 E2 => ?_)
  have V2 : INV h2 R I L := V1.lk (fun o ho => E2 o (by simp; omega)) (by rw [E2 324 (by decide)]; exact V1.z0)
  refine pv_i ?_
  refine wp_icmp_eq 1954 dL_law_1629 rfl (fun c1629 => ?_) (fun c1629 => ?_)
  · exact go _ _ _ _ _ _ V2
  · exact absurd rfl c1629

theorem law_c42 {G : GT} {δ : Nat} {h hl : Nat → Int → Int} {b : Bool × Bool} {Q : V → Hp → Prop} {R I : Int → Int} {L : Laws} {i : Int} (hδ : δ ≤ 800) (V : INV h R I L) (i0 : 0 ≤ i) (i1 : i + 6 ≤ gL G) (g31 : (gL G : Int) < 2147483648) (go : ∀ (h' hl' : Nat → Int → Int) (b' : Bool × Bool) (R' I' : Int → Int) (L' : Laws), INV h' R' I' L' → WP G δ 0 0 ML_law 1954 [vs 1, vr (1), vr (336), vi i] [] (HS h' hl' b') Q) : WP G δ 0 0 ML_law 1634 [vs 1, vr (1), vr (336), vi i] [] (HS h hl b) Q := by
  refine al_1 dL_law_1634 ?_
  refine wp_sload1_n dL_law_1635 rfl rfl ?_
  refine il_3 dL_law_1636 ?_
  refine ic_1 dL_law_1637 ?_
  refine wp_iadd dL_law_1638 (r32 (by omega) (by omega)) ?_
  refine wp_sld dL_law_1639 (by omega) (by omega) ?_
  refine wp_sload1_n dL_law_1640 rfl rfl ?_
  refine il_3 dL_law_1641 ?_
  refine ic_2 dL_law_1642 ?_
  refine wp_iadd dL_law_1643 (r32 (by omega) (by omega)) ?_
  refine wp_sld dL_law_1644 (by omega) (by omega) ?_
  refine wp_bz dL_law_1645 dL_law_1648 dL_law_1649 dL_law_1652 ?_
  refine c_L_194 dL_law_1653 rfl tt1 (Nat.le_of_ble_eq_true rfl) (by omega) ?_
  refine wX8_whodid (by omega) V.2.1 V.z0 V.i1c (fun h1 E1 z1 => ?_)
  have V1 : INV h1 R I L := V.lk (fun o ho => E1 o (by omega)) z1
  refine pv_i ?_
  refine al_2 dL_law_1656 ?_
  refine wp_sload1_n dL_law_1657 rfl rfl ?_
  refine il_3 dL_law_1658 ?_
  refine ic_1 dL_law_1659 ?_
  refine wp_iadd dL_law_1660 (r32 (by omega) (by omega)) ?_
  refine wp_sld dL_law_1661 (by omega) (by omega) ?_
  refine wp_sload1_n dL_law_1662 rfl rfl ?_
  refine il_3 dL_law_1663 ?_
  refine ic_2 dL_law_1664 ?_
  refine wp_iadd dL_law_1665 (r32 (by omega) (by omega)) ?_
  refine wp_sld dL_law_1666 (by omega) (by omega) ?_
  refine wp_bz dL_law_1667 dL_law_1670 dL_law_1671 dL_law_1674 ?_
  refine c_L_197 dL_law_1675 rfl tt336 (Nat.le_of_ble_eq_true rfl) (by omega) ?_
  refine wX9_whodid (by omega) V1.M V1.i3c ?_
  refine pv_i ?_
  refine wp_icmp_eq 1954 dL_law_1678 rfl (fun c1678 => ?_) (fun c1678 => ?_)
  · exact go _ _ _ _ _ _ V1
  · exact absurd rfl c1678

theorem law_c43 {G : GT} {δ : Nat} {h hl : Nat → Int → Int} {b : Bool × Bool} {Q : V → Hp → Prop} {R I : Int → Int} {L : Laws} {i : Int} (hδ : δ ≤ 800) (V : INV h R I L) (i0 : 0 ≤ i) (i1 : i + 6 ≤ gL G) (g31 : (gL G : Int) < 2147483648) (go : ∀ (h' hl' : Nat → Int → Int) (b' : Bool × Bool) (R' I' : Int → Int) (L' : Laws), INV h' R' I' L' → WP G δ 0 0 ML_law 1954 [vs 1, vr (1), vr (336), vi i] [] (HS h' hl' b') Q) : WP G δ 0 0 ML_law 1683 [vs 1, vr (1), vr (336), vi i] [] (HS h hl b) Q := by
  refine al_1 dL_law_1683 ?_
  refine c_L_198 dL_law_1684 rfl tt1 (Nat.le_of_ble_eq_true rfl) (by omega) ?_
  refine wX8_stretches (by omega) V.2.1 ?_
  refine pv_i ?_
  refine al_2 dL_law_1687 ?_
  refine c_L_201 dL_law_1688 rfl tt336 (Nat.le_of_ble_eq_true rfl) (by omega) ?_
  refine wX9_stretches (by omega) V.M ?_
  refine pv_i ?_
  refine wp_icmp_eq 1954 dL_law_1691 rfl (fun c1691 => ?_) (fun c1691 => ?_)
  · exact go _ _ _ _ _ _ V
  · exact absurd rfl c1691

theorem law_c44 {G : GT} {δ : Nat} {h hl : Nat → Int → Int} {b : Bool × Bool} {Q : V → Hp → Prop} {R I : Int → Int} {L : Laws} {i : Int} (hδ : δ ≤ 800) (V : INV h R I L) (i0 : 0 ≤ i) (i1 : i + 6 ≤ gL G) (g31 : (gL G : Int) < 2147483648) (go : ∀ (h' hl' : Nat → Int → Int) (b' : Bool × Bool) (R' I' : Int → Int) (L' : Laws), INV h' R' I' L' → WP G δ 0 0 ML_law 1954 [vs 1, vr (1), vr (336), vi i] [] (HS h' hl' b') Q) : WP G δ 0 0 ML_law 1696 [vs 1, vr (1), vr (336), vi i] [] (HS h hl b) Q := by
  refine al_1 dL_law_1696 ?_
  refine wp_sload1_n dL_law_1697 rfl rfl ?_
  refine il_3 dL_law_1698 ?_
  refine ic_1 dL_law_1699 ?_
  refine wp_iadd dL_law_1700 (r32 (by omega) (by omega)) ?_
  refine wp_sld dL_law_1701 (by omega) (by omega) ?_
  refine wp_bz dL_law_1702 dL_law_1705 dL_law_1706 dL_law_1709 ?_
  refine c_L_202 dL_law_1710 rfl tt1 (Nat.le_of_ble_eq_true rfl) (by omega) ?_
  refine wX8_stretch (by omega) V.2.1 bz_01 ?_
  refine pv_i ?_
  refine al_2 dL_law_1713 ?_
  refine wp_sload1_n dL_law_1714 rfl rfl ?_
  refine il_3 dL_law_1715 ?_
  refine ic_1 dL_law_1716 ?_
  refine wp_iadd dL_law_1717 (r32 (by omega) (by omega)) ?_
  refine wp_sld dL_law_1718 (by omega) (by omega) ?_
  refine wp_bz dL_law_1719 dL_law_1722 dL_law_1723 dL_law_1726 ?_
  refine c_L_205 dL_law_1727 rfl tt336 (Nat.le_of_ble_eq_true rfl) (by omega) ?_
  refine wX9_stretch (by omega) V.M ?_
  refine pv_i ?_
  refine wp_icmp_eq 1954 dL_law_1730 rfl (fun c1730 => ?_) (fun c1730 => ?_)
  · exact go _ _ _ _ _ _ V
  · exact absurd rfl c1730

theorem law_c45 {G : GT} {δ : Nat} {h hl : Nat → Int → Int} {b : Bool × Bool} {Q : V → Hp → Prop} {R I : Int → Int} {L : Laws} {i : Int} (hδ : δ ≤ 800) (V : INV h R I L) (i0 : 0 ≤ i) (i1 : i + 6 ≤ gL G) (g31 : (gL G : Int) < 2147483648) (go : ∀ (h' hl' : Nat → Int → Int) (b' : Bool × Bool) (R' I' : Int → Int) (L' : Laws), INV h' R' I' L' → WP G δ 0 0 ML_law 1954 [vs 1, vr (1), vr (336), vi i] [] (HS h' hl' b') Q) : WP G δ 0 0 ML_law 1735 [vs 1, vr (1), vr (336), vi i] [] (HS h hl b) Q := by
  refine al_1 dL_law_1735 ?_
  refine wp_sload1_n dL_law_1736 rfl rfl ?_
  refine il_3 dL_law_1737 ?_
  refine ic_1 dL_law_1738 ?_
  refine wp_iadd dL_law_1739 (r32 (by omega) (by omega)) ?_
  refine wp_sld dL_law_1740 (by omega) (by omega) ?_
  refine wp_sload1_n dL_law_1741 rfl rfl ?_
  refine il_3 dL_law_1742 ?_
  refine ic_2 dL_law_1743 ?_
  refine wp_iadd dL_law_1744 (r32 (by omega) (by omega)) ?_
  refine wp_sld dL_law_1745 (by omega) (by omega) ?_
  refine wp_sload1_n dL_law_1746 rfl rfl ?_
  refine il_3 dL_law_1747 ?_
  refine ic_3 dL_law_1748 ?_
  refine wp_iadd dL_law_1749 (r32 (by omega) (by omega)) ?_
  refine wp_sld dL_law_1750 (by omega) (by omega) ?_
  refine c_L_206 dL_law_1751 rfl tt1 (Nat.le_of_ble_eq_true rfl) (by omega) ?_
  refine wX8_said (by omega) V.2.1 (fun h1 E1 C1 => ?_)
  have M1 : MT h1 R L := V.M.o (E1 337 (by omega)) (E1 339 (by omega))
  refine pv_i ?_
  refine al_2 dL_law_1754 ?_
  refine wp_sload1_n dL_law_1755 rfl rfl ?_
  refine il_3 dL_law_1756 ?_
  refine ic_1 dL_law_1757 ?_
  refine wp_iadd dL_law_1758 (r32 (by omega) (by omega)) ?_
  refine wp_sld dL_law_1759 (by omega) (by omega) ?_
  refine wp_sload1_n dL_law_1760 rfl rfl ?_
  refine il_3 dL_law_1761 ?_
  refine ic_2 dL_law_1762 ?_
  refine wp_iadd dL_law_1763 (r32 (by omega) (by omega)) ?_
  refine wp_sld dL_law_1764 (by omega) (by omega) ?_
  refine wp_sload1_n dL_law_1765 rfl rfl ?_
  refine il_3 dL_law_1766 ?_
  refine ic_3 dL_law_1767 ?_
  refine wp_iadd dL_law_1768 (r32 (by omega) (by omega)) ?_
  refine wp_sld dL_law_1769 (by omega) (by omega) ?_
  refine c_L_209 dL_law_1770 rfl tt336 (Nat.le_of_ble_eq_true rfl) (by omega) ?_
  refine wX9_said (by omega) M1 (fun h2 hl2 E2 M2 => ?_)
  refine pv_i ?_
  refine wp_icmp_eq 1954 dL_law_1773 rfl (fun c1773 => ?_) (fun c1773 => ?_)
  · exact go _ _ _ _ _ _ (V.st C1 M2.1 (T_sai V.2.2.1 V.V) (k2_sai V.V) E1 E2.1 E2.2)
  · exact absurd rfl c1773

theorem law_c46 {G : GT} {δ : Nat} {h hl : Nat → Int → Int} {b : Bool × Bool} {Q : V → Hp → Prop} {R I : Int → Int} {L : Laws} {i : Int} (hδ : δ ≤ 800) (V : INV h R I L) (i0 : 0 ≤ i) (i1 : i + 6 ≤ gL G) (g31 : (gL G : Int) < 2147483648) (go : ∀ (h' hl' : Nat → Int → Int) (b' : Bool × Bool) (R' I' : Int → Int) (L' : Laws), INV h' R' I' L' → WP G δ 0 0 ML_law 1954 [vs 1, vr (1), vr (336), vi i] [] (HS h' hl' b') Q) : WP G δ 0 0 ML_law 1778 [vs 1, vr (1), vr (336), vi i] [] (HS h hl b) Q := by
  refine al_1 dL_law_1778 ?_
  refine c_L_210 dL_law_1779 rfl tt1 (Nat.le_of_ble_eq_true rfl) (by omega) ?_
  refine wX8_whose (by omega) V.2.1 (fun h1 E1 => ?_)
  have V1 : INV h1 R I L := V.lk (fun o ho => E1 o (by simp; omega)) (by rw [E1 324 (by decide)]; exact V.z0)
  refine pv_i ?_
  refine al_2 dL_law_1782 ?_
  refine c_L_213 dL_law_1783 rfl tt336 (Nat.le_of_ble_eq_true rfl) (by omega) ?_
  refine wX9_whose (by omega) V1.M (fun h2 hl2 E2 => ?_)
  have V2 : INV h2 R I L := V1.lk (fun o ho => E2 o (by simp; omega)) (by rw [E2 324 (by decide)]; exact V1.z0)
  refine pv_i ?_
  refine wp_icmp_eq 1954 dL_law_1786 rfl (fun c1786 => ?_) (fun c1786 => ?_)
  · exact go _ _ _ _ _ _ V2
  · exact absurd rfl c1786

theorem law_c47 {G : GT} {δ : Nat} {h hl : Nat → Int → Int} {b : Bool × Bool} {Q : V → Hp → Prop} {R I : Int → Int} {L : Laws} {i : Int} (hδ : δ ≤ 800) (V : INV h R I L) (i0 : 0 ≤ i) (i1 : i + 6 ≤ gL G) (g31 : (gL G : Int) < 2147483648) (go : ∀ (h' hl' : Nat → Int → Int) (b' : Bool × Bool) (R' I' : Int → Int) (L' : Laws), INV h' R' I' L' → WP G δ 0 0 ML_law 1954 [vs 1, vr (1), vr (336), vi i] [] (HS h' hl' b') Q) : WP G δ 0 0 ML_law 1791 [vs 1, vr (1), vr (336), vi i] [] (HS h hl b) Q := by
  refine al_1 dL_law_1791 ?_
  refine wp_sload1_n dL_law_1792 rfl rfl ?_
  refine il_3 dL_law_1793 ?_
  refine ic_1 dL_law_1794 ?_
  refine wp_iadd dL_law_1795 (r32 (by omega) (by omega)) ?_
  refine wp_sld dL_law_1796 (by omega) (by omega) ?_
  refine wp_bz dL_law_1797 dL_law_1800 dL_law_1801 dL_law_1804 ?_
  refine c_L_214 dL_law_1805 rfl tt1 (Nat.le_of_ble_eq_true rfl) (by omega) ?_
  refine wX8_blaze (by omega) V.2.1 ?_
  refine pv_i ?_
  refine al_2 dL_law_1808 ?_
  refine wp_sload1_n dL_law_1809 rfl rfl ?_
  refine il_3 dL_law_1810 ?_
  refine ic_1 dL_law_1811 ?_
  refine wp_iadd dL_law_1812 (r32 (by omega) (by omega)) ?_
  refine wp_sld dL_law_1813 (by omega) (by omega) ?_
  refine wp_bz dL_law_1814 dL_law_1817 dL_law_1818 dL_law_1821 ?_
  refine c_L_217 dL_law_1822 rfl tt336 (Nat.le_of_ble_eq_true rfl) (by omega) ?_
  refine wX9_blaze (by omega) V.M ?_
  refine pv_i ?_
  refine wp_icmp_eq 1954 dL_law_1825 rfl (fun c1825 => ?_) (fun c1825 => ?_)
  · exact go _ _ _ _ _ _ V
  · exact absurd rfl c1825

theorem law_c48 {G : GT} {δ : Nat} {h hl : Nat → Int → Int} {b : Bool × Bool} {Q : V → Hp → Prop} {R I : Int → Int} {L : Laws} {i : Int} (hδ : δ ≤ 800) (V : INV h R I L) (i0 : 0 ≤ i) (i1 : i + 6 ≤ gL G) (g31 : (gL G : Int) < 2147483648) (go : ∀ (h' hl' : Nat → Int → Int) (b' : Bool × Bool) (R' I' : Int → Int) (L' : Laws), INV h' R' I' L' → WP G δ 0 0 ML_law 1954 [vs 1, vr (1), vr (336), vi i] [] (HS h' hl' b') Q) : WP G δ 0 0 ML_law 1830 [vs 1, vr (1), vr (336), vi i] [] (HS h hl b) Q := by
  refine al_1 dL_law_1830 ?_
  refine c_L_218 dL_law_1831 rfl tt1 (Nat.le_of_ble_eq_true rfl) (by omega) ?_
  refine wX8_surest (by omega) V.2.1 ?_
  refine pv_i ?_
  refine al_2 dL_law_1834 ?_
  refine c_L_221 dL_law_1835 rfl tt336 (Nat.le_of_ble_eq_true rfl) (by omega) ?_
  refine wX9_surest (by omega) V.M ?_
  refine pv_i ?_
  refine wp_icmp_eq 1954 dL_law_1838 rfl (fun c1838 => ?_) (fun c1838 => ?_)
  · exact go _ _ _ _ _ _ V
  · exact absurd rfl c1838

theorem law_c49 {G : GT} {δ : Nat} {h hl : Nat → Int → Int} {b : Bool × Bool} {Q : V → Hp → Prop} {R I : Int → Int} {L : Laws} {i : Int} (hδ : δ ≤ 800) (V : INV h R I L) (i0 : 0 ≤ i) (i1 : i + 6 ≤ gL G) (g31 : (gL G : Int) < 2147483648) (go : ∀ (h' hl' : Nat → Int → Int) (b' : Bool × Bool) (R' I' : Int → Int) (L' : Laws), INV h' R' I' L' → WP G δ 0 0 ML_law 1954 [vs 1, vr (1), vr (336), vi i] [] (HS h' hl' b') Q) : WP G δ 0 0 ML_law 1843 [vs 1, vr (1), vr (336), vi i] [] (HS h hl b) Q := by
  refine al_1 dL_law_1843 ?_
  refine c_L_222 dL_law_1844 rfl tt1 (Nat.le_of_ble_eq_true rfl) (by omega) ?_
  refine wX8_poorest (by omega) V.2.1 ?_
  refine pv_i ?_
  refine al_2 dL_law_1847 ?_
  refine c_L_225 dL_law_1848 rfl tt336 (Nat.le_of_ble_eq_true rfl) (by omega) ?_
  refine wX9_poorest (by omega) V.M ?_
  refine pv_i ?_
  refine wp_icmp_eq 1954 dL_law_1851 rfl (fun c1851 => ?_) (fun c1851 => ?_)
  · exact go _ _ _ _ _ _ V
  · exact absurd rfl c1851

theorem law_c50 {G : GT} {δ : Nat} {h hl : Nat → Int → Int} {b : Bool × Bool} {Q : V → Hp → Prop} {R I : Int → Int} {L : Laws} {i : Int} (hδ : δ ≤ 800) (V : INV h R I L) (i0 : 0 ≤ i) (i1 : i + 6 ≤ gL G) (g31 : (gL G : Int) < 2147483648) (go : ∀ (h' hl' : Nat → Int → Int) (b' : Bool × Bool) (R' I' : Int → Int) (L' : Laws), INV h' R' I' L' → WP G δ 0 0 ML_law 1954 [vs 1, vr (1), vr (336), vi i] [] (HS h' hl' b') Q) : WP G δ 0 0 ML_law 1856 [vs 1, vr (1), vr (336), vi i] [] (HS h hl b) Q := by
  refine al_1 dL_law_1856 ?_
  refine c_L_226 dL_law_1857 rfl tt1 (Nat.le_of_ble_eq_true rfl) (by omega) ?_
  refine wX8_solvent (by omega) V.2.1 (fun h1 E1 => ?_)
  have V1 : INV h1 R I L := V.lk (fun o ho => E1 o (by simp; omega)) (by rw [E1 324 (by decide)]; exact V.z0)
  refine pv_i ?_
  refine al_2 dL_law_1860 ?_
  refine c_L_229 dL_law_1861 rfl tt336 (Nat.le_of_ble_eq_true rfl) (by omega) ?_
  refine wX9_solvent (by omega) V1.M (fun h2 hl2 E2 => ?_)
  have V2 : INV h2 R I L := V1.lk (fun o ho => E2 o (by simp; omega)) (by rw [E2 324 (by decide)]; exact V1.z0)
  refine pv_i ?_
  refine wp_icmp_eq 1954 dL_law_1864 rfl (fun c1864 => ?_) (fun c1864 => ?_)
  · exact go _ _ _ _ _ _ V2
  · exact absurd rfl c1864

theorem law_c51 {G : GT} {δ : Nat} {h hl : Nat → Int → Int} {b : Bool × Bool} {Q : V → Hp → Prop} {R I : Int → Int} {L : Laws} {i : Int} (hδ : δ ≤ 800) (V : INV h R I L) (i0 : 0 ≤ i) (i1 : i + 6 ≤ gL G) (g31 : (gL G : Int) < 2147483648) (go : ∀ (h' hl' : Nat → Int → Int) (b' : Bool × Bool) (R' I' : Int → Int) (L' : Laws), INV h' R' I' L' → WP G δ 0 0 ML_law 1954 [vs 1, vr (1), vr (336), vi i] [] (HS h' hl' b') Q) : WP G δ 0 0 ML_law 1869 [vs 1, vr (1), vr (336), vi i] [] (HS h hl b) Q := by
  refine al_1 dL_law_1869 ?_
  refine c_L_230 dL_law_1870 rfl tt1 (Nat.le_of_ble_eq_true rfl) (by omega) ?_
  refine wX8_fool (by omega) V.2.1 ?_
  refine pv_i ?_
  refine al_2 dL_law_1873 ?_
  refine c_L_233 dL_law_1874 rfl tt336 (Nat.le_of_ble_eq_true rfl) (by omega) ?_
  refine wX9_fool (by omega) V.M ?_
  refine pv_i ?_
  refine wp_icmp_eq 1954 dL_law_1877 rfl (fun c1877 => ?_) (fun c1877 => ?_)
  · exact go _ _ _ _ _ _ V
  · exact absurd rfl c1877

theorem law_c52 {G : GT} {δ : Nat} {h hl : Nat → Int → Int} {b : Bool × Bool} {Q : V → Hp → Prop} {R I : Int → Int} {L : Laws} {i : Int} (hδ : δ ≤ 800) (V : INV h R I L) (i0 : 0 ≤ i) (i1 : i + 6 ≤ gL G) (g31 : (gL G : Int) < 2147483648) (go : ∀ (h' hl' : Nat → Int → Int) (b' : Bool × Bool) (R' I' : Int → Int) (L' : Laws), INV h' R' I' L' → WP G δ 0 0 ML_law 1954 [vs 1, vr (1), vr (336), vi i] [] (HS h' hl' b') Q) : WP G δ 0 0 ML_law 1882 [vs 1, vr (1), vr (336), vi i] [] (HS h hl b) Q := by
  refine al_1 dL_law_1882 ?_
  refine wp_sload1_n dL_law_1883 rfl rfl ?_
  refine il_3 dL_law_1884 ?_
  refine ic_1 dL_law_1885 ?_
  refine wp_iadd dL_law_1886 (r32 (by omega) (by omega)) ?_
  refine wp_sld dL_law_1887 (by omega) (by omega) ?_
  refine c_L_234 dL_law_1888 rfl tt1 (Nat.le_of_ble_eq_true rfl) (by omega) ?_
  refine wX8_ledger (by omega) V.2.1 ?_
  refine pv_i ?_
  refine al_2 dL_law_1891 ?_
  refine wp_sload1_n dL_law_1892 rfl rfl ?_
  refine il_3 dL_law_1893 ?_
  refine ic_1 dL_law_1894 ?_
  refine wp_iadd dL_law_1895 (r32 (by omega) (by omega)) ?_
  refine wp_sld dL_law_1896 (by omega) (by omega) ?_
  refine c_L_237 dL_law_1897 rfl tt336 (Nat.le_of_ble_eq_true rfl) (by omega) ?_
  refine wX9_ledger (by omega) V.M ?_
  refine pv_i ?_
  refine wp_icmp_eq 1954 dL_law_1900 rfl (fun c1900 => ?_) (fun c1900 => ?_)
  · exact go _ _ _ _ _ _ V
  · exact absurd rfl c1900
