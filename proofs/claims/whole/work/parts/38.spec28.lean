/-! what comes: without the book -/
def eqB (R R' : Int → Int) : Prop := ∀ j : Int, j < 1253 → j ≠ 12 → R' j = R j
section FORE
variable {h h' : Nat → Int → Int} {R R' : Int → Int} {L : Laws} {d p q l t x : Int} {w w' : Bool}
theorem LwC.c {t : Nat} {n : Int} (C : LwC h t n L) (n4 : n ≤ 4) (e : ∀ o, t + 20 ≤ o → o < t + 36 → h' o = h o) : LwC h' t n L := by
  intro i i0 i1
  obtain ⟨a, b, c⟩ := C i i0 i1
  have e0 := e (t + 20 + 4 * i.toNat) (by omega) (by omega)
  have e3 := e (t + 20 + 4 * i.toNat + 3) (by omega) (by omega)
  have ee : ety h' (t + 20 + 4 * i.toNat) = ety h (t + 20 + 4 * i.toNat) := ety_c e0 e3
  rw [ee, e0]
  exact ⟨a, b, c⟩
theorem eqB.rf : eqB R R := fun _ _ _ => rfl
theorem eqB.u (e : eqB R R') {k x x' : Int} (ex : x' = x) : eqB (ur R k x) (ur R' k x') := fun j a c => by
  unfold ur; by_cases z : j = k
  · rw [if_pos z, if_pos z, ex]
  · rw [if_neg z, if_neg z]; exact e j a c
theorem nB_B (e : eqB R R') (d0 : 0 ≤ d) (d1 : d < 8) (p0 : 0 ≤ p) (p1 : p < 4) : nB R' d p = nB R d p := by
  funext i; unfold nB
  rw [e 8 (by decide) (by decide), e (21 + p) (by omega) (by omega), e 10 (by decide) (by decide), e (29 + d) (by omega) (by omega), e (13 + 2 * p) (by omega) (by omega), e (14 + 2 * p) (by omega) (by omega)]
theorem nF_B (e : eqB R R') (d0 : 0 ≤ d) (d1 : d < 8) (p0 : 0 ≤ p) (p1 : p < 4) : nF R' d p = nF R d p := by
  funext i; unfold nF; rw [nB_B e d0 d1 p0 p1]
theorem nL_B (e : eqB R R') (d0 : 0 ≤ d) (d1 : d < 8) (p0 : 0 ≤ p) (p1 : p < 4) (q0 : 0 ≤ q) (q1 : q < 4) : nL R' d p q = nL R d p q := by
  funext i; unfold nL; rw [nB_B e d0 d1 p0 p1, e (21 + q) (by omega) (by omega), e (13 + 2 * q) (by omega) (by omega)]
theorem fillsV_B (e : eqB R R') (d0 : 0 ≤ d) (d1 : d < 8) (p0 : 0 ≤ p) (p1 : p < 4) : fillsV L R' t d p = fillsV L R t d p := by
  unfold fillsV
  rw [e 2 (by decide) (by decide), e (29 + d) (by omega) (by omega), e 10 (by decide) (by decide), nF_B e d0 d1 p0 p1]
theorem oddsV_B (e : eqB R R') (d0 : 0 ≤ d) (d1 : d < 8) (p0 : 0 ≤ p) (p1 : p < 4) (q0 : 0 ≤ q) (q1 : q < 4) : oddsV L R' d p q = oddsV L R d p q := by
  unfold oddsV
  rw [e 2 (by decide) (by decide), e 3 (by decide) (by decide), e (21 + p) (by omega) (by omega), e 10 (by decide) (by decide), nL_B e d0 d1 p0 p1 q0 q1]
theorem loserV_B (e : eqB R R') (d0 : 0 ≤ d) (d1 : d < 8) (p0 : 0 ≤ p) (p1 : p < 4) (q0 : 0 ≤ q) (q1 : q < 4) : loserV L R' d p q = loserV L R d p q := by
  unfold loserV
  rw [e 9 (by decide) (by decide), oddsV_B e d0 d1 p0 p1 q0 q1]
theorem paidV_B (e : eqB R R') (d0 : 0 ≤ d) (d1 : d < 8) (p0 : 0 ≤ p) (p1 : p < 4) : paidV L R' d p = paidV L R d p := by
  unfold paidV
  rw [e 3 (by decide) (by decide), e (13 + 2 * p) (by omega) (by omega), fillsV_B e d0 d1 p0 p1]
theorem rDraw_B (e : eqB R R') : eqB (rDraw R) (rDraw R') := e.u (by rw [e 9 (by decide) (by decide)])
theorem rPay0_B (e : eqB R R') (d0 : 0 ≤ d) (d1 : d < 8) (p0 : 0 ≤ p) (p1 : p < 4) : eqB (rPay0 L R d p) (rPay0 L R' d p) :=
  ((e.u (by rw [e (14 + 2 * p) (by omega) (by omega)])).u (by rw [e (13 + 2 * p) (by omega) (by omega), paidV_B e d0 d1 p0 p1])).u (by rw [e 10 (by decide) (by decide), e (29 + d) (by omega) (by omega)])
theorem rArg_B (e : eqB R R') (V : RV R) (V' : RV R') (d0 : 0 ≤ d) (d1 : d < R 1) (p0 : 0 ≤ p) (p1 : p < R 0) (q0 : 0 ≤ q) (q1 : q < R 0) : eqB (rArg L w R d p q) (rArg L w' R' d p q) := by
  have n := V.n
  have z0 := e 0 (by decide) (by decide)
  have z1 := e 1 (by decide) (by decide)
  have di := V.di d d0 d1
  have di' := V'.di d d0 (by omega)
  have eD := rDraw_B e
  have lr := loserV_R (L := L) (d := d) p0 p1 q0 q1
  have y0 : rDraw R 0 = R 0 := rDraw_o (by decide)
  have y0' : rDraw R' 0 = R 0 := by rw [rDraw_o (by decide), z0]
  have y29 : rDraw R (29 + d) = R (29 + d) := rDraw_o (by omega)
  have y29' : rDraw R' (29 + d) = R' (29 + d) := rDraw_o (by omega)
  unfold rArg
  rw [loserV_B e d0 (by omega) p0 (by omega) q0 (by omega)]
  intro j a c
  rw [rPay_o (rDraw_V V'.2.1) (by rw [y29']; exact di'.1) (by rw [y29']; exact di'.2) lr.1 (by omega) a c, rPay_o (rDraw_V V.2.1) (by rw [y29]; exact di.1) (by rw [y29]; exact di.2) lr.1 (by omega) a c]
  exact rPay0_B eD d0 (by omega) lr.1 (by omega) j a c
theorem allOil_B (e : eqB R R') (V : RV R) : allOil R' = allOil R := allOil_c (e 0 (by decide) (by decide)) (fun i i0 i1 => by have := V.n; exact e _ (by omega) (by omega))
theorem rQuar_B (e : eqB R R') (V : RV R) (V' : RV R') : eqB (rQuar L w R) (rQuar L w' R') := by
  have z0 := e 0 (by decide) (by decide)
  have z1 := e 1 (by decide) (by decide)
  unfold rQuar
  rw [z0, z1]
  by_cases u : 0 < R 1 ∧ 1 < R 0
  · rw [if_pos u, if_pos u]
    have V1 := rDraw_RV V; have V2 := rDraw_RV V1; have V3 := rDraw_RV V2
    have W1 := rDraw_RV V'; have W2 := rDraw_RV W1; have W3 := rDraw_RV W2
    have e1 := rDraw_B e; have e2 := rDraw_B e1; have e3 := rDraw_B e2
    have y0 : rDraw (rDraw (rDraw R)) 0 = R 0 := by rw [rDraw_o (by decide), rDraw_o (by decide), rDraw_o (by decide)]
    have y1 : rDraw (rDraw (rDraw R)) 1 = R 1 := by rw [rDraw_o (by decide), rDraw_o (by decide), rDraw_o (by decide)]
    rw [e 9 (by decide) (by decide), e1 9 (by decide) (by decide), e2 9 (by decide) (by decide)]
    have a1 := Int.emod_nonneg (R 9) (show R 1 ≠ 0 by omega)
    have a2 := Int.emod_lt_of_pos (R 9) (show 0 < R 1 by omega)
    have b1 := Int.emod_nonneg (rDraw R 9) (show R 0 ≠ 0 by omega)
    have b2 := Int.emod_lt_of_pos (rDraw R 9) (show 0 < R 0 by omega)
    have c1 := Int.emod_nonneg (rDraw (rDraw R) 9) (show R 0 - 1 ≠ 0 by omega)
    have c2 := Int.emod_lt_of_pos (rDraw (rDraw R) 9) (show 0 < R 0 - 1 by omega)
    exact rArg_B e3 V3 W3 a1 (by omega) b1 (by omega) (by split <;> omega) (by split <;> omega)
  · rw [if_neg u, if_neg u]; exact e
theorem rPass_B (e : eqB R R') (V : RV R) (V' : RV R') : eqB (rPass L w R) (rPass L w' R') := by
  have eq := rQuar_B (L := L) (w := w) (w' := w') e V V'
  have q := rQuar_ok (L := L) (w := w) V
  have qV : RV (rQuar L w R) := V.nw q.2.1 q.1
  unfold rPass rEnd
  rw [allOil_B e V, allOil_B eq qV]
  exact ((((rDraw_B eq).u (by rw [eq 10 (by decide) (by decide), eq 9 (by decide) (by decide)])).u rfl).u (by rw [eq 8 (by decide) (by decide)]))
theorem rNts_B : ∀ (n : Nat) (R R' : Int → Int), eqB R R' → RV R → RV R' → eqB (rNts L false w n R) (rNts L false w' n R')
  | 0, R, R', e, _, _ => e
  | n + 1, R, R', e, V, V' => by
    have z8 := e 8 (by decide) (by decide)
    by_cases u : R 8 < 9999
    · have a := rNts_t (L := L) (s := false) (w := w) (n := n) u
      have c := rNts_t (L := L) (s := false) (w := w') (n := n) (R := R') (by omega)
      rw [if_neg (by decide)] at a c
      rw [a, c]
      have p := rPass_ok (L := L) (w := w) V u
      have p' := rPass_ok (L := L) (w := w') V' (by omega)
      exact rNts_B n _ _ (rPass_B e V V') (V.nw p.2.1 p.1) (V'.nw p'.2.1 p'.1)
    · rw [rNts_f u, rNts_f (by omega)]; exact e
theorem rNts_ok {s : Bool} : ∀ (n : Nat) (R : Int → Int), RV R → RV (rNts L s w n R)
  | 0, R, V => V
  | n + 1, R, V => by
    by_cases u : R 8 < 9999
    · rw [rNts_t u]
      have V' : RV (if s then rKeep R else R) := by split; exact rKeep_V V; exact V
      have k8 : (if s then rKeep R else R) 8 = R 8 := by split; exact rKeep_o V (by decide) (by decide); rfl
      have p := rPass_ok (L := L) (w := w) V' (by omega)
      exact rNts_ok n _ (V'.nw p.2.1 p.1)
    · rw [rNts_f u]; exact V
theorem rNts_N : ∀ (n : Nat) (R : Int → Int), RV R → nowEq R (rNts L false w n R)
  | 0, R, _ => nowEq.rf
  | n + 1, R, V => by
    by_cases u : R 8 < 9999
    · have a := rNts_t (L := L) (s := false) (w := w) (n := n) u
      rw [if_neg (by decide)] at a
      rw [a]
      have p := rPass_ok (L := L) (w := w) V u
      exact p.2.1.tr (rNts_N n _ (V.nw p.2.1 p.1))
    · rw [rNts_f u]; exact nowEq.rf
/-- the book unwritten stays -/
theorem rArg_hi {j : Int} (p1 : p < 4) (q1 : q < 4) (j0 : 1253 ≤ j) : rArg L false R d p q j = R j := by
  have l4 : loserV L R d p q < 4 := by unfold loserV; split <;> omega
  show rPay0 L (rDraw R) d (loserV L R d p q) j = R j
  unfold rPay0 rDraw
  rw [ur_n (by omega), ur_n (by omega), ur_n (by omega), ur_n (by omega)]
theorem rPass_hi {j : Int} (V : RV R) (j0 : 1253 ≤ j) : rPass L false R j = R j := by
  have q : rQuar L false R j = R j := by
    unfold rQuar
    split
    · rename_i u
      have n := V.n
      have b2 := Int.emod_lt_of_pos (rDraw R 9) (show 0 < R 0 by omega)
      have c2 := Int.emod_lt_of_pos (rDraw (rDraw R) 9) (show 0 < R 0 - 1 by omega)
      rw [rArg_hi (by omega) (by split <;> omega) j0]
      rw [rDraw_o (by omega), rDraw_o (by omega), rDraw_o (by omega)]
    · rfl
  unfold rPass rEnd
  rw [ur_n (by omega), ur_n (by omega), ur_n (by omega), rDraw_o (by omega), q]
theorem rNts_hi {j : Int} (j0 : 1253 ≤ j) : ∀ (n : Nat) (R : Int → Int), RV R → rNts L false false n R j = R j
  | 0, R, _ => rfl
  | n + 1, R, V => by
    by_cases u : R 8 < 9999
    · have a := rNts_t (L := L) (s := false) (w := false) (n := n) u
      rw [if_neg (by decide)] at a
      have p := rPass_ok (L := L) (w := false) V u
      rw [a, rNts_hi j0 n _ (V.nw p.2.1 p.1), rPass_hi V j0]
    · rw [rNts_f u]
def aFore (L : Laws) (R : Int → Int) (n v : Int) : Int := if 1 ≤ n ∧ n ≤ 60 ∧ 0 ≤ v ∧ v ≤ 1 then (if v = 0 then rNts L false true n.toNat R 10 else allOil (rNts L false true n.toNat R)) else -1
theorem fore_lit (n : Nat) (V : RV R) : rNts L false false n R 10 = rNts L false true n R 10 := rNts_B n R R eqB.rf V V 10 (by decide) (by decide)
theorem fore_oil (n : Nat) (V : RV R) : allOil (rNts L false false n R) = allOil (rNts L false true n R) := allOil_B (rNts_B n R R eqB.rf V V) (rNts_ok n R V)
/-- all but the model's row and its scratch -/
def eqW (h h' : Nat → Int → Int) : Prop := eqX [336, 337, 342, 344, 345, 346, 347, 348, 349, 350] h h' ∧ ∀ k : Int, k ≠ 24 → h' 336 k = h 336 k
theorem eqM.W (a : eqM h h') : eqW h h' := ⟨a.1.mono (by decide), a.2⟩
end FORE

theorem wX8_foretold {G : GT} {δ : Nat} {h hl : Nat → Int → Int} {b : Bool × Bool} {Q : V → Hp → Prop} {n v : Int} {R : Int → Int} {L : Laws} (hδ : δ ≤ 1580) (C : CT h R L)  (hQ : ∀ h' : Nat → Int → Int, (∀ o, (o < 2 ∨ (22 ≤ o ∧ o < 38) ∨ (158 ≤ o ∧ o < 332) ∨ 336 ≤ o) → h' o = h o) → CT h' R L → Q (vi (aFore L R n v)) (HS h' hl b)) : WP G δ 0 0 MX8_foretold 0 [vr (1), vi n, vi v, vn] [] (HS h hl b) Q := by
  obtain ⟨⟨s0, s3, s4, s1, s2, s5⟩, ⟨t0, t1, t5, t6, t7⟩, ⟨g7, g8, g11, g10, g10x⟩⟩ := C.1.f
  have vn' := C.2.1.n
  have vw := C.2.1.w
  refine il_1 dX8_foretold_0 ?_
  refine ic_1 dX8_foretold_1 ?_
  refine wp_icmp_lt 20 dX8_foretold_2 rfl (fun c2 => ?_) (fun c2 => ?_)
  · refine ic_m1 dX8_foretold_20 ?_
    refine wp_ireti dX8_foretold_21 rfl ?_
    exact qv (hQ h (fun _ _ => rfl) C) (by unfold aFore; rw [if_neg (by omega)])
  · refine il_1 dX8_foretold_5 ?_
    refine bi_60 dX8_foretold_6 ?_
    refine wp_icmp_gt 20 dX8_foretold_8 rfl (fun c8 => ?_) (fun c8 => ?_)
    · refine ic_m1 dX8_foretold_20 ?_
      refine wp_ireti dX8_foretold_21 rfl ?_
      exact qv (hQ h (fun _ _ => rfl) C) (by unfold aFore; rw [if_neg (by omega)])
    · refine il_2 dX8_foretold_11 ?_
      refine wp_if_lt 20 dX8_foretold_12 rfl (fun c12 => ?_) (fun c12 => ?_)
      · refine ic_m1 dX8_foretold_20 ?_
        refine wp_ireti dX8_foretold_21 rfl ?_
        exact qv (hQ h (fun _ _ => rfl) C) (by unfold aFore; rw [if_neg (by omega)])
      · refine il_2 dX8_foretold_15 ?_
        refine ic_1 dX8_foretold_16 ?_
        refine wp_icmp_le 22 dX8_foretold_17 rfl (fun c17 => ?_) (fun c17 => ?_)
        · refine al_0 dX8_foretold_22 ?_
          refine g_X8_43 (332) dX8_foretold_23 rfl tt1 (rr8_5 tt1) (by omega) ?_
          refine al_0 dX8_foretold_26 ?_
          refine g_X8_12 (2) dX8_foretold_27 rfl tt1 (rr8_0 tt1) (by omega) ?_
          refine g_X8_112 (3) dX8_foretold_30 rfl tt2 (rr7_0 tt2) (by omega) ?_
          refine c_X8_192 dX8_foretold_33 rfl tt332 (Nat.le_of_ble_eq_true rfl) (by omega) ?_
          refine wX5_copy (by omega) tt332 tt3 (by decide) (by omega) (by omega) ?_
          obtain ⟨h1, e1⟩ : ∃ h1, h1 = stC h 332 3 := ⟨_, rfl⟩
          rw [← e1]
          have O1 : ∀ x, x < 332 ∨ 335 < x → h1 x = h x := fun x hx => by rw [e1]; exact stC_o (by omega)
          have C0 : CT h1 R L := ⟨C.1.c (fun o a _ _ => O1 o (by omega)), C.2.1, C.2.2.c (by omega) (fun o a c => O1 o (by omega))⟩
          have S1 : SPR h1 332 R 0 8 1253 := by rw [e1]; exact SPR.cpG (o := 332) (q := 3) C.1.1 vw.2.2.2.2.2
          refine pv_n ?_
          refine al_0 dX8_foretold_36 ?_
          refine g_X8_12 (2) dX8_foretold_37 rfl tt1 (rr8_0 tt1) (by omega) ?_
          refine il_1 dX8_foretold_40 ?_
          refine ic_0 dX8_foretold_41 ?_
          refine c_X8_122 dX8_foretold_42 rfl tt2 (Nat.le_of_ble_eq_true rfl) (by omega) ?_
          refine wX7_passNights (sB := false) (by omega) rfl (by omega) (by omega) C0 (fun h3 E3 C1 => ?_)
          have z0 := C1.1.f.1.1
          have z1' := C1.1.f.1.2.2.2.1
          have v1 := C1.2.1.n
          have NN := rNts_N (L := L) (w := true) n.toNat R C.2.1
          have S3 : SPR h3 332 R 0 8 1253 := S1.c (fun o a c => E3 o (by omega))
          have p0 : h3 332 0 = R 0 := S3.1
          refine pv_i ?_
          refine wp_pop dX8_foretold_45 rfl ?_
          refine il_2 dX8_foretold_46 ?_
          refine wp_if_ne 63 dX8_foretold_47 rfl (fun c47 => ?_) (fun c47 => ?_)
          · refine al_0 dX8_foretold_63 ?_
            refine g_X8_12 (2) dX8_foretold_64 rfl tt1 (rr8_0 tt1) (by omega) ?_
            refine g_X8_112 (3) dX8_foretold_67 rfl tt2 (rr7_0 tt2) (by omega) ?_
            refine c_X8_118 dX8_foretold_70 rfl tt3 (Nat.le_of_ble_eq_true rfl) (by omega) ?_
            refine wX5_oilOfAll (by omega) (by omega) (by omega) (fun j j0 j1 => by rw [C1.1.oil j j0 (by omega)]; exact C1.2.1.oil j j0 (by omega)) ?_
            rw [show sumN (h3 4) (h3 3 0).toNat = allOil (rNts L false true n.toNat R) from by rw [z0]; exact sumN_c _ (fun j j0 j1 => C1.1.oil j j0 (by omega))]
            refine pv_i ?_
            refine is_3 dX8_foretold_73 rfl (by decide) ?_
            refine al_0 dX8_foretold_74 ?_
            refine g_X8_12 (2) dX8_foretold_75 rfl tt1 (rr8_0 tt1) (by omega) ?_
            refine g_X8_112 (3) dX8_foretold_78 rfl tt2 (rr7_0 tt2) (by omega) ?_
            refine al_0 dX8_foretold_81 ?_
            refine g_X8_43 (332) dX8_foretold_82 rfl tt1 (rr8_5 tt1) (by omega) ?_
            refine c_X8_192 dX8_foretold_85 rfl tt3 (Nat.le_of_ble_eq_true rfl) (by omega) ?_
            refine wX5_copy (by omega) tt3 tt332 (by decide) (by omega) (by omega) ?_
            obtain ⟨h4, e4⟩ : ∃ h4, h4 = stC h3 3 332 := ⟨_, rfl⟩
            rw [← e4]
            have O4 : ∀ x, x < 3 ∨ 6 < x → h4 x = h3 x := fun x hx => by rw [e4]; exact stC_o (by omega)
            have S4 : SPR h4 3 R 0 8 1253 := by rw [e4]; exact SPR.cpG (o := 3) (q := 332) S3 vw.2.2.2.2.2
            have NB : nowEq (rNts L false true n.toNat R) R := fun j hj => (NN j hj).symm
            have C4 : CT h4 R L := C1.nw NB S4 (fun o ho => O4 o (by simp at ho; omega)) C.2.1.2.1
            have EE : ∀ o, (o < 2 ∨ (22 ≤ o ∧ o < 38) ∨ (158 ≤ o ∧ o < 332) ∨ 336 ≤ o) → h4 o = h o := fun o ho => by rw [O4 o (by omega), E3 o (by omega), O1 o (by omega)]
            refine pv_n ?_
            refine il_3 dX8_foretold_88 ?_
            refine wp_ireti dX8_foretold_89 rfl ?_
            refine qv (hQ h4 EE C4) ?_
            unfold aFore
            rw [if_pos (by omega)]
            first | rw [if_pos (by omega)] | rw [if_neg (by omega)]
          · refine al_0 dX8_foretold_50 ?_
            refine g_X8_12 (2) dX8_foretold_51 rfl tt1 (rr8_0 tt1) (by omega) ?_
            refine g_X8_112 (3) dX8_foretold_54 rfl tt2 (rr7_0 tt2) (by omega) ?_
            refine g_X8_170 dX8_foretold_57 rfl tt3 ?_
            rw [z1']
            refine wp_goto 73 dX8_foretold_60 rfl ?_
            refine is_3 dX8_foretold_73 rfl (by decide) ?_
            refine al_0 dX8_foretold_74 ?_
            refine g_X8_12 (2) dX8_foretold_75 rfl tt1 (rr8_0 tt1) (by omega) ?_
            refine g_X8_112 (3) dX8_foretold_78 rfl tt2 (rr7_0 tt2) (by omega) ?_
            refine al_0 dX8_foretold_81 ?_
            refine g_X8_43 (332) dX8_foretold_82 rfl tt1 (rr8_5 tt1) (by omega) ?_
            refine c_X8_192 dX8_foretold_85 rfl tt3 (Nat.le_of_ble_eq_true rfl) (by omega) ?_
            refine wX5_copy (by omega) tt3 tt332 (by decide) (by omega) (by omega) ?_
            obtain ⟨h4, e4⟩ : ∃ h4, h4 = stC h3 3 332 := ⟨_, rfl⟩
            rw [← e4]
            have O4 : ∀ x, x < 3 ∨ 6 < x → h4 x = h3 x := fun x hx => by rw [e4]; exact stC_o (by omega)
            have S4 : SPR h4 3 R 0 8 1253 := by rw [e4]; exact SPR.cpG (o := 3) (q := 332) S3 vw.2.2.2.2.2
            have NB : nowEq (rNts L false true n.toNat R) R := fun j hj => (NN j hj).symm
            have C4 : CT h4 R L := C1.nw NB S4 (fun o ho => O4 o (by simp at ho; omega)) C.2.1.2.1
            have EE : ∀ o, (o < 2 ∨ (22 ≤ o ∧ o < 38) ∨ (158 ≤ o ∧ o < 332) ∨ 336 ≤ o) → h4 o = h o := fun o ho => by rw [O4 o (by omega), E3 o (by omega), O1 o (by omega)]
            refine pv_n ?_
            refine il_3 dX8_foretold_88 ?_
            refine wp_ireti dX8_foretold_89 rfl ?_
            refine qv (hQ h4 EE C4) ?_
            unfold aFore
            rw [if_pos (by omega)]
            first | rw [if_pos (by omega)] | rw [if_neg (by omega)]
        · refine ic_m1 dX8_foretold_20 ?_
          refine wp_ireti dX8_foretold_21 rfl ?_
          exact qv (hQ h (fun _ _ => rfl) C) (by unfold aFore; rw [if_neg (by omega)])

theorem wX9_foretold_24 {G : GT} {δ : Nat} {hl : Nat → Int → Int} {b : Bool × Bool} {Q : V → Hp → Prop} {h0 : Nat → Int → Int} {m1 v : Int} {R : Int → Int} (hδ : δ ≤ 1560) (m : h0 337 = R) : ∀ (n : Nat) (k : Int) (h : Nat → Int → Int), ((21 - k).toNat) < n → (8 ≤ k) → (k ≤ 21) → (eqX [345] h0 h) → (∀ j : Int, 8 ≤ j → j < k → h 345 j = R j) → (∀ h' : Nat → Int → Int, eqX [345] h0 h' → (∀ j : Int, 8 ≤ j → j < 21 → h' 345 j = R j) → WP G δ 0 0 MX9_foretold 48 [vr 336, vi m1, vi v, vn, vn] [] (HS h' hl b) Q) → WP G δ 0 0 MX9_foretold 24 [vr (336), vi m1, vi v, vi k, vn] [] (HS h hl b) Q := by
  intro n
  induction n with
  | zero => intro k h hlt; exact absurd hlt (Nat.not_lt_zero _)
  | succ n ih =>
    intro k h hlt k0 k1 E A hQ
    refine il_3 dX9_foretold_24 ?_
    refine bi_21 dX9_foretold_25 ?_
    refine wp_icmp_ge 48 dX9_foretold_27 rfl (fun c27 => ?_) (fun c27 => ?_)
    · have e : k = 21 := by omega
      subst e
      refine wp_fg (ls' := [_, _, _, vn, vn]) ⟨Or.inr rfl, Or.inr rfl, Or.inr rfl, Or.inl rfl, Or.inl rfl, trivial⟩ ?_
      exact hQ h E A
    · refine al_0 dX9_foretold_30 ?_
      refine g_X9_47 (345) dX9_foretold_31 rfl tt336 (rr9_25 tt336) (by omega) ?_
      refine il_3 dX9_foretold_34 ?_
      refine al_0 dX9_foretold_35 ?_
      refine g_X9_7 (337) dX9_foretold_36 rfl tt336 (rr9_0 tt336) (by omega) ?_
      refine il_3 dX9_foretold_39 ?_
      refine wp_iaload dX9_foretold_40 tt337 (by omega) (by omega) ?_
      rw [E 337 (by decide), m]
      refine wp_iastore dX9_foretold_41 tt345 (by omega) (by omega) ?_
      refine ii_3 dX9_foretold_42 rfl (by decide) ⟨by decide, by decide⟩ (r32 (by omega) (by omega)) ?_
      refine wp_goto 24 dX9_foretold_45 rfl ?_
      refine ih (k + 1) _ (by omega) (by omega) (by omega) (E.up (by decide)) (fun j j0 j1 => ?_) hQ
      by_cases e : j = k
      · rw [e, up_s]
      · rw [up_k e]; exact A j j0 (by omega)

theorem wX9_foretold_55 {G : GT} {δ : Nat} {b : Bool × Bool} {Q : V → Hp → Prop} {L : Laws} {n v : Int} (hδ : δ ≤ 1560) (n1 : n ≤ 60) :
    ∀ (m0 : Nat) (k : Int) (h hl : Nat → Int → Int) (R : Int → Int), (n - k).toNat = m0 → 0 ≤ k → k ≤ n → MT h R L → h 336 23 = 0 →
      (∀ h' hl', eqM h h' → MT h' (rNts L false false m0 R) L → WP G δ 0 0 MX9_foretold 83 [vr 336, vi n, vi v, vn, vn] [] (HS h' hl' b) Q) → WP G δ 0 0 MX9_foretold 55 [vr 336, vi n, vi v, vi k, vn] [] (HS h hl b) Q := by
  intro m0
  induction m0 with
  | zero =>
    intro k h hl R hm k0 k1 M hw hQ
    have m := M.1

    refine il_3 dX9_foretold_55 ?_
    refine il_1 dX9_foretold_56 ?_
    refine wp_icmp_ge 83 dX9_foretold_57 rfl (fun c57 => ?_) (fun c57 => ?_)
    · refine wp_fg (ls' := [_, _, _, vn, vn]) ⟨Or.inr rfl, Or.inr rfl, Or.inr rfl, Or.inl rfl, Or.inl rfl, trivial⟩ ?_
      exact hQ h hl eqM.rf M
    · omega
  | succ m0 ih =>
    intro k h hl R hm k0 k1 M hw hQ
    have m := M.1
    have V := M.2.1
    refine il_3 dX9_foretold_55 ?_
    refine il_1 dX9_foretold_56 ?_
    refine wp_icmp_ge 83 dX9_foretold_57 rfl (fun c57 => ?_) (fun c57 => ?_)
    · omega
    · refine al_0 dX9_foretold_60 ?_
      refine g_X9_7 (337) dX9_foretold_61 rfl tt336 (rr9_0 tt336) (by omega) ?_
      refine bi_8 dX9_foretold_64 ?_
      refine wp_iaload dX9_foretold_66 tt337 (by omega) (by omega) ?_
      first | rw [m2] | rw [m1] | rw [m] | rw [sw_s] | skip
      refine si_9999 dX9_foretold_67 ?_
      refine wp_icmp_ge 77 dX9_foretold_70 rfl (fun c70 => ?_) (fun c70 => ?_)
      · refine ii_3 dX9_foretold_77 rfl (by decide) ⟨by decide, by decide⟩ (r32 (by omega) (by omega)) ?_
        refine wp_goto 55 dX9_foretold_80 rfl ?_
        first
          | (have a := rNts_t (L := L) (s := false) (w := false) (n := m0) (R := R) (by omega)
             rw [if_neg (by decide)] at a
             rw [a] at hQ
             exact ih (k + 1) h1 hl1 _ (by omega) (by omega) (by omega) M1 (by rw [E1.2 23 (by decide)]; exact hw) (fun h3 hl3 E3 M3 => hQ h3 hl3 (E1.tr E3) M3))
          | (have a := rNts_f (L := L) (s := false) (w := false) (n := m0) (R := R) (by omega)
             rw [a] at hQ
             refine ih (k + 1) h hl R (by omega) (by omega) (by omega) M hw (fun h3 hl3 E3 M3 => ?_)
             have c : rNts L false false m0 R = R := by
               rcases m0 with _ | z
               · rfl
               · exact rNts_f (by omega)
             rw [c] at M3
             exact hQ h3 hl3 E3 M3)
      · refine al_0 dX9_foretold_73 ?_
        refine c_X9_356 dX9_foretold_74 rfl tt336 (Nat.le_of_ble_eq_true rfl) (by omega) ?_
        refine wX9_pass (wB := false) (by omega) M hw (by omega) (fun h1 hl1 E1 M1 b1 => ?_)
        refine pv_n ?_
        refine ii_3 dX9_foretold_77 rfl (by decide) ⟨by decide, by decide⟩ (r32 (by omega) (by omega)) ?_
        refine wp_goto 55 dX9_foretold_80 rfl ?_
        first
          | (have a := rNts_t (L := L) (s := false) (w := false) (n := m0) (R := R) (by omega)
             rw [if_neg (by decide)] at a
             rw [a] at hQ
             exact ih (k + 1) h1 hl1 _ (by omega) (by omega) (by omega) M1 (by rw [E1.2 23 (by decide)]; exact hw) (fun h3 hl3 E3 M3 => hQ h3 hl3 (E1.tr E3) M3))
          | (have a := rNts_f (L := L) (s := false) (w := false) (n := m0) (R := R) (by omega)
             rw [a] at hQ
             refine ih (k + 1) h hl R (by omega) (by omega) (by omega) M hw (fun h3 hl3 E3 M3 => ?_)
             have c : rNts L false false m0 R = R := by
               rcases m0 with _ | z
               · rfl
               · exact rNts_f (by omega)
             rw [c] at M3
             exact hQ h3 hl3 E3 M3)

theorem wX9_foretold_106 {G : GT} {δ : Nat} {hl : Nat → Int → Int} {b : Bool × Bool} {Q : V → Hp → Prop} {h0 : Nat → Int → Int} {m1 v a : Int} {A0 : Int → Int} (hδ : δ ≤ 1560) (m : ∀ j : Int, 8 ≤ j → j < 21 → h0 345 j = A0 j) : ∀ (n : Nat) (k : Int) (h : Nat → Int → Int), ((21 - k).toNat) < n → (8 ≤ k) → (k ≤ 21) → (eqX [337] h0 h) → (∀ j : Int, h 337 j = if 8 ≤ j ∧ j < k then A0 j else h0 337 j) → (∀ h' : Nat → Int → Int, eqX [337] h0 h' → (∀ j : Int, h' 337 j = if 8 ≤ j ∧ j < 21 then A0 j else h0 337 j) → WP G δ 0 0 MX9_foretold 133 [vr 336, vi m1, vi v, vi a, vn] [] (HS h' hl b) Q) → WP G δ 0 0 MX9_foretold 106 [vr (336), vi m1, vi v, vi a, vi k] [] (HS h hl b) Q := by
  intro n
  induction n with
  | zero => intro k h hlt; exact absurd hlt (Nat.not_lt_zero _)
  | succ n ih =>
    intro k h hlt k0 k1 E A hQ
    refine il_4 dX9_foretold_106 ?_
    refine bi_21 dX9_foretold_108 ?_
    refine wp_icmp_ge 133 dX9_foretold_110 rfl (fun c110 => ?_) (fun c110 => ?_)
    · have e : k = 21 := by omega
      subst e
      refine wp_fg (ls' := [_, _, _, _, vn]) ⟨Or.inr rfl, Or.inr rfl, Or.inr rfl, Or.inr rfl, Or.inl rfl, trivial⟩ ?_
      exact hQ h E A
    · refine al_0 dX9_foretold_113 ?_
      refine g_X9_7 (337) dX9_foretold_114 rfl tt336 (rr9_0 tt336) (by omega) ?_
      refine il_4 dX9_foretold_117 ?_
      refine al_0 dX9_foretold_119 ?_
      refine g_X9_47 (345) dX9_foretold_120 rfl tt336 (rr9_25 tt336) (by omega) ?_
      refine il_4 dX9_foretold_123 ?_
      refine wp_iaload dX9_foretold_125 tt345 (by omega) (by omega) ?_
      rw [E 345 (by decide), m k (by omega) (by omega)]
      refine wp_iastore dX9_foretold_126 tt337 (by omega) (by omega) ?_
      refine ii_4 dX9_foretold_127 rfl (by decide) ⟨by decide, by decide⟩ (r32 (by omega) (by omega)) ?_
      refine wp_goto 106 dX9_foretold_130 rfl ?_
      refine ih (k + 1) _ (by omega) (by omega) (by omega) (E.up (by decide)) (fun j => ?_) hQ
      by_cases e : j = k
      · rw [e, up_s, if_pos (by omega)]
      · rw [up_k e, A j]
        by_cases c : 8 ≤ j ∧ j < k
        · rw [if_pos c, if_pos (by omega)]
        · rw [if_neg c, if_neg (by omega)]

theorem wX9_foretold {G : GT} {δ : Nat} {h hl : Nat → Int → Int} {b : Bool × Bool} {Q : V → Hp → Prop} {n v : Int} {R : Int → Int} {L : Laws} (hδ : δ ≤ 1560) (M : MT h R L) (hw : h 336 23 = 1) (hQ : ∀ h' hl', eqW h h' → MT h' R L → Q (vi (aFore L R n v)) (HS h' hl' b)) : WP G δ 0 0 MX9_foretold 0 [vr (336), vi n, vi v, vn, vn] [] (HS h hl b) Q := by
  have m := M.1
  have V := M.2.1
  have vn' := V.n
  have vw := V.w
  refine il_1 dX9_foretold_0 ?_
  refine ic_1 dX9_foretold_1 ?_
  refine bi_60 dX9_foretold_2 ?_
  refine c_X9_69 dX9_foretold_4 rfl (Nat.le_of_ble_eq_true rfl) (by omega) ?_
  refine wX9_isIn (by omega) ?_
  refine pv_i ?_
  refine wp_if_eq 19 dX9_foretold_7 rfl (fun c7 => ?_) (fun c7 => ?_)
  · rw [b2i_0] at c7
    refine ic_m1 dX9_foretold_19 ?_
    refine wp_ireti dX9_foretold_20 rfl ?_
    exact qv (hQ h hl eqM.rf.W M) (by unfold aFore; rw [if_neg (by omega)])
  · rw [b2i_n0] at c7
    refine il_2 dX9_foretold_10 ?_
    refine ic_0 dX9_foretold_11 ?_
    refine ic_1 dX9_foretold_12 ?_
    refine c_X9_69 dX9_foretold_13 rfl (Nat.le_of_ble_eq_true rfl) (by omega) ?_
    refine wX9_isIn (by omega) ?_
    refine pv_i ?_
    refine wp_if_ne 21 dX9_foretold_16 rfl (fun c16 => ?_) (fun c16 => ?_)
    · rw [b2i_n0] at c16
      refine bi_8 dX9_foretold_21 ?_
      refine is_3 dX9_foretold_23 rfl (by decide) ?_
      refine wX9_foretold_24 (by omega) m _ 8 h (Nat.lt_succ_self _) (by omega) (by omega) eqX.rf (fun j j0 j1 => by omega) (fun h1 E1 A1 => ?_)
      refine al_0 dX9_foretold_48 ?_
      refine ic_0 dX9_foretold_49 ?_
      refine p_X9_43 dX9_foretold_50 rfl tt336 (by omega) ?_
      refine ic_0 dX9_foretold_53 ?_
      refine is_3 dX9_foretold_54 rfl (by decide) ?_
      obtain ⟨h2, e2⟩ : ∃ h2, h2 = up h1 336 23 0 := ⟨_, rfl⟩
      rw [← e2]
      have O2 : ∀ o, o ≠ 336 → h2 o = h1 o := fun o a => by rw [e2]; funext j; exact up_o a
      have M2 : MT h2 R L := ⟨by rw [O2 337 (by decide), E1 337 (by decide)]; exact m, V, by rw [O2 339 (by decide), E1 339 (by decide)]; exact M.2.2⟩
      refine wX9_foretold_55 (by omega) (by omega) n.toNat 0 h2 hl R (by omega) (by omega) (by omega) M2 (by rw [e2, up_s]) (fun h3 hl3 E3 M3 => ?_)
      have m3 := M3.1
      have V3 := M3.2.1
      have n3 := V3.n
      refine il_2 dX9_foretold_83 ?_
      refine wp_if_ne 97 dX9_foretold_84 rfl (fun c84 => ?_) (fun c84 => ?_)
      · refine al_0 dX9_foretold_97 ?_
        refine c_X9_386 dX9_foretold_98 rfl tt336 (Nat.le_of_ble_eq_true rfl) (by omega) ?_
        refine wX9_allOil (by omega) (by rw [m3]; omega) (by rw [m3]; omega) (by rw [m3]; exact V3.oil) ?_
        rw [m3, show sumN (fun i => rNts L false false n.toNat R (13 + 2 * i)) (rNts L false false n.toNat R 0).toNat = allOil (rNts L false false n.toNat R) from rfl]
        refine pv_i ?_
        refine is_3 dX9_foretold_101 rfl (by decide) ?_
        refine bi_8 dX9_foretold_102 ?_
        refine is_4 dX9_foretold_104 rfl (by decide) ?_
        have A3 : ∀ j : Int, 8 ≤ j → j < 21 → h3 345 j = R j := fun j j0 j1 => by rw [E3.o (by decide), O2 345 (by decide)]; exact A1 j j0 j1
        refine wX9_foretold_106 (by omega) A3 _ 8 h3 (Nat.lt_succ_self _) (by omega) (by omega) eqX.rf (fun j => by rw [if_neg (by omega)]) (fun h4 E4 A4 => ?_)
        have r4 : h4 337 = R := by
          funext j
          rw [A4, m3]
          by_cases c : 8 ≤ j ∧ j < 21
          · rw [if_pos c]
          · rw [if_neg c]
            by_cases z : 1253 ≤ j
            · exact rNts_hi z n.toNat R V
            · exact rNts_N (w := false) n.toNat R V j (by omega)
        refine al_0 dX9_foretold_133 ?_
        refine ic_1 dX9_foretold_134 ?_
        refine p_X9_43 dX9_foretold_135 rfl tt336 (by omega) ?_
        refine il_3 dX9_foretold_138 ?_
        refine wp_ireti dX9_foretold_139 rfl ?_
        have EW : eqW h (up h4 336 23 1) := by
          refine ⟨fun o ho => ?_, fun k k0 => ?_⟩
          · simp at ho
            rw [show (up h4 336 23 1) o = h4 o from by funext j; exact up_o (by omega), E4 o (by simp; omega), E3.1 o (by simp; omega), O2 o (by omega), E1 o (by simp; omega)]
          · by_cases q : k = 23
            · rw [q, up_s, hw]
            · rw [up_k q, E4 336 (by decide), E3.2 k k0, e2, up_k q, E1 336 (by decide)]
        refine qv (hQ _ hl3 EW ⟨by rw [show (up h4 336 23 1) 337 = h4 337 from by funext j; exact up_o (by decide)]; exact r4, V, by rw [EW.1 339 (by decide)]; exact M.2.2⟩) ?_
        unfold aFore
        rw [if_pos (by omega)]
        first
          | (rw [if_pos (by omega)]; exact (fore_lit _ V).symm)
          | (rw [if_neg (by omega)]; exact (fore_oil _ V).symm)
      · refine al_0 dX9_foretold_87 ?_
        refine g_X9_7 (337) dX9_foretold_88 rfl tt336 (rr9_0 tt336) (by omega) ?_
        refine bi_10 dX9_foretold_91 ?_
        refine wp_iaload dX9_foretold_93 tt337 (by omega) (by omega) ?_
        rw [m3]
        refine wp_goto 101 dX9_foretold_94 rfl ?_
        refine is_3 dX9_foretold_101 rfl (by decide) ?_
        refine bi_8 dX9_foretold_102 ?_
        refine is_4 dX9_foretold_104 rfl (by decide) ?_
        have A3 : ∀ j : Int, 8 ≤ j → j < 21 → h3 345 j = R j := fun j j0 j1 => by rw [E3.o (by decide), O2 345 (by decide)]; exact A1 j j0 j1
        refine wX9_foretold_106 (by omega) A3 _ 8 h3 (Nat.lt_succ_self _) (by omega) (by omega) eqX.rf (fun j => by rw [if_neg (by omega)]) (fun h4 E4 A4 => ?_)
        have r4 : h4 337 = R := by
          funext j
          rw [A4, m3]
          by_cases c : 8 ≤ j ∧ j < 21
          · rw [if_pos c]
          · rw [if_neg c]
            by_cases z : 1253 ≤ j
            · exact rNts_hi z n.toNat R V
            · exact rNts_N (w := false) n.toNat R V j (by omega)
        refine al_0 dX9_foretold_133 ?_
        refine ic_1 dX9_foretold_134 ?_
        refine p_X9_43 dX9_foretold_135 rfl tt336 (by omega) ?_
        refine il_3 dX9_foretold_138 ?_
        refine wp_ireti dX9_foretold_139 rfl ?_
        have EW : eqW h (up h4 336 23 1) := by
          refine ⟨fun o ho => ?_, fun k k0 => ?_⟩
          · simp at ho
            rw [show (up h4 336 23 1) o = h4 o from by funext j; exact up_o (by omega), E4 o (by simp; omega), E3.1 o (by simp; omega), O2 o (by omega), E1 o (by simp; omega)]
          · by_cases q : k = 23
            · rw [q, up_s, hw]
            · rw [up_k q, E4 336 (by decide), E3.2 k k0, e2, up_k q, E1 336 (by decide)]
        refine qv (hQ _ hl3 EW ⟨by rw [show (up h4 336 23 1) 337 = h4 337 from by funext j; exact up_o (by decide)]; exact r4, V, by rw [EW.1 339 (by decide)]; exact M.2.2⟩) ?_
        unfold aFore
        rw [if_pos (by omega)]
        first
          | (rw [if_pos (by omega)]; exact (fore_lit _ V).symm)
          | (rw [if_neg (by omega)]; exact (fore_oil _ V).symm)
    · rw [b2i_0] at c16
      refine ic_m1 dX9_foretold_19 ?_
      refine wp_ireti dX9_foretold_20 rfl ?_
      exact qv (hQ h hl eqM.rf.W M) (by unfold aFore; rw [if_neg (by omega)])
