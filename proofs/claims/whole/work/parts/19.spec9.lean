def rDraw (R : Int → Int) : Int → Int := ur R 9 ((R 9 * 617 + 491) % 30869)
def loserV (L : Laws) (R : Int → Int) (d p q : Int) : Int := if R 9 % 10 < oddsV L R d p q then p else q
def paidV (L : Laws) (R : Int → Int) (d l : Int) : Int := min (fillsV L R (R 3) d l) (R (13 + 2 * l))
def rPay0 (L : Laws) (R : Int → Int) (d l : Int) : Int → Int :=
  ur (ur (ur R (14 + 2 * l) (min (R (14 + 2 * l) + 1) 9999)) (13 + 2 * l) (R (13 + 2 * l) - paidV L R d l)) 10 (bxor (R 10) (R (29 + d)))
def lineR (R : Int → Int) (d l : Int) : Int := ((R 8 * 8 + d) * 4 + l) * 1024 + R 10
def rPay (L : Laws) (w : Bool) (R : Int → Int) (d l : Int) : Int → Int := if w then rWr (rPay0 L R d l) (lineR (rPay0 L R d l) d l) else rPay0 L R d l
def rArg (L : Laws) (w : Bool) (R : Int → Int) (d p q : Int) : Int → Int := rPay L w (rDraw R) d (loserV L R d p q)
section DO2
variable {h h' : Nat → Int → Int} {R R' : Int → Int} {L : Laws} {k x p v d l : Int} {w : Bool}
theorem SV.now (P : SV R 0 8 1253) : (0 ≤ R 0 ∧ R 0 ≤ 4) ∧ (0 ≤ R 8 ∧ R 8 ≤ 9999) ∧ (0 ≤ R 9 ∧ R 9 < 30869) ∧ (0 ≤ R 10 ∧ R 10 < 1024) ∧ (0 ≤ R 11 ∧ R 11 ≤ 9) ∧ (0 ≤ R 12 ∧ R 12 ≤ 25) ∧ (∀ p : Int, 0 ≤ p → p < R 0 → 0 ≤ R (13 + 2 * p) ∧ R (13 + 2 * p) ≤ 99) ∧ (∀ p : Int, 0 ≤ p → p < R 0 → 0 ≤ R (14 + 2 * p) ∧ R (14 + 2 * p) ≤ 9999) ∧ (∀ k : Int, 0 ≤ k → k < R 12 → 0 ≤ R (1253 + k) ∧ R (1253 + k) < 400000000) := by
  obtain ⟨q0, q0', q1, q1', q2, q2', q3, q3', q4, q4', q5, q5', q6, q7, q8⟩ := P
  exact ⟨⟨q0, q0'⟩, ⟨q1, q1'⟩, ⟨q2, q2'⟩, ⟨q3, q3'⟩, ⟨q4, q4'⟩, ⟨q5, q5'⟩, q6, q7, q8⟩
theorem SV.mk (P : (0 ≤ R 0 ∧ R 0 ≤ 4) ∧ (0 ≤ R 8 ∧ R 8 ≤ 9999) ∧ (0 ≤ R 9 ∧ R 9 < 30869) ∧ (0 ≤ R 10 ∧ R 10 < 1024) ∧ (0 ≤ R 11 ∧ R 11 ≤ 9) ∧ (0 ≤ R 12 ∧ R 12 ≤ 25) ∧ (∀ p : Int, 0 ≤ p → p < R 0 → 0 ≤ R (13 + 2 * p) ∧ R (13 + 2 * p) ≤ 99) ∧ (∀ p : Int, 0 ≤ p → p < R 0 → 0 ≤ R (14 + 2 * p) ∧ R (14 + 2 * p) ≤ 9999) ∧ (∀ k : Int, 0 ≤ k → k < R 12 → 0 ≤ R (1253 + k) ∧ R (1253 + k) < 400000000)) : SV R 0 8 1253 := by
  obtain ⟨⟨q0, q0'⟩, ⟨q1, q1'⟩, ⟨q2, q2'⟩, ⟨q3, q3'⟩, ⟨q4, q4'⟩, ⟨q5, q5'⟩, q6, q7, q8⟩ := P
  exact ⟨q0, q0', q1, q1', q2, q2', q3, q3', q4, q4', q5, q5', q6, q7, q8⟩
theorem SV.night (P : SV R 0 8 1253) (x0 : 0 ≤ x) (x1 : x ≤ 9999) : SV (ur R 8 x) 0 8 1253 := by
  obtain ⟨q0, q1, q2, q3, q4, q5, q6, q7, q8⟩ := P.now
  refine SV.mk ⟨?_, ?_, ?_, ?_, ?_, ?_, ?_, ?_, ?_⟩ <;> grind [ur]
theorem SV.xx (P : SV R 0 8 1253) (x0 : 0 ≤ x) (x1 : x < 30869) : SV (ur R 9 x) 0 8 1253 := by
  obtain ⟨q0, q1, q2, q3, q4, q5, q6, q7, q8⟩ := P.now
  refine SV.mk ⟨?_, ?_, ?_, ?_, ?_, ?_, ?_, ?_, ?_⟩ <;> grind [ur]
theorem SV.lit (P : SV R 0 8 1253) (x0 : 0 ≤ x) (x1 : x < 1024) : SV (ur R 10 x) 0 8 1253 := by
  obtain ⟨q0, q1, q2, q3, q4, q5, q6, q7, q8⟩ := P.now
  refine SV.mk ⟨?_, ?_, ?_, ?_, ?_, ?_, ?_, ?_, ?_⟩ <;> grind [ur]
theorem SV.burnt (P : SV R 0 8 1253) (x0 : 0 ≤ x) (x1 : x ≤ 9) : SV (ur R 11 x) 0 8 1253 := by
  obtain ⟨q0, q1, q2, q3, q4, q5, q6, q7, q8⟩ := P.now
  refine SV.mk ⟨?_, ?_, ?_, ?_, ?_, ?_, ?_, ?_, ?_⟩ <;> grind [ur]
theorem SV.oil (P : SV R 0 8 1253) (p0 : 0 ≤ p) (p1 : p < 4) (x0 : 0 ≤ x) (x1 : x ≤ 99) : SV (ur R (13 + 2 * p) x) 0 8 1253 := by
  obtain ⟨q0, q1, q2, q3, q4, q5, q6, q7, q8⟩ := P.now
  refine SV.mk ⟨?_, ?_, ?_, ?_, ?_, ?_, ?_, ?_, ?_⟩ <;> grind [ur]
theorem SV.wr (P : SV R 0 8 1253) (p0 : 0 ≤ p) (p1 : p < 4) (x0 : 0 ≤ x) (x1 : x ≤ 9999) : SV (ur R (14 + 2 * p) x) 0 8 1253 := by
  obtain ⟨q0, q1, q2, q3, q4, q5, q6, q7, q8⟩ := P.now
  refine SV.mk ⟨?_, ?_, ?_, ?_, ?_, ?_, ?_, ?_, ?_⟩ <;> grind [ur]
theorem rWr_b {j : Int} (e : ¬ R 12 < 25) : rWr R v j = if 1253 ≤ j ∧ j < 1277 then R (j + 1) else if j = 1277 then v else if j = 12 then 25 else R j := by unfold rWr; rw [if_pos (by omega)]
theorem rWr_s {j : Int} (e : R 12 < 25) : rWr R v j = if j = 12 then R 12 + 1 else if j = 1253 + R 12 then v else R j := by unfold rWr; rw [if_neg (by omega)]; rfl
theorem SV.book (P : SV R 0 8 1253) (x0 : 0 ≤ v) (x1 : v < 400000000) : SV (rWr R v) 0 8 1253 := by
  obtain ⟨q0, q1, q2, q3, q4, q5, q6, q7, q8⟩ := P.now
  by_cases e : R 12 < 25
  · obtain ⟨K, k⟩ : ∃ K : Int → Int, ∀ j, K j = if j = 12 then R 12 + 1 else if j = 1253 + R 12 then v else R j := ⟨_, fun j => rWr_s (v := v) e⟩
    have : rWr R v = K := by funext j; rw [rWr_s e, k]
    rw [this]; clear this
    refine SV.mk ⟨?_, ?_, ?_, ?_, ?_, ?_, ?_, ?_, ?_⟩ <;> grind
  · obtain ⟨K, k⟩ : ∃ K : Int → Int, ∀ j, K j = if 1253 ≤ j ∧ j < 1277 then R (j + 1) else if j = 1277 then v else if j = 12 then 25 else R j := ⟨_, fun j => rWr_b (v := v) e⟩
    have : rWr R v = K := by funext j; rw [rWr_b e, k]
    rw [this]; clear this
    refine SV.mk ⟨?_, ?_, ?_, ?_, ?_, ?_, ?_, ?_, fun p p0 p1 => ?_⟩
    any_goals grind
    rw [k, if_neg (by omega), if_neg (by omega), if_pos rfl] at p1
    rw [k]
    split
    · rw [show (1253 : Int) + p + 1 = 1253 + (p + 1) by omega]
      exact q8 (p + 1) (by omega) (by omega)
    · rw [if_pos (by omega)]; omega
theorem nowEq.book (e : nowEq R R') (n0 : 0 ≤ R' 12) : nowEq R (rWr R' v) := fun j hj => by
  rw [← e j hj]
  by_cases q : R' 12 < 25
  · rw [rWr_s q, if_neg (by omega), if_neg (by omega)]
  · rw [rWr_b q, if_neg (by omega), if_neg (by omega), if_neg (by omega)]
theorem bookW_N {h0 : Nat → Int → Int} (E : eqN h0 h) : eqN h0 (bookW h 3 v) := fun o ho => by
  rw [← E o ho]
  funext j
  have h3 : o ≠ 3 := fun e => ho (by simp [e])
  have h6 : o ≠ 6 := fun e => ho (by simp [e])
  unfold bookW
  split
  · rw [up_o h3, up_o h6, up_o h3, cpy_o h6]
  · rw [up_o h3, up_o h6]
theorem rDraw_V (V : SV R 0 8 1253) : SV (rDraw R) 0 8 1253 := V.xx (by have := V.now.2.2.1; omega) (by omega)
theorem loserV_R {p q : Int} (p0 : 0 ≤ p) (p1 : p < R 0) (q0 : 0 ≤ q) (q1 : q < R 0) : 0 ≤ loserV L R d p q ∧ loserV L R d p q < R 0 := by
  unfold loserV; split <;> exact ⟨by assumption, by assumption⟩
theorem paidV_R (V : SV R 0 8 1253) (l0 : 0 ≤ l) (l1 : l < R 0) : 0 ≤ paidV L R d l ∧ paidV L R d l ≤ 9 ∧ paidV L R d l ≤ R (13 + 2 * l) := by
  have := fillsV_R (L := L) (R := R) (t := R 3) (d := d) (p := l)
  have := V.now.2.2.2.2.2.2.1 l l0 l1
  unfold paidV; omega
theorem rPay0_V (V : SV R 0 8 1253) (d0 : 0 ≤ R (29 + d)) (d1 : R (29 + d) < 1024) (l0 : 0 ≤ l) (l1 : l < R 0) : SV (rPay0 L R d l) 0 8 1253 := by
  obtain ⟨⟨q0, q0'⟩, ⟨q1, q1'⟩, ⟨q2, q2'⟩, ⟨q3, q3'⟩, q4, q5, q6, q7, q8⟩ := V.now
  have h1 := q6 l l0 l1; have h2 := q7 l l0 l1
  have h3 := paidV_R (L := L) (d := d) V l0 l1
  have hb := bxor_lt q3 q3' d0 d1
  exact ((V.wr l0 (by omega) (by omega) (by omega)).oil l0 (by omega) (by omega) (by omega)).lit hb.1 hb.2
theorem lineR_R (V : SV R 0 8 1253) (d0 : 0 ≤ d) (d1 : d < 8) (l0 : 0 ≤ l) (l1 : l < 4) : 0 ≤ lineR R d l ∧ lineR R d l < 400000000 := by
  obtain ⟨q0, q1, q2, q3, _⟩ := V.now
  unfold lineR; omega
theorem rPay_V (V : SV R 0 8 1253) (d0 : 0 ≤ d) (d8 : d < 8) (e0 : 0 ≤ R (29 + d)) (e1 : R (29 + d) < 1024) (l0 : 0 ≤ l) (l1 : l < R 0) : SV (rPay L w R d l) 0 8 1253 := by
  have V0 := rPay0_V (L := L) V e0 e1 l0 l1
  have l4 := V.now.1
  have hl := lineR_R V0 d0 d8 l0 (by omega)
  unfold rPay; split
  · exact V0.book hl.1 hl.2
  · exact V0
theorem rPay0_N (l0 : 0 ≤ l) (l1 : l < 4) : nowEq R (rPay0 L R d l) := ((nowEq.rf.ur (by omega)).ur (by omega)).ur (by omega)
theorem rPay_N (V : SV R 0 8 1253) (e0 : 0 ≤ R (29 + d)) (e1 : R (29 + d) < 1024) (l0 : 0 ≤ l) (l1 : l < R 0) : nowEq R (rPay L w R d l) := by
  have l4 := V.now.1
  have N := rPay0_N (L := L) (R := R) (d := d) l0 (show l < 4 by omega)
  unfold rPay; split
  · exact N.book (rPay0_V (L := L) V e0 e1 l0 l1).now.2.2.2.2.2.1.1
  · exact N
theorem rDraw_N : nowEq R (rDraw R) := nowEq.rf.ur (by omega)
end DO2

theorem wX7_argueOut_30 {G : GT} {δ : Nat} {h hl : Nat → Int → Int} {b : Bool × Bool} {Q : V → Hp → Prop} {R : Int → Int} {L : Laws} {d l : Int} {a c e : V} (hδ : δ ≤ 1620) (C : CT h R L) (d0 : 0 ≤ d) (d1 : d < R 1) (l0 : 0 ≤ l) (l1 : l < R 0)
  (hQ : ∀ h', eqN h h' → CT h' (rPay L true R d l) L → Q (vi l) (HS h' hl b)) : WP G δ 0 0 MX7_argueOut 30 [vr 2, vi d, a, c, e, vi l, vn] [] (HS h hl b) Q := by
  have n01 := C.2.1.n
  have f := C.1.f
  have vd := C.2.1.di d d0 d1
  refine al_0 dX7_argueOut_30 ?_
  refine al_0 dX7_argueOut_31 ?_
  refine g_X7_45 dX7_argueOut_32 rfl tt2 ?_
  rw [f.2.2.2.1]
  refine il_1 dX7_argueOut_35 ?_
  refine il_5 dX7_argueOut_36 ?_
  refine c_X7_155 dX7_argueOut_38 rfl tt2 (Nat.le_of_ble_eq_true rfl) (by omega) ?_
  refine wX7_fillsBy (by omega) C.1 C.2.1 C.2.2 d0 d1 l0 l1 (fun h1 E1 => ?_)
  have E1 : eqX [19, 20, 21] h h1 := E1
  have S1 := C.1.1.cN E1
  obtain ⟨s0, s3, s4, s1, s2, s5, s6, s7, s8⟩ := S1.now
  have k4 := s6 l l0 l1
  have k5 := s7 l l0 l1
  have k9 : h1 9 = h 9 := E1 9 (by decide)
  have k10 : h1 10 = h 10 := E1 10 (by decide)
  have kd : tdA h1 9 d = R (29 + d) := by unfold tdA; rw [k9, k10]; exact C.1.diA d0 d1
  have ho := C.2.1.oil l l0 l1
  have hw := C.2.1.wr l l0 l1
  have hp := paidV_R (L := L) (d := d) C.2.1.2.1 l0 l1
  refine pv_i ?_
  refine al_0 dX7_argueOut_41 ?_
  refine g_X7_12 (3) dX7_argueOut_42 rfl tt2 (rr7_0 tt2) (by omega) ?_
  refine g_X7_100 (4) dX7_argueOut_45 rfl tt3 (rr5_6 tt3) (by omega) ?_
  refine il_5 dX7_argueOut_48 ?_
  refine wp_iaload dX7_argueOut_50 tt4 (by omega) (by omega) ?_
  rw [k4]
  refine c_X7_146 dX7_argueOut_51 rfl (by simp) (by omega) ?_
  rw [show min (fillsV L R (R 3) d l) (R (13 + 2 * l)) = paidV L R d l from rfl]
  refine is_6 dX7_argueOut_54 rfl (by decide) ?_
  refine al_0 dX7_argueOut_56 ?_
  refine g_X7_12 (3) dX7_argueOut_57 rfl tt2 (rr7_0 tt2) (by omega) ?_
  refine g_X7_104 (5) dX7_argueOut_60 rfl tt3 (rr5_7 tt3) (by omega) ?_
  refine il_5 dX7_argueOut_63 ?_
  refine al_0 dX7_argueOut_65 ?_
  refine g_X7_12 (3) dX7_argueOut_66 rfl tt2 (rr7_0 tt2) (by omega) ?_
  refine g_X7_104 (5) dX7_argueOut_69 rfl tt3 (rr5_7 tt3) (by omega) ?_
  refine il_5 dX7_argueOut_72 ?_
  refine wp_iaload dX7_argueOut_74 tt5 (by omega) (by omega) ?_
  rw [k5]
  refine ic_1 dX7_argueOut_75 ?_
  refine wp_iadd dX7_argueOut_76 (r32 (by omega) (by omega)) ?_
  refine si_9999 dX7_argueOut_77 ?_
  refine c_X7_146 dX7_argueOut_80 rfl (by simp) (by omega) ?_
  refine wp_iastore dX7_argueOut_83 tt5 (by omega) (by omega) ?_
  refine al_0 dX7_argueOut_84 ?_
  refine g_X7_12 (3) dX7_argueOut_85 rfl tt2 (rr7_0 tt2) (by omega) ?_
  refine g_X7_100 (4) dX7_argueOut_88 rfl tt3 (rr5_6 tt3) (by omega) ?_
  refine il_5 dX7_argueOut_91 ?_
  refine wp_dup2 dX7_argueOut_93 rfl rfl ?_
  refine wp_iaload dX7_argueOut_94 tt4 (by omega) (by omega) ?_
  rw [up_o (o := 5) (q := 4) (by decide)]
  rw [k4]
  refine il_6 dX7_argueOut_95 ?_
  refine wp_isub dX7_argueOut_97 (r32 (by omega) (by omega)) ?_
  refine wp_iastore dX7_argueOut_98 tt4 (by omega) (by omega) ?_
  refine al_0 dX7_argueOut_99 ?_
  refine g_X7_12 (3) dX7_argueOut_100 rfl tt2 (rr7_0 tt2) (by omega) ?_
  refine wp_dup dX7_argueOut_103 rfl ?_
  refine g_X7_127 dX7_argueOut_104 rfl tt3 ?_
  rw [up_o (o := 4) (q := 3) (by decide)]
  rw [up_o (o := 5) (q := 3) (by decide)]
  rw [s1]
  refine al_0 dX7_argueOut_107 ?_
  refine g_X7_27 (9) dX7_argueOut_108 rfl tt2 (rr7_2 tt2) (by omega) ?_
  refine il_1 dX7_argueOut_111 ?_
  refine c_X7_116 dX7_argueOut_112 rfl tt9 (Nat.le_of_ble_eq_true rfl) (by omega) ?_
  refine wX6_atX (h0 := h1) [4, 5] (by omega) tt9 tt10 (by repeat' first | exact eqX.rf | refine eqX.up ?_ (by decide)) (by decide) (by decide) (by decide) (by rw [k9]; omega) (by rw [k9]; omega) ?_
  rw [kd]
  refine pv_i ?_
  refine wp_ixor dX7_argueOut_115 ?_
  refine p_X7_127 dX7_argueOut_116 rfl tt3 ?_
  obtain ⟨h2, e2⟩ : ∃ h2, h2 = up (up (up h1 5 l (min (R (14 + 2 * l) + 1) 9999)) 4 l (R (13 + 2 * l) - paidV L R d l)) 3 1 (bxor (R 10) (R (29 + d))) := ⟨_, rfl⟩
  rw [← e2]
  have S2 : SPR h2 3 (rPay0 L R d l) 0 8 1253 := by rw [e2]; exact ((S1.wr l0 (by omega)).oil l0 (by omega)).lit
  have V2 := rPay0_V (L := L) C.2.1.2.1 vd.1 vd.2 l0 l1
  have E2 : eqN h h2 := by rw [e2]; exact (((eqX.mono E1 (by decide)).up (by decide)).up (by decide)).up (by decide)
  obtain ⟨m0, m3, m4, m1, m2, m5, _⟩ := S2.now
  obtain ⟨z0, z3, z4, z1, z2, z5, _⟩ := V2.now
  refine al_0 dX7_argueOut_119 ?_
  refine g_X7_12 (3) dX7_argueOut_120 rfl tt2 (rr7_0 tt2) (by omega) ?_
  refine il_1 dX7_argueOut_123 ?_
  refine il_5 dX7_argueOut_124 ?_
  refine c_X7_190 dX7_argueOut_126 rfl tt3 (Nat.le_of_ble_eq_true rfl) (by omega) ?_
  refine wX5_write (by omega) (by omega) (by omega) d0 (by omega) l0 (by omega) (by omega) (by omega) (by omega) (by omega) ?_
  refine pv_n ?_
  refine il_5 dX7_argueOut_129 ?_
  refine wp_ireti dX7_argueOut_131 rfl ?_
  have el : lineV h2 3 d l = lineR (rPay0 L R d l) d l := by unfold lineV lineR; rw [m3, m1]
  rw [el]
  refine hQ _ (bookW_N E2) (C.nw (rPay_N C.2.1.2.1 vd.1 vd.2 l0 l1) ?_ (bookW_N E2) (rPay_V C.2.1.2.1 d0 (by omega) vd.1 vd.2 l0 l1))
  show SPR _ 3 (rWr (rPay0 L R d l) (lineR (rPay0 L R d l) d l)) 0 8 1253
  exact S2.book (by omega) (by omega) (by omega)

theorem wX7_argueOut {G : GT} {δ : Nat} {h hl : Nat → Int → Int} {b : Bool × Bool} {Q : V → Hp → Prop} {d p q : Int} {R : Int → Int} {L : Laws} (hδ : δ ≤ 1620) (C : CT h R L) (d0 : 0 ≤ d) (d1 : d < R 1) (p0 : 0 ≤ p) (p1 : p < R 0) (q0 : 0 ≤ q) (q1 : q < R 0) (hQ : ∀ h', eqN h h' → CT h' (rArg L true R d p q) L → Q (vi (loserV L R d p q)) (HS h' hl b)) : WP G δ 0 0 MX7_argueOut 0 [vr (2), vi d, vi p, vi q, vn, vn, vn] [] (HS h hl b) Q := by
  have w := C.2.1.w
  refine al_0 dX7_argueOut_0 ?_
  refine il_1 dX7_argueOut_1 ?_
  refine il_2 dX7_argueOut_2 ?_
  refine il_3 dX7_argueOut_3 ?_
  refine c_X7_187 dX7_argueOut_4 rfl tt2 (Nat.le_of_ble_eq_true rfl) (by omega) ?_
  refine wX7_oddsOf (by omega) C.1 C.2.1 C.2.2 d0 d1 p0 p1 q0 q1 (fun h1 E1 => ?_)
  have S1 := C.1.1.cN E1
  obtain ⟨s0, s3, s4, s1, s2, s5, s6, s7, s8⟩ := S1.now
  refine pv_i ?_
  refine is_4 dX7_argueOut_7 rfl (by decide) ?_
  refine al_0 dX7_argueOut_9 ?_
  refine g_X7_12 (3) dX7_argueOut_10 rfl tt2 (rr7_0 tt2) (by omega) ?_
  refine bi_10 dX7_argueOut_13 ?_
  refine c_X7_181 dX7_argueOut_15 rfl tt3 (Nat.le_of_ble_eq_true rfl) (by omega) ?_
  refine wX5_draw (by omega) (by omega) (by omega) ?_
  rw [s4]
  have E2 : eqN h (up h1 3 4 ((R 9 * 617 + 491) % 30869)) := (E1.mono (by decide)).up (by decide)
  have S2 : SPR (up h1 3 4 ((R 9 * 617 + 491) % 30869)) 3 (rDraw R) 0 8 1253 := S1.xx
  have C2 : CT (up h1 3 4 ((R 9 * 617 + 491) % 30869)) (rDraw R) L := C.nw rDraw_N S2 E2 (rDraw_V C.2.1.2.1)
  refine pv_i ?_
  refine il_4 dX7_argueOut_18 ?_
  refine wp_icmp_ge 27 dX7_argueOut_20 rfl (fun c20 => ?_) (fun c20 => ?_)
  · have le : loserV L R d p q = q := if_neg (by omega)
    refine il_3 dX7_argueOut_27 ?_
    refine is_5 dX7_argueOut_28 rfl (by decide) ?_
    refine wX7_argueOut_30 (by omega) C2 d0 (by rw [rDraw_N 1 (by omega)]; exact d1) (by assumption) (by rw [rDraw_N 0 (by omega)]; assumption) (fun h3 E3 C3 => ?_)
    rw [← le] at C3 ⊢
    exact hQ _ (E2.tr E3) C3
  · have le : loserV L R d p q = p := if_pos (by omega)
    refine il_2 dX7_argueOut_23 ?_
    refine wp_goto 28 dX7_argueOut_24 rfl ?_
    refine is_5 dX7_argueOut_28 rfl (by decide) ?_
    refine wX7_argueOut_30 (by omega) C2 d0 (by rw [rDraw_N 1 (by omega)]; exact d1) (by assumption) (by rw [rDraw_N 0 (by omega)]; assumption) (fun h3 E3 C3 => ?_)
    rw [← le] at C3 ⊢
    exact hQ _ (E2.tr E3) C3
