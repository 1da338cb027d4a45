theorem w32_d {a x : Int} (h0 : 0 ≤ x) (h1 : x ≤ 1000) : w32 (w32 (a + x) - a) = x := by
  rw [w32_sub, show a + x - a = x by omega]; exact w32_id ⟨by omega, by omega⟩
theorem MT.draw {h h' : Nat → Int → Int} {R : Int → Int} {L : Laws} (M : MT h R L) (e : eqM h h') (r : h' 337 = rDraw R) : MT h' (rDraw R) L := M.nx e r (rDraw_RV M.2.1) (rDraw_o (by decide))
def rYrs (L : Laws) (w : Bool) : Nat → (Int → Int) → Int → Int
  | 0, R => R
  | n + 1, R => rYrs L w n (rYear L w R)

theorem wX9_argueNow_70 {G : GT} {δ : Nat} {h hl : Nat → Int → Int} {b : Bool × Bool} {Q : V → Hp → Prop} {R : Int → Int} {L : Laws} {d l p q oil : Int} {fl : V} {wB : Bool} (hδ : δ ≤ 1600) (m : h 337 = R) (V : RV R) (hw : h 336 23 = if wB then 1 else 0) (d0 : 0 ≤ d) (d1 : d < R 1) (l0 : 0 ≤ l) (l1 : l < R 0) (ho : oil = paidV L R d l)
  (hQ : ∀ h', eqM h h' → h' 337 = rPay L wB R d l → h' 336 24 = w32 (h 336 24 + paidV L R d l) → Q (vi l) (HS h' hl b)) : WP G δ 0 0 MX9_argueNow 70 [vr 336, vi d, vi p, vi q, vi l, fl, vi oil] [] (HS h hl b) Q := by
  have n := V.n
  have w := V.w
  have vl := V.oil l l0 l1
  have vw := V.wr l l0 l1
  have ew : R (13 + 2 * l + 1) = R (14 + 2 * l) := by rw [show 13 + 2 * l + 1 = 14 + 2 * l by omega]
  have vd := V.di d d0 d1
  have hp := paidV_R (L := L) (d := d) V.2.1 l0 l1
  refine al_0 dX9_argueNow_70 ?_
  refine g_X9_7 (337) dX9_argueNow_71 rfl tt336 (rr9_0 tt336) (by omega) ?_
  refine bi_13 dX9_argueNow_74 ?_
  refine ic_2 dX9_argueNow_76 ?_
  refine il_4 dX9_argueNow_77 ?_
  refine wp_imul dX9_argueNow_79 (r32 (by omega) (by omega)) ?_
  refine wp_iadd dX9_argueNow_80 (r32 (by omega) (by omega)) ?_
  refine wp_dup2 dX9_argueNow_81 rfl rfl ?_
  refine wp_iaload dX9_argueNow_82 tt337 (by omega) (by omega) ?_
  first | rw [m2] | rw [m1] | rw [m] | rw [sw_s] | skip
  refine il_6 dX9_argueNow_83 ?_
  refine wp_isub dX9_argueNow_85 (r32 (by omega) (by omega)) ?_
  refine wp_iastore dX9_argueNow_86 tt337 (by omega) (by omega) ?_
  refine al_0 dX9_argueNow_87 ?_
  refine g_X9_7 (337) dX9_argueNow_88 rfl tt336 (rr9_0 tt336) (by omega) ?_
  refine bi_13 dX9_argueNow_91 ?_
  refine ic_2 dX9_argueNow_93 ?_
  refine il_4 dX9_argueNow_94 ?_
  refine wp_imul dX9_argueNow_96 (r32 (by omega) (by omega)) ?_
  refine wp_iadd dX9_argueNow_97 (r32 (by omega) (by omega)) ?_
  refine ic_1 dX9_argueNow_98 ?_
  refine wp_iadd dX9_argueNow_99 (r32 (by omega) (by omega)) ?_
  refine al_0 dX9_argueNow_100 ?_
  refine il_4 dX9_argueNow_101 ?_
  refine c_X9_301 dX9_argueNow_103 rfl tt336 (Nat.le_of_ble_eq_true rfl) (by omega) ?_
  refine wX9_wrongOf (by omega) l0 (by omega) ?_
  rw [up_k (by omega), m]
  refine pv_i ?_
  refine ic_1 dX9_argueNow_106 ?_
  refine wp_iadd dX9_argueNow_107 (r32 (by omega) (by omega)) ?_
  refine wp_i2l dX9_argueNow_108 ?_
  refine ic_0 dX9_argueNow_109 ?_
  refine si_9999 dX9_argueNow_110 ?_
  refine c_X9_294 dX9_argueNow_113 rfl (Nat.le_of_ble_eq_true rfl) (by omega) ?_
  refine wX9_cut (by omega) (by omega) (by omega) ?_
  refine pv_i ?_
  refine wp_iastore dX9_argueNow_116 tt337 (by omega) (by omega) ?_
  refine al_0 dX9_argueNow_117 ?_
  refine wp_dup dX9_argueNow_118 rfl ?_
  refine g_X9_326 dX9_argueNow_119 rfl tt336 ?_
  rw [up_o (o := 337) (q := 336) (by decide)]
  rw [up_o (o := 337) (q := 336) (by decide)]
  refine il_6 dX9_argueNow_122 ?_
  refine wp_iaddW dX9_argueNow_124 ?_
  refine p_X9_326 dX9_argueNow_125 rfl tt336 ?_
  refine al_0 dX9_argueNow_128 ?_
  refine g_X9_7 (337) dX9_argueNow_129 rfl tt336 (rr9_0 tt336) (by omega) ?_
  refine bi_10 dX9_argueNow_132 ?_
  refine wp_dup2 dX9_argueNow_134 rfl rfl ?_
  refine wp_iaload dX9_argueNow_135 tt337 (by omega) (by omega) ?_
  rw [up_o (by decide), up_k (by omega), up_k (by omega), m]
  refine al_0 dX9_argueNow_136 ?_
  refine g_X9_7 (337) dX9_argueNow_137 rfl tt336 (rr9_0 tt336) (by omega) ?_
  refine bi_29 dX9_argueNow_140 ?_
  refine il_1 dX9_argueNow_142 ?_
  refine wp_iadd dX9_argueNow_143 (r32 (by omega) (by omega)) ?_
  refine wp_iaload dX9_argueNow_144 tt337 (by omega) (by omega) ?_
  rw [up_o (by decide), up_k (by omega), up_k (by omega), m]
  refine wp_ixor dX9_argueNow_145 ?_
  refine wp_iastore dX9_argueNow_146 tt337 (by omega) (by omega) ?_
  obtain ⟨h2, e2⟩ : ∃ h2, h2 = up (up (up (up h 337 (13 + 2 * l) (R (13 + 2 * l) - oil)) 337 (13 + 2 * l + 1) (max 0 (min (R (13 + 2 * l + 1) + 1) 9999))) 336 24 (w32 (h 336 24 + oil))) 337 10 (bxor (R 10) (R (29 + d))) := ⟨_, rfl⟩
  rw [← e2]
  have r2 : h2 337 = rPay0 L R d l := by
    rw [e2, up_ur, show (up (up (up h 337 (13 + 2 * l) (R (13 + 2 * l) - oil)) 337 (13 + 2 * l + 1) (max 0 (min (R (13 + 2 * l + 1) + 1) 9999))) 336 24 (w32 (h 336 24 + oil))) 337 = (up (up h 337 (13 + 2 * l) (R (13 + 2 * l) - oil)) 337 (13 + 2 * l + 1) (max 0 (min (R (13 + 2 * l + 1) + 1) 9999))) 337 from by funext j; exact up_o (by decide), up_ur, up_ur, m, ho]
    exact rPay0_m V l0 l1
  have E2 : eqM h h2 := by rw [e2]; exact (((eqM.rf.up (by omega)).up (by omega)).up24).up (by omega)
  have b2 : h2 336 24 = w32 (h 336 24 + oil) := by rw [e2, up_o (by decide), up_s]
  have V2 := rPay0_V (L := L) V.2.1 vd.1 vd.2 l0 l1
  refine al_0 dX9_argueNow_147 ?_
  refine il_1 dX9_argueNow_148 ?_
  refine il_4 dX9_argueNow_149 ?_
  refine c_X9_329 dX9_argueNow_151 rfl tt336 (Nat.le_of_ble_eq_true rfl) (by omega) ?_
  refine wX9_write (by omega) r2 V2 (by rw [E2.2 23 (by decide)]; exact hw) d0 (by omega) l0 (by omega) (fun h3 E3 r3 => ?_)
  refine pv_n ?_
  refine il_4 dX9_argueNow_154 ?_
  refine wp_ireti dX9_argueNow_156 rfl ?_
  refine hQ h3 (E2.tr (eqM.of E3 (by simp))) ?_ (by rw [E3 336 (by decide), ← ho]; exact b2)
  rw [r3]; rfl

theorem wX9_argueNow_27 {G : GT} {δ : Nat} {h hl : Nat → Int → Int} {b : Bool × Bool} {Q : V → Hp → Prop} {R : Int → Int} {L : Laws} {d l p q : Int} {c1 c2 : V} {wB : Bool} (hδ : δ ≤ 1600) (M : MT h R L) (hw : h 336 23 = if wB then 1 else 0) (d0 : 0 ≤ d) (d1 : d < R 1) (l0 : 0 ≤ l) (l1 : l < R 0)
  (hQ : ∀ h' hl', eqM h h' → h' 337 = rPay L wB (rDraw R) d l → h' 336 24 = w32 (h 336 24 + paidV L (rDraw R) d l) → Q (vi l) (HS h' hl' b)) : WP G δ 0 0 MX9_argueNow 27 [vr 336, vi d, vi p, vi q, vi l, c1, c2] [] (HS h hl b) Q := by
  have m := M.1
  have V := M.2.1
  have n := V.n
  have w := V.w
  have e0 : rDraw R 0 = R 0 := rDraw_o (by decide)
  have e1 : rDraw R 1 = R 1 := rDraw_o (by decide)
  have e2 : rDraw R 2 = R 2 := rDraw_o (by decide)
  have e3 : rDraw R 3 = R 3 := rDraw_o (by decide)
  refine al_0 dX9_argueNow_27 ?_
  refine c_X9_311 dX9_argueNow_28 rfl tt336 (Nat.le_of_ble_eq_true rfl) (by omega) ?_
  refine wX9_anew (by omega) (by rw [m]; omega) (by rw [m]; omega) ?_
  rw [m]
  obtain ⟨h1, e1'⟩ : ∃ h1, h1 = up h 337 9 ((R 9 * 617 + 491) % 30869) := ⟨_, rfl⟩
  rw [← e1']
  have E1 : eqM h h1 := by rw [e1']; exact eqM.rf.up (by omega)
  have m1 : h1 337 = rDraw R := by rw [e1', up_ur, m]; rfl
  have b1 : h1 336 24 = h 336 24 := by rw [e1', up_o (by decide)]
  have M1 : MT h1 (rDraw R) L := M.draw E1 m1
  have V1 := M1.2.1
  refine pv_n ?_
  refine al_0 dX9_argueNow_31 ?_
  refine al_0 dX9_argueNow_32 ?_
  refine g_X9_7 (337) dX9_argueNow_33 rfl tt336 (rr9_0 tt336) (by omega) ?_
  refine ic_3 dX9_argueNow_36 ?_
  refine wp_iaload dX9_argueNow_37 tt337 (by omega) (by omega) ?_
  rw [m1]
  refine il_1 dX9_argueNow_38 ?_
  refine il_4 dX9_argueNow_39 ?_
  refine c_X9_323 dX9_argueNow_41 rfl tt336 (Nat.le_of_ble_eq_true rfl) (by omega) ?_
  refine wX9_fillsOf (by omega) M1 (by omega) (by omega) d0 (by omega) l0 (by omega) (fun h2 hl2 E2 => ?_)
  have E12 : eqM h h2 := E1.tr (eqM.of E2 (by simp))
  have m2 : h2 337 = rDraw R := by rw [E2 337 (by decide)]; exact m1
  have b2 : h2 336 24 = h 336 24 := by rw [E2 336 (by decide)]; exact b1
  refine pv_i ?_
  refine is_5 dX9_argueNow_44 rfl (by decide) ?_
  refine il_5 dX9_argueNow_46 ?_
  refine al_0 dX9_argueNow_48 ?_
  refine il_4 dX9_argueNow_49 ?_
  refine c_X9_73 dX9_argueNow_51 rfl tt336 (Nat.le_of_ble_eq_true rfl) (by omega) ?_
  refine wX9_oilOf (by omega) l0 (by omega) ?_
  rw [m2]
  refine pv_i ?_
  refine wp_icmp_ge 62 dX9_argueNow_54 rfl (fun c54 => ?_) (fun c54 => ?_)
  · refine al_0 dX9_argueNow_62 ?_
    refine il_4 dX9_argueNow_63 ?_
    refine c_X9_73 dX9_argueNow_65 rfl tt336 (Nat.le_of_ble_eq_true rfl) (by omega) ?_
    refine wX9_oilOf (by omega) l0 (by omega) ?_
    rw [m2]
    refine pv_i ?_
    refine is_6 dX9_argueNow_68 rfl (by decide) ?_
    refine wX9_argueNow_70 (L := L) (wB := wB) (by omega) m2 V1 (by rw [E12.2 23 (by decide)]; exact hw) d0 (by omega) l0 (by omega) (by unfold paidV; omega) (fun h3 E3 r3 b3 => ?_)
    refine hQ h3 hl2 (E12.tr E3) r3 ?_
    rw [b3, b2]
  · refine il_5 dX9_argueNow_57 ?_
    refine wp_goto 68 dX9_argueNow_59 rfl ?_
    refine is_6 dX9_argueNow_68 rfl (by decide) ?_
    refine wX9_argueNow_70 (L := L) (wB := wB) (by omega) m2 V1 (by rw [E12.2 23 (by decide)]; exact hw) d0 (by omega) l0 (by omega) (by unfold paidV; omega) (fun h3 E3 r3 b3 => ?_)
    refine hQ h3 hl2 (E12.tr E3) r3 ?_
    rw [b3, b2]

theorem wX9_argueNow {G : GT} {δ : Nat} {h hl : Nat → Int → Int} {b : Bool × Bool} {Q : V → Hp → Prop} {d p q : Int} {wB : Bool} {R : Int → Int} {L : Laws} (hδ : δ ≤ 1600) (M : MT h R L) (hw : h 336 23 = if wB then 1 else 0) (d0 : 0 ≤ d) (d1 : d < R 1) (p0 : 0 ≤ p) (p1 : p < R 0) (q0 : 0 ≤ q) (q1 : q < R 0) (hQ : ∀ h' hl', eqM h h' → MT h' (rArg L wB R d p q) L → h' 336 24 = w32 (h 336 24 + (allOil R - allOil (rArg L wB R d p q))) → Q (vi (loserV L R d p q)) (HS h' hl' b)) : WP G δ 0 0 MX9_argueNow 0 [vr (336), vi d, vi p, vi q, vn, vn, vn] [] (HS h hl b) Q := by
  have m := M.1
  have n := M.2.1.n
  have w := M.2.1.w
  obtain ⟨a1, a2, a3, a4, a5⟩ := rArg_ok (L := L) (w := wB) M.2.1 d0 d1 p0 p1 q0 q1
  have di := M.2.1.di d d0 d1
  have ap : allOil R - allOil (rArg L wB R d p q) = paidV L (rDraw R) d (loserV L R d p q) := by
    have lr := loserV_R (L := L) (d := d) p0 p1 q0 q1
    have e29 : rDraw R (29 + d) = R (29 + d) := rDraw_N _ (by omega)
    have e0 : rDraw R 0 = R 0 := rDraw_N _ (by omega)
    unfold rArg
    rw [allOil_pay (rDraw_V M.2.1.2.1) (by rw [e29]; exact di.1) (by rw [e29]; exact di.2) lr.1 (by rw [e0]; exact lr.2), rDraw_oil]; omega
  refine al_0 dX9_argueNow_0 ?_
  refine g_X9_7 (337) dX9_argueNow_1 rfl tt336 (rr9_0 tt336) (by omega) ?_
  refine bi_9 dX9_argueNow_4 ?_
  refine wp_iaload dX9_argueNow_6 tt337 (by omega) (by omega) ?_
  first | rw [m2] | rw [m1] | rw [m] | rw [sw_s] | skip
  refine bi_10 dX9_argueNow_7 ?_
  refine wp_iremN dX9_argueNow_9 (by omega) (by omega) ?_
  refine al_0 dX9_argueNow_10 ?_
  refine il_1 dX9_argueNow_11 ?_
  refine il_2 dX9_argueNow_12 ?_
  refine il_3 dX9_argueNow_13 ?_
  refine c_X9_320 dX9_argueNow_14 rfl tt336 (Nat.le_of_ble_eq_true rfl) (by omega) ?_
  refine wX9_losesOf (by omega) M d0 d1 p0 p1 q0 q1 (fun h1 hl1 E1 => ?_)
  have M1 := M.x E1 (by decide) (by decide)
  have EM1 : eqM h h1 := eqM.of E1 (by simp)
  refine pv_i ?_
  refine wp_icmp_ge 24 dX9_argueNow_17 rfl (fun c17 => ?_) (fun c17 => ?_)
  · have le : loserV L R d p q = q := if_neg (by omega)
    refine il_3 dX9_argueNow_24 ?_
    refine is_4 dX9_argueNow_25 rfl (by decide) ?_
    refine wX9_argueNow_27 (wB := wB) (by omega) M1 (by rw [EM1.2 23 (by decide)]; exact hw) d0 d1 (by assumption) (by assumption) (fun h2 hl2 E2 r2 b2 => ?_)
    rw [le] at hQ ap
    have EE := EM1.tr E2
    have r3 : h2 337 = rArg L wB R d p q := by rw [r2]; unfold rArg; rw [le]
    refine hQ h2 hl2 EE (M.nx EE r3 (M.2.1.nw a2 a1) (a2 2 (by omega))) ?_
    rw [b2, ap, E1 336 (by decide)]
  · have le : loserV L R d p q = p := if_pos (by omega)
    refine il_2 dX9_argueNow_20 ?_
    refine wp_goto 25 dX9_argueNow_21 rfl ?_
    refine is_4 dX9_argueNow_25 rfl (by decide) ?_
    refine wX9_argueNow_27 (wB := wB) (by omega) M1 (by rw [EM1.2 23 (by decide)]; exact hw) d0 d1 (by assumption) (by assumption) (fun h2 hl2 E2 r2 b2 => ?_)
    rw [le] at hQ ap
    have EE := EM1.tr E2
    have r3 : h2 337 = rArg L wB R d p q := by rw [r2]; unfold rArg; rw [le]
    refine hQ h2 hl2 EE (M.nx EE r3 (M.2.1.nw a2 a1) (a2 2 (by omega))) ?_
    rw [b2, ap, E1 336 (by decide)]

theorem wX9_pass_81 {G : GT} {δ : Nat} {h hl : Nat → Int → Int} {b : Bool × Bool} {Q : V → Hp → Prop} {R : Int → Int} {had oil : Int} {c1 c2 c3 : V} (hδ : δ ≤ 1580) (m : h 337 = R) (V : SV R 0 8 1253) (hn : R 8 < 9999) (hb : h 336 24 = w32 (had + (oil - allOil R))) (o0 : 0 ≤ oil - allOil R) (o1 : oil - allOil R ≤ 9)
  (hQ : ∀ h', eqM h h' → h' 337 = rEnd R oil → h' 336 24 = h 336 24 → Q vn (HS h' hl b)) : WP G δ 0 0 MX9_pass 81 [vr 336, vi had, c1, c2, c3] [] (HS h hl b) Q := by
  obtain ⟨q0, q1, q2, q3, q4, q5, q6, q7, q8⟩ := V.now
  refine al_0 dX9_pass_81 ?_
  refine g_X9_7 (337) dX9_pass_82 rfl tt336 (rr9_0 tt336) (by omega) ?_
  refine bi_10 dX9_pass_85 ?_
  refine wp_dup2 dX9_pass_87 rfl rfl ?_
  refine wp_iaload dX9_pass_88 tt337 (by omega) (by omega) ?_
  first | rw [m2] | rw [m1] | rw [m] | rw [sw_s] | skip
  refine ic_1 dX9_pass_89 ?_
  refine al_0 dX9_pass_90 ?_
  refine bi_10 dX9_pass_91 ?_
  refine c_X9_338 dX9_pass_93 rfl tt336 (Nat.le_of_ble_eq_true rfl) (by omega) ?_
  refine wX9_drawnBy (by omega) (by omega) (by rw [m]; omega) (by rw [m]; omega) ?_
  rw [m]
  refine pv_i ?_
  refine wp_ishl dX9_pass_96 ?_
  refine ic_m1 dX9_pass_97 ?_
  refine wp_ixor dX9_pass_98 ?_
  refine wp_iand dX9_pass_99 ?_
  refine wp_iastore dX9_pass_100 tt337 (by omega) (by omega) ?_
  refine al_0 dX9_pass_101 ?_
  refine g_X9_7 (337) dX9_pass_102 rfl tt336 (rr9_0 tt336) (by omega) ?_
  refine bi_11 dX9_pass_105 ?_
  refine al_0 dX9_pass_107 ?_
  refine g_X9_326 dX9_pass_108 rfl tt336 ?_
  rw [up_o (o := 337) (q := 336) (by decide)]
  rw [up_o (by decide), hb]
  refine il_1 dX9_pass_111 ?_
  refine wp_isubW dX9_pass_112 ?_
  rw [w32_d o0 (by omega)]
  refine wp_iastore dX9_pass_113 tt337 (by omega) (by omega) ?_
  refine al_0 dX9_pass_114 ?_
  refine g_X9_7 (337) dX9_pass_115 rfl tt336 (rr9_0 tt336) (by omega) ?_
  refine bi_8 dX9_pass_118 ?_
  refine wp_dup2 dX9_pass_120 rfl rfl ?_
  refine wp_iaload dX9_pass_121 tt337 (by omega) (by omega) ?_
  rw [up_k (by decide), up_k (by decide), up_k (by decide), m]
  refine ic_1 dX9_pass_122 ?_
  refine wp_iadd dX9_pass_123 (r32 (by omega) (by omega)) ?_
  refine wp_iastore dX9_pass_124 tt337 (by omega) (by omega) ?_
  refine wp_vret dX9_pass_125 rfl ?_
  refine hQ _ (((((eqM.rf.up (by omega)).up (by omega)).up (by omega)).up (by omega))) ?_ (by rw [up_o (by decide), up_o (by decide), up_o (by decide), up_o (by decide)])
  rw [up_ur, up_ur, up_ur, up_ur, m]; rfl

theorem wX9_pass {G : GT} {δ : Nat} {h hl : Nat → Int → Int} {b : Bool × Bool} {Q : V → Hp → Prop} {wB : Bool} {R : Int → Int} {L : Laws} (hδ : δ ≤ 1580) (M : MT h R L) (hw : h 336 23 = if wB then 1 else 0) (hn : R 8 < 9999) (hQ : ∀ h' hl', eqM h h' → MT h' (rPass L wB R) L → h' 336 24 = w32 (h 336 24 + (allOil R - allOil (rPass L wB R))) → Q vn (HS h' hl' b)) : WP G δ 0 0 MX9_pass 0 [vr (336), vn, vn, vn, vn] [] (HS h hl b) Q := by
  have m := M.1
  have V := M.2.1
  have n := V.n
  have w := V.w
  obtain ⟨qa, qb, qc, qd, qe⟩ := rQuar_ok (L := L) (w := wB) V
  obtain ⟨pa, pb, pc'⟩ := rPass_ok (L := L) (w := wB) V hn
  have eo : allOil (rPass L wB R) = allOil (rQuar L wB R) := allOil_end
  rw [eo] at hQ
  have fin : ∀ h' hl', eqM h h' → h' 337 = rPass L wB R → h' 336 24 = w32 (h 336 24 + (allOil R - allOil (rQuar L wB R))) → Q vn (HS h' hl' b) := fun h' hl' e r bb => hQ h' hl' e (M.nx e r (V.nw pb pa) (pb 2 (by omega))) bb
  refine wp_in (fun hI _ => ?_)
  refine al_0 dX9_pass_0 ?_
  refine g_X9_326 dX9_pass_1 rfl tt336 ?_
  refine is_1 dX9_pass_4 rfl (by decide) ?_
  refine al_0 dX9_pass_5 ?_
  refine g_X9_7 (337) dX9_pass_6 rfl tt336 (rr9_0 tt336) (by omega) ?_
  refine ic_1 dX9_pass_9 ?_
  refine wp_iaload dX9_pass_10 tt337 (by omega) (by omega) ?_
  first | rw [m2] | rw [m1] | rw [m] | rw [sw_s] | skip
  refine wp_if_le 81 dX9_pass_11 rfl (fun c11 => ?_) (fun c11 => ?_)
  · have rq : rQuar L wB R = R := by unfold rQuar; rw [if_neg (by omega)]
    rw [rq] at fin
    have bR : w32 (h 336 24) = h 336 24 := w32_id (hI 336 24)
    refine wX9_pass_81 (oil := allOil R) (by omega) m V.2.1 hn (by rw [show h 336 24 + (allOil R - allOil R) = h 336 24 by omega, bR]) (by omega) (by omega) (fun h4 E4 r4 b4 => ?_)
    refine fin h4 hl E4 (by rw [r4]; unfold rPass; rw [rq]) ?_
    rw [b4, show h 336 24 + (allOil R - allOil R) = h 336 24 by omega, bR]
  · refine al_0 dX9_pass_14 ?_
    refine g_X9_7 (337) dX9_pass_15 rfl tt336 (rr9_0 tt336) (by omega) ?_
    refine ic_0 dX9_pass_18 ?_
    refine wp_iaload dX9_pass_19 tt337 (by omega) (by omega) ?_
    first | rw [m2] | rw [m1] | rw [m] | rw [sw_s] | skip
    refine ic_1 dX9_pass_20 ?_
    refine wp_icmp_le 81 dX9_pass_21 rfl (fun c21 => ?_) (fun c21 => ?_)
    · have rq : rQuar L wB R = R := by unfold rQuar; rw [if_neg (by omega)]
      rw [rq] at fin
      have bR : w32 (h 336 24) = h 336 24 := w32_id (hI 336 24)
      refine wX9_pass_81 (oil := allOil R) (by omega) m V.2.1 hn (by rw [show h 336 24 + (allOil R - allOil R) = h 336 24 by omega, bR]) (by omega) (by omega) (fun h4 E4 r4 b4 => ?_)
      refine fin h4 hl E4 (by rw [r4]; unfold rPass; rw [rq]) ?_
      rw [b4, show h 336 24 + (allOil R - allOil R) = h 336 24 by omega, bR]
    · refine al_0 dX9_pass_24 ?_
      refine al_0 dX9_pass_25 ?_
      refine g_X9_7 (337) dX9_pass_26 rfl tt336 (rr9_0 tt336) (by omega) ?_
      refine ic_1 dX9_pass_29 ?_
      refine wp_iaload dX9_pass_30 tt337 (by omega) (by omega) ?_
      first | rw [m2] | rw [m1] | rw [m] | rw [sw_s] | skip
      refine c_X9_338 dX9_pass_31 rfl tt336 (Nat.le_of_ble_eq_true rfl) (by omega) ?_
      refine wX9_drawnBy (by omega) (by omega) (by rw [m]; omega) (by rw [m]; omega) ?_
      rw [m]
      obtain ⟨h1, e1⟩ : ∃ h1, h1 = up h 337 9 ((R 9 * 617 + 491) % 30869) := ⟨_, rfl⟩
      rw [← e1]
      have E1 : eqM h h1 := by rw [e1]; exact eqM.rf.up (by omega)
      have m1 : h1 337 = rDraw R := by rw [e1, up_ur, m]; rfl
      have M1 := M.draw E1 m1
      have w1 := M1.2.1.w
      have o1 : h1 336 24 = h 336 24 := by rw [e1, up_o (by decide)]
      have z0 : rDraw R 0 = R 0 := rDraw_o (by decide)
      refine pv_i ?_
      refine is_2 dX9_pass_34 rfl (by decide) ?_
      refine al_0 dX9_pass_35 ?_
      refine al_0 dX9_pass_36 ?_
      refine g_X9_7 (337) dX9_pass_37 rfl tt336 (rr9_0 tt336) (by omega) ?_
      refine ic_0 dX9_pass_40 ?_
      refine wp_iaload dX9_pass_41 tt337 (by omega) (by omega) ?_
      rw [m1]
      refine c_X9_338 dX9_pass_42 rfl tt336 (Nat.le_of_ble_eq_true rfl) (by omega) ?_
      rw [z0]
      refine wX9_drawnBy (by omega) (by omega) (by rw [m1]; omega) (by rw [m1]; omega) ?_
      rw [m1]
      obtain ⟨h2, e2⟩ : ∃ h2, h2 = up h1 337 9 ((rDraw R 9 * 617 + 491) % 30869) := ⟨_, rfl⟩
      rw [← e2]
      have E2 : eqM h h2 := by rw [e2]; exact E1.up (by omega)
      have m2' : h2 337 = rDraw (rDraw R) := by rw [e2, up_ur, m1]; rfl
      have M2 := M1.draw (by rw [e2]; exact eqM.rf.up (by omega)) m2'
      have w2 := M2.2.1.w
      have o2 : h2 336 24 = h 336 24 := by rw [e2, up_o (by decide)]; exact o1
      have z0' : rDraw (rDraw R) 0 = R 0 := by rw [rDraw_o (by decide), z0]
      refine pv_i ?_
      refine is_3 dX9_pass_45 rfl (by decide) ?_
      refine al_0 dX9_pass_46 ?_
      refine al_0 dX9_pass_47 ?_
      refine g_X9_7 (337) dX9_pass_48 rfl tt336 (rr9_0 tt336) (by omega) ?_
      refine ic_0 dX9_pass_51 ?_
      refine wp_iaload dX9_pass_52 tt337 (by omega) (by omega) ?_
      rw [m2']
      refine ic_1 dX9_pass_53 ?_
      refine wp_isub dX9_pass_54 (r32 (by omega) (by omega)) ?_
      refine c_X9_338 dX9_pass_55 rfl tt336 (Nat.le_of_ble_eq_true rfl) (by omega) ?_
      rw [z0']
      refine wX9_drawnBy (by omega) (by omega) (by rw [m2']; omega) (by rw [m2']; omega) ?_
      rw [m2']
      obtain ⟨h3, e3⟩ : ∃ h3, h3 = up h2 337 9 ((rDraw (rDraw R) 9 * 617 + 491) % 30869) := ⟨_, rfl⟩
      rw [← e3]
      have E3 : eqM h h3 := by rw [e3]; exact E2.up (by omega)
      have m3 : h3 337 = rDraw (rDraw (rDraw R)) := by rw [e3, up_ur, m2']; rfl
      have M3 := M2.draw (by rw [e3]; exact eqM.rf.up (by omega)) m3
      have o3 : h3 336 24 = h 336 24 := by rw [e3, up_o (by decide)]; exact o2
      have y0 : rDraw (rDraw (rDraw R)) 0 = R 0 := by rw [rDraw_o (by decide), z0']
      have y1 : rDraw (rDraw (rDraw R)) 1 = R 1 := by rw [rDraw_o (by decide), rDraw_o (by decide), rDraw_o (by decide)]
      have a1 := Int.emod_nonneg (R 9) (show R 1 ≠ 0 by omega)
      have a2 := Int.emod_lt_of_pos (R 9) (show 0 < R 1 by omega)
      have b1 := Int.emod_nonneg (rDraw R 9) (show R 0 ≠ 0 by omega)
      have b2 := Int.emod_lt_of_pos (rDraw R 9) (show 0 < R 0 by omega)
      have g1 := Int.emod_nonneg (rDraw (rDraw R) 9) (show R 0 - 1 ≠ 0 by omega)
      have g2 := Int.emod_lt_of_pos (rDraw (rDraw R) 9) (show 0 < R 0 - 1 by omega)
      have oD : allOil (rDraw (rDraw (rDraw R))) = allOil R := by rw [rDraw_oil, rDraw_oil, rDraw_oil]
      refine pv_i ?_
      refine is_4 dX9_pass_58 rfl (by decide) ?_
      obtain ⟨Y, eY⟩ : ∃ Y, Y = rDraw (rDraw R) 9 % (R 0 - 1) := ⟨_, rfl⟩
      obtain ⟨X, eX⟩ : ∃ X, X = rDraw R 9 % R 0 := ⟨_, rfl⟩
      have rq : rQuar L wB R = rArg L wB (rDraw (rDraw (rDraw R))) (R 9 % R 1) X (if Y < X then Y else Y + 1) := by unfold rQuar; rw [if_pos (by omega), eX, eY]
      rw [← eX] at b1 b2 ⊢
      rw [← eY] at g1 g2 ⊢
      refine il_4 dX9_pass_60 ?_
      refine il_3 dX9_pass_62 ?_
      refine wp_icmp_lt 69 dX9_pass_63 rfl (fun c63 => ?_) (fun c63 => ?_)
      · refine al_0 dX9_pass_69 ?_
        refine il_2 dX9_pass_70 ?_
        refine il_3 dX9_pass_71 ?_
        refine il_4 dX9_pass_72 ?_
        refine c_X9_341 dX9_pass_74 rfl tt336 (Nat.le_of_ble_eq_true rfl) (by omega) ?_
        have rq2 : rQuar L wB R = rArg L wB (rDraw (rDraw (rDraw R))) (R 9 % R 1) X _ := rq.trans (by first | rw [if_pos (by omega)] | rw [if_neg (by omega)])
        refine wX9_argueNow (wB := wB) (by omega) M3 (by rw [E3.2 23 (by decide)]; exact hw) (by omega) (by omega) (by omega) (by omega) (by omega) (by omega) (fun h4 hl4 E4 M4 b4 => ?_)
        rw [← rq2] at M4 b4
        rw [oD, o3] at b4
        have E34 := E3.tr E4
        refine pv_i ?_
        refine wp_if_ge 81 dX9_pass_77 rfl (fun c77 => ?_) (fun c77 => ?_)
        · have m4 := M4.1
          refine wX9_pass_81 (oil := allOil R) (by omega) m4 qa (by omega) b4 qc qd (fun h5 E5 r5 b5 => ?_)
          exact fin h5 hl4 (E34.tr E5) r5 (by rw [b5]; exact b4)
        · exact (c77 (loserV_R (by omega) (by omega) (by omega) (by omega)).1).elim
      · refine ii_4 dX9_pass_66 rfl (by decide) ⟨by decide, by decide⟩ (r32 (by omega) (by omega)) ?_
        refine al_0 dX9_pass_69 ?_
        refine il_2 dX9_pass_70 ?_
        refine il_3 dX9_pass_71 ?_
        refine il_4 dX9_pass_72 ?_
        refine c_X9_341 dX9_pass_74 rfl tt336 (Nat.le_of_ble_eq_true rfl) (by omega) ?_
        have rq2 : rQuar L wB R = rArg L wB (rDraw (rDraw (rDraw R))) (R 9 % R 1) X _ := rq.trans (by first | rw [if_pos (by omega)] | rw [if_neg (by omega)])
        refine wX9_argueNow (wB := wB) (by omega) M3 (by rw [E3.2 23 (by decide)]; exact hw) (by omega) (by omega) (by omega) (by omega) (by omega) (by omega) (fun h4 hl4 E4 M4 b4 => ?_)
        rw [← rq2] at M4 b4
        rw [oD, o3] at b4
        have E34 := E3.tr E4
        refine pv_i ?_
        refine wp_if_ge 81 dX9_pass_77 rfl (fun c77 => ?_) (fun c77 => ?_)
        · have m4 := M4.1
          refine wX9_pass_81 (oil := allOil R) (by omega) m4 qa (by omega) b4 qc qd (fun h5 E5 r5 b5 => ?_)
          exact fin h5 hl4 (E34.tr E5) r5 (by rw [b5]; exact b4)
        · exact (c77 (loserV_R (by omega) (by omega) (by omega) (by omega)).1).elim
