def allOil (R : Int → Int) : Int := sumN (fun i => R (13 + 2 * i)) (R 0).toNat
def snuffL (x l : Int) : Int := band x (bxor (shl 1 l) (-1))
def rEnd (R : Int → Int) (oil : Int) : Int → Int :=
  ur (ur (ur (rDraw R) 10 (snuffL (R 10) (R 9 % 10))) 11 (oil - allOil R)) 8 (R 8 + 1)
def rQuar (L : Laws) (w : Bool) (R : Int → Int) : Int → Int :=
  if 0 < R 1 ∧ 1 < R 0 then
    rArg L w (rDraw (rDraw (rDraw R))) (R 9 % R 1) (rDraw R 9 % R 0) (if rDraw (rDraw R) 9 % (R 0 - 1) < rDraw R 9 % R 0 then rDraw (rDraw R) 9 % (R 0 - 1) else rDraw (rDraw R) 9 % (R 0 - 1) + 1)
  else R
def rPass (L : Laws) (w : Bool) (R : Int → Int) : Int → Int := rEnd (rQuar L w R) (allOil R)
def rNts (L : Laws) (s w : Bool) : Nat → (Int → Int) → Int → Int
  | 0, R => R
  | n + 1, R => if R 8 < 9999 then rNts L s w n (rPass L w (if s then rKeep R else R)) else R
theorem snuff_t : ∀ n : Nat, n < 1024 → ∀ l : Nat, l < 10 → 0 ≤ snuffL n l ∧ snuffL n l < 1024 := by decide +kernel
theorem snuff_R {x l : Int} (x0 : 0 ≤ x) (x1 : x < 1024) (l0 : 0 ≤ l) (l1 : l < 10) : 0 ≤ snuffL x l ∧ snuffL x l < 1024 := by
  obtain ⟨n, hn, rfl⟩ := nat_of (n := 1024) x0 x1
  obtain ⟨m, hm, rfl⟩ := nat_of (n := 10) l0 l1
  exact snuff_t n hn m hm
theorem sumN_up {f g : Int → Int} {l x : Int} (l0 : 0 ≤ l) (e : ∀ i, g i = if i = l then x else f i) : ∀ n : Nat, sumN g n = if l < n then sumN f n - f l + x else sumN f n
  | 0 => by rw [if_neg (by omega)]; rfl
  | n + 1 => by
    have ih := sumN_up l0 e n
    show sumN g n + g n = if _ then sumN f n + f n - f l + x else sumN f n + f n
    rw [ih, e n]
    by_cases q : (n : Int) = l
    · rw [if_pos q, if_neg (by omega), if_pos (by omega), q]; omega
    · rw [if_neg q]
      by_cases w : l < n
      · rw [if_pos w, if_pos (by omega)]; omega
      · rw [if_neg w, if_neg (by omega)]
section PASS
variable {h h' : Nat → Int → Int} {R R' : Int → Int} {L : Laws} {k x p v d l : Int} {w : Bool}
theorem allOil_c (e0 : R' 0 = R 0) (e : ∀ i : Int, 0 ≤ i → i < R 0 → R' (13 + 2 * i) = R (13 + 2 * i)) : allOil R' = allOil R := by
  unfold allOil
  rw [e0]
  exact sumN_c _ (fun i i0 i1 => e i i0 (by omega))
theorem allOil_R (V : SV R 0 8 1253) : 0 ≤ allOil R ∧ allOil R ≤ 396 := by
  have v := V.now
  have := sumN_R (f := fun i => R (13 + 2 * i)) (c := 99) (R 0).toNat (fun i i0 i1 => v.2.2.2.2.2.2.1 i i0 (by omega))
  unfold allOil; omega
theorem allOil_pay0 (l0 : 0 ≤ l) (l1 : l < R 0) : allOil (rPay0 L R d l) = allOil R - paidV L R d l := by
  have e : ∀ i : Int, (rPay0 L R d l) (13 + 2 * i) = if i = l then R (13 + 2 * l) - paidV L R d l else R (13 + 2 * i) := fun i => by
    unfold rPay0
    rw [ur_n (by omega)]
    by_cases q : i = l
    · rw [q, ur_s, if_pos rfl]
    · rw [ur_n (by omega), ur_n (by omega), if_neg q]
  have e0 : (rPay0 L R d l) 0 = R 0 := by unfold rPay0; rw [ur_n (by omega), ur_n (by omega), ur_n (by omega)]
  unfold allOil
  rw [e0, sumN_up (f := fun i => R (13 + 2 * i)) l0 e (R 0).toNat, if_pos (by omega)]
  omega
theorem rWr_o {j : Int} (n0 : 0 ≤ R 12) (e : j < 1253) (q : j ≠ 12) : rWr R v j = R j := by
  by_cases u : R 12 < 25
  · rw [rWr_s u, if_neg q, if_neg (by omega)]
  · rw [rWr_b u, if_neg (by omega), if_neg (by omega), if_neg q]
theorem rPay_o {j : Int} (V : SV R 0 8 1253) (d0 : 0 ≤ R (29 + d)) (d1 : R (29 + d) < 1024) (l0 : 0 ≤ l) (l1 : l < R 0) (e : j < 1253) (q : j ≠ 12) : rPay L w R d l j = rPay0 L R d l j := by
  unfold rPay; split
  · exact rWr_o (rPay0_V (L := L) V d0 d1 l0 l1).now.2.2.2.2.2.1.1 e q
  · rfl
theorem allOil_pay (V : SV R 0 8 1253) (d0 : 0 ≤ R (29 + d)) (d1 : R (29 + d) < 1024) (l0 : 0 ≤ l) (l1 : l < R 0) : allOil (rPay L w R d l) = allOil R - paidV L R d l := by
  have n4 := V.now.1.2
  rw [← allOil_pay0 l0 l1]
  have e0 : (rPay0 L R d l) 0 = R 0 := by unfold rPay0; rw [ur_n (by omega), ur_n (by omega), ur_n (by omega)]
  exact allOil_c (rPay_o V d0 d1 l0 l1 (by decide) (by decide)) (fun i i0 i1 => rPay_o V d0 d1 l0 l1 (by rw [e0] at i1; omega) (by omega))
theorem rDraw_oil : allOil (rDraw R) = allOil R := allOil_c (ur_n (by decide)) (fun i i0 i1 => ur_n (by omega))
/-- the quarrel of a night -/
theorem rArg_ok {q : Int} (V : RV R) (d0 : 0 ≤ d) (d1 : d < R 1) (p0 : 0 ≤ p) (p1 : p < R 0) (q0 : 0 ≤ q) (q1 : q < R 0) : SV (rArg L w R d p q) 0 8 1253 ∧ nowEq R (rArg L w R d p q) ∧ 0 ≤ allOil R - allOil (rArg L w R d p q) ∧ allOil R - allOil (rArg L w R d p q) ≤ 9 ∧ (rArg L w R d p q) 8 = R 8 := by
  have n := V.n
  have VD := rDraw_V V.2.1
  have di := V.di d d0 d1
  have e29 : rDraw R (29 + d) = R (29 + d) := rDraw_N _ (by omega)
  have e0 : rDraw R 0 = R 0 := rDraw_N _ (by omega)
  have lr := loserV_R (L := L) (d := d) p0 p1 q0 q1
  unfold rArg
  have a := rPay_V (w := w) (L := L) VD d0 (by omega) (by rw [e29]; exact di.1) (by rw [e29]; exact di.2) lr.1 (by rw [e0]; exact lr.2)
  have c := rPay_N (w := w) (L := L) (d := d) VD (by rw [e29]; exact di.1) (by rw [e29]; exact di.2) lr.1 (by rw [e0]; exact lr.2)
  have e := allOil_pay (w := w) (L := L) (d := d) VD (by rw [e29]; exact di.1) (by rw [e29]; exact di.2) lr.1 (by rw [e0]; exact lr.2)
  have f := paidV_R (L := L) (d := d) VD lr.1 (by rw [e0]; exact lr.2)
  rw [rDraw_oil] at e
  refine ⟨a, rDraw_N.tr c, by omega, by omega, ?_⟩
  rw [rPay_o VD (by rw [e29]; exact di.1) (by rw [e29]; exact di.2) lr.1 (by rw [e0]; exact lr.2) (by decide) (by decide)]
  unfold rPay0 rDraw
  rw [ur_n (by decide), ur_n (by omega), ur_n (by omega), ur_n (by decide)]
theorem rDraw_RV (V : RV R) : RV (rDraw R) := V.nw rDraw_N (rDraw_V V.2.1)
theorem rDraw_o {j : Int} (e : j ≠ 9) : rDraw R j = R j := ur_n e
theorem rQuar_ok (V : RV R) : SV (rQuar L w R) 0 8 1253 ∧ nowEq R (rQuar L w R) ∧ 0 ≤ allOil R - allOil (rQuar L w R) ∧ allOil R - allOil (rQuar L w R) ≤ 9 ∧ (rQuar L w R) 8 = R 8 := by
  unfold rQuar
  split
  · rename_i u
    have V1 := rDraw_RV V
    have V2 := rDraw_RV V1
    have V3 := rDraw_RV V2
    have n := V.n
    have w9 := V.w.2.1; have w19 := V1.w.2.1; have w29 := V2.w.2.1
    have e0 : rDraw (rDraw (rDraw R)) 0 = R 0 := by rw [rDraw_o (by decide), rDraw_o (by decide), rDraw_o (by decide)]
    have e1 : rDraw (rDraw (rDraw R)) 1 = R 1 := by rw [rDraw_o (by decide), rDraw_o (by decide), rDraw_o (by decide)]
    have e8 : rDraw (rDraw (rDraw R)) 8 = R 8 := by rw [rDraw_o (by decide), rDraw_o (by decide), rDraw_o (by decide)]
    have a1 := Int.emod_nonneg (R 9) (show R 1 ≠ 0 by omega)
    have a2 := Int.emod_lt_of_pos (R 9) (show 0 < R 1 by omega)
    have b1 := Int.emod_nonneg (rDraw R 9) (show R 0 ≠ 0 by omega)
    have b2 := Int.emod_lt_of_pos (rDraw R 9) (show 0 < R 0 by omega)
    have c1 := Int.emod_nonneg (rDraw (rDraw R) 9) (show R 0 - 1 ≠ 0 by omega)
    have c2 := Int.emod_lt_of_pos (rDraw (rDraw R) 9) (show 0 < R 0 - 1 by omega)
    have z := rArg_ok (L := L) (w := w) V3 (d := R 9 % R 1) (p := rDraw R 9 % R 0) (q := if rDraw (rDraw R) 9 % (R 0 - 1) < rDraw R 9 % R 0 then rDraw (rDraw R) 9 % (R 0 - 1) else rDraw (rDraw R) 9 % (R 0 - 1) + 1) a1 (by omega) b1 (by omega) (by split <;> omega) (by split <;> omega)
    rw [rDraw_oil, rDraw_oil, rDraw_oil, e8] at z
    exact ⟨z.1, ((rDraw_N.tr rDraw_N).tr rDraw_N).tr z.2.1, z.2.2⟩
  · exact ⟨V.2.1, nowEq.rf, by omega, by omega, rfl⟩
theorem rEnd_ok {oil : Int} (V : SV R 0 8 1253) (n : R 8 < 9999) (a : 0 ≤ oil - allOil R) (c : oil - allOil R ≤ 9) : SV (rEnd R oil) 0 8 1253 ∧ nowEq R (rEnd R oil) ∧ rEnd R oil 8 = R 8 + 1 := by
  have v := V.now
  have s := snuff_R v.2.2.2.1.1 v.2.2.2.1.2 (Int.emod_nonneg (R 9) (show (10 : Int) ≠ 0 by decide)) (Int.emod_lt_of_pos (R 9) (show (0 : Int) < 10 by decide))
  exact ⟨(((rDraw_V V).lit s.1 s.2).burnt a c).night (by omega) (by omega), ((rDraw_N.ur (by omega)).ur (by omega)).ur (by omega), ur_s⟩
theorem rPass_ok (V : RV R) (n : R 8 < 9999) : SV (rPass L w R) 0 8 1253 ∧ nowEq R (rPass L w R) ∧ rPass L w R 8 = R 8 + 1 := by
  obtain ⟨a, c, e, f, g⟩ := rQuar_ok (L := L) (w := w) V
  obtain ⟨x, y, z⟩ := rEnd_ok (oil := allOil R) a (by omega) e f
  exact ⟨x, c.tr y, by unfold rPass; omega⟩
end PASS

theorem wX7_pn_137 {G : GT} {δ : Nat} {h hl : Nat → Int → Int} {b : Bool × Bool} {Q : V → Hp → Prop} {R : Int → Int} {L : Laws} {n s ps i oil : Int} {c1 c2 c3 : V} (hδ : δ ≤ 1600) (C : CT h R L) (hn : R 8 < 9999) (o0 : 0 ≤ oil - allOil R) (o1 : oil - allOil R ≤ 9) (hp : -1000 ≤ ps ∧ ps < 1000) (hi : -1000 ≤ i ∧ i < 1000)
  (k : ∀ h', eqN h h' → CT h' (rEnd R oil) L → WP G δ 0 0 MX7_passNights 5 [vr 2, vi n, vi s, vi (ps + 1), vi (i + 1), vn, vn, vn, vn] [] (HS h' hl b) Q) : WP G δ 0 0 MX7_passNights 137 [vr 2, vi n, vi s, vi ps, vi i, vi oil, c1, c2, c3] [] (HS h hl b) Q := by
  obtain ⟨s0, s3, s4, s1, s2, s5, s6, s7, s8⟩ := C.1.1.now
  have w := C.2.1.w
  have n := C.2.1.n
  have ao := allOil_R C.2.1.2.1
  obtain ⟨V', N', e8⟩ := rEnd_ok (oil := oil) C.2.1.2.1 hn o0 o1

  refine al_0 dX7_passNights_137 ?_
  refine g_X7_12 (3) dX7_passNights_138 rfl tt2 (rr7_0 tt2) (by omega) ?_
  refine wp_dup dX7_passNights_141 rfl ?_
  refine g_X7_127 dX7_passNights_142 rfl tt3 ?_
  rw [s1]
  refine ic_1 dX7_passNights_145 ?_
  refine al_0 dX7_passNights_146 ?_
  refine g_X7_12 (3) dX7_passNights_147 rfl tt2 (rr7_0 tt2) (by omega) ?_
  refine bi_10 dX7_passNights_150 ?_
  refine c_X7_181 dX7_passNights_152 rfl tt3 (Nat.le_of_ble_eq_true rfl) (by omega) ?_
  refine wX5_draw (by omega) (by omega) (by omega) ?_
  rw [s4]
  refine pv_i ?_
  refine wp_ishl dX7_passNights_155 ?_
  refine ic_m1 dX7_passNights_156 ?_
  refine wp_ixor dX7_passNights_157 ?_
  refine wp_iand dX7_passNights_158 ?_
  refine p_X7_127 dX7_passNights_159 rfl tt3 ?_
  obtain ⟨h2, e2⟩ : ∃ h2, h2 = up (up h 3 4 ((R 9 * 617 + 491) % 30869)) 3 1 (band (R 10) (bxor (shl 1 (R 9 % 10)) (-1))) := ⟨_, rfl⟩
  rw [← e2]
  have E2 : eqN h h2 := by rw [e2]; exact (eqX.rf.up (by decide)).up (by decide)
  have S2 : SPR h2 3 (ur (rDraw R) 10 (snuffL (R 10) (R 9 % 10))) 0 8 1253 := by rw [e2]; exact C.1.1.xx.lit
  obtain ⟨t0, t3, t4, t1, t2, t5, t6, t7, t8⟩ := S2.now
  have r0 : ur (rDraw R) 10 (snuffL (R 10) (R 9 % 10)) 0 = R 0 := by rw [ur_n (by decide), rDraw_o (by decide)]
  have ro : ∀ j : Int, 0 ≤ j → j < R 0 → h2 4 j = R (13 + 2 * j) := fun j j0 j1 => by rw [t6 j j0 (by omega), ur_n (by omega), rDraw_o (by omega)]
  have r3 : h2 3 3 = R 8 := by rw [t3, ur_n (by decide), rDraw_o (by decide)]
  have rs : sumN (h2 4) (h2 3 0).toNat = allOil R := by rw [t0, r0]; exact sumN_c _ (fun j j0 j1 => ro j j0 (by omega))
  refine al_0 dX7_passNights_162 ?_
  refine g_X7_12 (3) dX7_passNights_163 rfl tt2 (rr7_0 tt2) (by omega) ?_
  refine il_5 dX7_passNights_166 ?_
  refine al_0 dX7_passNights_168 ?_
  refine g_X7_12 (3) dX7_passNights_169 rfl tt2 (rr7_0 tt2) (by omega) ?_
  refine c_X7_177 dX7_passNights_172 rfl tt3 (Nat.le_of_ble_eq_true rfl) (by omega) ?_
  refine wX5_oilOfAll (by omega) (by omega) (by omega) (fun j j0 j1 => by rw [ro j j0 (by omega)]; exact C.2.1.oil j j0 (by omega)) ?_
  rw [rs]
  refine pv_i ?_
  refine wp_isub dX7_passNights_175 (r32 (by omega) (by omega)) ?_
  refine p_X7_184 dX7_passNights_176 rfl tt3 ?_
  
  refine al_0 dX7_passNights_179 ?_
  refine g_X7_12 (3) dX7_passNights_180 rfl tt2 (rr7_0 tt2) (by omega) ?_
  refine wp_dup dX7_passNights_183 rfl ?_
  refine g_X7_152 dX7_passNights_184 rfl tt3 ?_
  rw [up_k (by decide), r3]
  refine ic_1 dX7_passNights_187 ?_
  refine wp_iadd dX7_passNights_188 (r32 (by omega) (by omega)) ?_
  refine p_X7_152 dX7_passNights_189 rfl tt3 ?_
  have S3 : SPR (up (up h2 3 2 (oil - allOil R)) 3 3 (R 8 + 1)) 3 (rEnd R oil) 0 8 1253 := S2.burnt.night
  have E3 : eqN h (up (up h2 3 2 (oil - allOil R)) 3 3 (R 8 + 1)) := (E2.up (by decide)).up (by decide)
  have C3 := C.nw N' S3 E3 V'
  refine ii_3 dX7_passNights_192 rfl (by decide) ⟨by decide, by decide⟩ (r32 (by omega) (by omega)) ?_
  refine ii_4 dX7_passNights_195 rfl (by decide) ⟨by decide, by decide⟩ (r32 (by omega) (by omega)) ?_
  refine wp_goto 5 dX7_passNights_198 rfl ?_
  refine wp_fg (ls' := [_, _, _, _, _, vn, vn, vn, vn]) ⟨Or.inr rfl, Or.inr rfl, Or.inr rfl, Or.inr rfl, Or.inr rfl, Or.inl rfl, Or.inl rfl, Or.inl rfl, Or.inl rfl, trivial⟩ ?_
  exact k _ E3 C3

theorem wX7_pn_32 {G : GT} {δ : Nat} {h hl : Nat → Int → Int} {b : Bool × Bool} {Q : V → Hp → Prop} {R : Int → Int} {L : Laws} {n s ps i : Int} (hδ : δ ≤ 1600) (C : CT h R L) (hn : R 8 < 9999) (hp : -1000 ≤ ps ∧ ps < 1000) (hi : -1000 ≤ i ∧ i < 1000)
  (k : ∀ h', eqN h h' → CT h' (rPass L true R) L → WP G δ 0 0 MX7_passNights 5 [vr 2, vi n, vi s, vi (ps + 1), vi (i + 1), vn, vn, vn, vn] [] (HS h' hl b) Q) : WP G δ 0 0 MX7_passNights 32 [vr 2, vi n, vi s, vi ps, vi i, vn, vn, vn, vn] [] (HS h hl b) Q := by
  obtain ⟨s0, s3, s4, s1, s2, s5, s6, s7, s8⟩ := C.1.1.now
  have f := C.1.f
  have w := C.2.1.w
  have nn := C.2.1.n
  have ao := allOil_R C.2.1.2.1
  have rs : sumN (h 4) (h 3 0).toNat = allOil R := by rw [s0]; exact sumN_c _ (fun j j0 j1 => s6 j j0 (by omega))
  obtain ⟨qa, qb, qc, qd, qe⟩ := rQuar_ok (L := L) (w := true) C.2.1

  refine al_0 dX7_passNights_32 ?_
  refine g_X7_12 (3) dX7_passNights_33 rfl tt2 (rr7_0 tt2) (by omega) ?_
  refine c_X7_177 dX7_passNights_36 rfl tt3 (Nat.le_of_ble_eq_true rfl) (by omega) ?_
  refine wX5_oilOfAll (by omega) (by omega) (by omega) (fun j j0 j1 => by rw [s6 j j0 (by omega)]; exact C.2.1.oil j j0 (by omega)) ?_
  rw [rs]
  refine pv_i ?_
  refine is_5 dX7_passNights_39 rfl (by decide) ?_
  refine al_0 dX7_passNights_41 ?_
  refine g_X7_27 (9) dX7_passNights_42 rfl tt2 (rr7_2 tt2) (by omega) ?_
  refine g_X7_87 dX7_passNights_45 rfl tt9 ?_
  rw [f.2.1.2.1]
  refine wp_if_le 137 dX7_passNights_48 rfl (fun c48 => ?_) (fun c48 => ?_)
  · have rq : rQuar L true R = R := by unfold rQuar; rw [if_neg (by omega)]
    refine wX7_pn_137 (by omega) C hn (by omega) (by omega) hp hi (fun h4 E4 C4 => ?_)
    refine k h4 E4 ?_
    unfold rPass; rw [rq]; exact C4
  · refine al_0 dX7_passNights_51 ?_
    refine g_X7_12 (3) dX7_passNights_52 rfl tt2 (rr7_0 tt2) (by omega) ?_
    refine g_X7_80 dX7_passNights_55 rfl tt3 ?_
    rw [s0]
    refine ic_1 dX7_passNights_58 ?_
    refine wp_icmp_le 137 dX7_passNights_59 rfl (fun c59 => ?_) (fun c59 => ?_)
    · have rq : rQuar L true R = R := by unfold rQuar; rw [if_neg (by omega)]
      refine wX7_pn_137 (by omega) C hn (by omega) (by omega) hp hi (fun h4 E4 C4 => ?_)
      refine k h4 E4 ?_
      unfold rPass; rw [rq]; exact C4
    · have V1 := rDraw_RV C.2.1
      have V2 := rDraw_RV V1
      have V3 := rDraw_RV V2
      have w19 := V1.w.2.1
      have w29 := V2.w.2.1
      refine al_0 dX7_passNights_62 ?_
      refine g_X7_12 (3) dX7_passNights_63 rfl tt2 (rr7_0 tt2) (by omega) ?_
      refine al_0 dX7_passNights_66 ?_
      refine g_X7_27 (9) dX7_passNights_67 rfl tt2 (rr7_2 tt2) (by omega) ?_
      refine g_X7_87 dX7_passNights_70 rfl tt9 ?_
      rw [f.2.1.2.1]
      refine c_X7_181 dX7_passNights_73 rfl tt3 (Nat.le_of_ble_eq_true rfl) (by omega) ?_
      refine wX5_draw (by omega) (by omega) (by omega) ?_
      rw [s4]
      refine pv_i ?_
      refine is_6 dX7_passNights_76 rfl (by decide) ?_
      refine al_0 dX7_passNights_78 ?_
      refine g_X7_12 (3) dX7_passNights_79 rfl tt2 (rr7_0 tt2) (by omega) ?_
      refine al_0 dX7_passNights_82 ?_
      refine g_X7_12 (3) dX7_passNights_83 rfl tt2 (rr7_0 tt2) (by omega) ?_
      refine g_X7_80 dX7_passNights_86 rfl tt3 ?_
      rw [up_k (by decide), s0]
      refine c_X7_181 dX7_passNights_89 rfl tt3 (Nat.le_of_ble_eq_true rfl) (by omega) ?_
      have y4 : up h 3 4 ((R 9 * 617 + 491) % 30869) 3 4 = rDraw R 9 := by rw [up_s]; unfold rDraw; rw [ur_s]
      refine wX5_draw (by omega) (by omega) (by omega) ?_
      rw [y4]
      refine pv_i ?_
      refine is_7 dX7_passNights_92 rfl (by decide) ?_
      refine al_0 dX7_passNights_94 ?_
      refine g_X7_12 (3) dX7_passNights_95 rfl tt2 (rr7_0 tt2) (by omega) ?_
      refine al_0 dX7_passNights_98 ?_
      refine g_X7_12 (3) dX7_passNights_99 rfl tt2 (rr7_0 tt2) (by omega) ?_
      refine g_X7_80 dX7_passNights_102 rfl tt3 ?_
      rw [up_k (by decide), up_k (by decide), s0]
      refine ic_1 dX7_passNights_105 ?_
      refine wp_isub dX7_passNights_106 (r32 (by omega) (by omega)) ?_
      refine c_X7_181 dX7_passNights_107 rfl tt3 (Nat.le_of_ble_eq_true rfl) (by omega) ?_
      have y5 : up (up h 3 4 ((R 9 * 617 + 491) % 30869)) 3 4 ((rDraw R 9 * 617 + 491) % 30869) 3 4 = rDraw (rDraw R) 9 := by rw [up_s]; rfl
      refine wX5_draw (by omega) (by omega) (by omega) ?_
      rw [y5]
      refine pv_i ?_
      refine is_8 dX7_passNights_110 rfl (by decide) ?_
      obtain ⟨h3, e3⟩ : ∃ h3, h3 = up (up (up h 3 4 ((R 9 * 617 + 491) % 30869)) 3 4 ((rDraw R 9 * 617 + 491) % 30869)) 3 4 ((rDraw (rDraw R) 9 * 617 + 491) % 30869) := ⟨_, rfl⟩
      rw [← e3]
      have E3 : eqN h h3 := by rw [e3]; exact ((eqX.rf.up (by decide)).up (by decide)).up (by decide)
      have C3 : CT h3 (rDraw (rDraw (rDraw R))) L := C.nw ((rDraw_N.tr rDraw_N).tr rDraw_N) (by rw [e3]; exact C.1.1.xx.xx.xx) E3 V3.2.1
      have z0 : rDraw (rDraw (rDraw R)) 0 = R 0 := by rw [rDraw_o (by decide), rDraw_o (by decide), rDraw_o (by decide)]
      have z1 : rDraw (rDraw (rDraw R)) 1 = R 1 := by rw [rDraw_o (by decide), rDraw_o (by decide), rDraw_o (by decide)]
      have a1 := Int.emod_nonneg (R 9) (show R 1 ≠ 0 by omega)
      have a2 := Int.emod_lt_of_pos (R 9) (show 0 < R 1 by omega)
      have b1 := Int.emod_nonneg (rDraw R 9) (show R 0 ≠ 0 by omega)
      have b2 := Int.emod_lt_of_pos (rDraw R 9) (show 0 < R 0 by omega)
      have g1 := Int.emod_nonneg (rDraw (rDraw R) 9) (show R 0 - 1 ≠ 0 by omega)
      have g2 := Int.emod_lt_of_pos (rDraw (rDraw R) 9) (show 0 < R 0 - 1 by omega)
      obtain ⟨Y, eY⟩ : ∃ Y, Y = rDraw (rDraw R) 9 % (R 0 - 1) := ⟨_, rfl⟩
      obtain ⟨X, eX⟩ : ∃ X, X = rDraw R 9 % R 0 := ⟨_, rfl⟩
      have rq : rQuar L true R = rArg L true (rDraw (rDraw (rDraw R))) (R 9 % R 1) X (if Y < X then Y else Y + 1) := by unfold rQuar; rw [if_pos (by omega), eX, eY]
      rw [← eX] at b1 b2 ⊢
      rw [← eY] at g1 g2 ⊢
      refine al_0 dX7_passNights_112 ?_
      refine il_6 dX7_passNights_113 ?_
      refine il_7 dX7_passNights_115 ?_
      refine il_8 dX7_passNights_117 ?_
      refine il_7 dX7_passNights_119 ?_
      refine wp_icmp_ge 129 dX7_passNights_121 rfl (fun c121 => ?_) (fun c121 => ?_)
      · refine il_8 dX7_passNights_129 ?_
        refine ic_1 dX7_passNights_131 ?_
        refine wp_iadd dX7_passNights_132 (r32 (by omega) (by omega)) ?_
        refine c_X7_168 dX7_passNights_133 rfl tt2 (Nat.le_of_ble_eq_true rfl) (by omega) ?_
        have rq2 : rQuar L true R = rArg L true (rDraw (rDraw (rDraw R))) (R 9 % R 1) X _ := rq.trans (by first | rw [if_pos (by omega)] | rw [if_neg (by omega)])
        refine wX7_argueOut (by omega) C3 (by omega) (by omega) (by omega) (by omega) (by omega) (by omega) (fun h4 E4 C4 => ?_)
        rw [← rq2] at C4
        have E4 := E3.tr E4
        refine pv_i ?_
        refine wp_pop dX7_passNights_136 rfl ?_
        refine wX7_pn_137 (by omega) C4 (by omega) qc qd hp hi (fun h5 E5 C5 => ?_)
        exact k h5 (E4.tr E5) C5
      · refine il_8 dX7_passNights_124 ?_
        refine wp_goto 133 dX7_passNights_126 rfl ?_
        refine c_X7_168 dX7_passNights_133 rfl tt2 (Nat.le_of_ble_eq_true rfl) (by omega) ?_
        have rq2 : rQuar L true R = rArg L true (rDraw (rDraw (rDraw R))) (R 9 % R 1) X _ := rq.trans (by first | rw [if_pos (by omega)] | rw [if_neg (by omega)])
        refine wX7_argueOut (by omega) C3 (by omega) (by omega) (by omega) (by omega) (by omega) (by omega) (fun h4 E4 C4 => ?_)
        rw [← rq2] at C4
        have E4 := E3.tr E4
        refine pv_i ?_
        refine wp_pop dX7_passNights_136 rfl ?_
        refine wX7_pn_137 (by omega) C4 (by omega) qc qd hp hi (fun h5 E5 C5 => ?_)
        exact k h5 (E4.tr E5) C5

theorem rNts_t {L : Laws} {s w : Bool} {n : Nat} {R : Int → Int} (e : R 8 < 9999) : rNts L s w (n + 1) R = rNts L s w n (rPass L w (if s then rKeep R else R)) := if_pos e
theorem rNts_f {L : Laws} {s w : Bool} {n : Nat} {R : Int → Int} (e : ¬ R 8 < 9999) : rNts L s w (n + 1) R = R := if_neg e
theorem wX7_passNights_5 {G : GT} {δ : Nat} {hl : Nat → Int → Int} {b : Bool × Bool} {Q : V → Hp → Prop} {L : Laws} {n s : Int} {sB : Bool} (hδ : δ ≤ 1600) (hs : s = if sB then 1 else 0) (n1 : n ≤ 60) :
    ∀ (m : Nat) (ps i : Int) (h : Nat → Int → Int) (R : Int → Int), (n - i).toNat = m → 0 ≤ i → i ≤ n → 0 ≤ ps → ps ≤ i → CT h R L → (∀ h', eqT h h' → CT h' (rNts L sB true m R) L → Q (vi (ps + (rNts L sB true m R 8 - R 8))) (HS h' hl b)) → WP G δ 0 0 MX7_passNights 5 [vr 2, vi n, vi s, vi ps, vi i, vn, vn, vn, vn] [] (HS h hl b) Q := by
  intro m
  induction m with
  | zero =>
    intro ps i h R hm i0 i1 p0 p1 C hQ

    refine il_4 dX7_passNights_5 ?_
    refine il_1 dX7_passNights_7 ?_
    refine wp_icmp_ge 201 dX7_passNights_8 rfl (fun c8 => ?_) (fun c8 => ?_)
    · refine il_3 dX7_passNights_201 ?_
      refine wp_ireti dX7_passNights_202 rfl ?_
      refine qv (hQ h eqT.rf C) ?_
      rw [show rNts L sB true 0 R = R from rfl]; omega
    · omega
  | succ m ih =>
    intro ps i h R hm i0 i1 p0 p1 C hQ
    obtain ⟨s0, s3, s4, s1, s2, s5, s6, s7, s8⟩ := C.1.1.now
    have nn := C.2.1.w
    refine il_4 dX7_passNights_5 ?_
    refine il_1 dX7_passNights_7 ?_
    refine wp_icmp_ge 201 dX7_passNights_8 rfl (fun c8 => ?_) (fun c8 => ?_)
    · omega
    · refine al_0 dX7_passNights_11 ?_
      refine g_X7_12 (3) dX7_passNights_12 rfl tt2 (rr7_0 tt2) (by omega) ?_
      refine g_X7_152 dX7_passNights_15 rfl tt3 ?_
      rw [s3]
      refine si_9999 dX7_passNights_18 ?_
      refine wp_icmp_ge 201 dX7_passNights_21 rfl (fun c21 => ?_) (fun c21 => ?_)
      · refine il_3 dX7_passNights_201 ?_
        refine wp_ireti dX7_passNights_202 rfl ?_
        have e := rNts_f (L := L) (s := sB) (w := true) (n := m) (R := R) (by omega)
        rw [e] at hQ
        refine qv (hQ h eqT.rf C) ?_
        omega
      · refine il_2 dX7_passNights_24 ?_
        refine wp_if_eq 32 dX7_passNights_25 rfl (fun c25 => ?_) (fun c25 => ?_)
        · have hsB : sB = false := by cases sB with | false => rfl | true => simp at hs; omega
          first
            | (have k0 := e1k
               refine wX7_pn_32 (by omega) C1 (by rw [e1k]; omega) (by omega) (by omega) (fun h2 E2 C2 => ?_)
               refine ih (ps + 1) (i + 1) h2 _ (by omega) (by omega) (by omega) (by omega) (by omega) C2 (fun h3 E3 C3 => ?_)
               have e := rNts_t (L := L) (s := sB) (w := true) (n := m) (R := R) (by omega)
               rw [hsB] at e hQ C3 ⊢
               rw [if_pos rfl] at e
               rw [e] at hQ
               refine qv (hQ h3 ((E1.tr E2.T).tr E3) C3) ?_
               have ep := (rPass_ok (L := L) (w := true) (R := rKeep R) C1.2.1 (by rw [e1k]; omega)).2.2
               omega)
            | (refine wX7_pn_32 (by omega) C (by omega) (by omega) (by omega) (fun h2 E2 C2 => ?_)
               refine ih (ps + 1) (i + 1) h2 _ (by omega) (by omega) (by omega) (by omega) (by omega) C2 (fun h3 E3 C3 => ?_)
               have e := rNts_t (L := L) (s := sB) (w := true) (n := m) (R := R) (by omega)
               rw [hsB] at e hQ C3 ⊢
               rw [if_neg (by decide)] at e
               rw [e] at hQ
               refine qv (hQ h3 (E2.T.tr E3) C3) ?_
               have ep := (rPass_ok (L := L) (w := true) (R := R) C.2.1 (by omega)).2.2
               omega)
        · have hsB : sB = true := by cases sB with | true => rfl | false => simp at hs; omega
          refine al_0 dX7_passNights_28 ?_
          refine c_X7_165 dX7_passNights_29 rfl tt2 (Nat.le_of_ble_eq_true rfl) (by omega) ?_
          refine wX7_beginStep (by omega) C (fun h1 E1 C1 => ?_)
          have e1k : rKeep R 8 = R 8 := rKeep_o C.2.1 (by decide) (by decide)
          refine pv_n ?_
          first
            | (have k0 := e1k
               refine wX7_pn_32 (by omega) C1 (by rw [e1k]; omega) (by omega) (by omega) (fun h2 E2 C2 => ?_)
               refine ih (ps + 1) (i + 1) h2 _ (by omega) (by omega) (by omega) (by omega) (by omega) C2 (fun h3 E3 C3 => ?_)
               have e := rNts_t (L := L) (s := sB) (w := true) (n := m) (R := R) (by omega)
               rw [hsB] at e hQ C3 ⊢
               rw [if_pos rfl] at e
               rw [e] at hQ
               refine qv (hQ h3 ((E1.tr E2.T).tr E3) C3) ?_
               have ep := (rPass_ok (L := L) (w := true) (R := rKeep R) C1.2.1 (by rw [e1k]; omega)).2.2
               omega)
            | (refine wX7_pn_32 (by omega) C (by omega) (by omega) (by omega) (fun h2 E2 C2 => ?_)
               refine ih (ps + 1) (i + 1) h2 _ (by omega) (by omega) (by omega) (by omega) (by omega) C2 (fun h3 E3 C3 => ?_)
               have e := rNts_t (L := L) (s := sB) (w := true) (n := m) (R := R) (by omega)
               rw [hsB] at e hQ C3 ⊢
               rw [if_neg (by decide)] at e
               rw [e] at hQ
               refine qv (hQ h3 (E2.T.tr E3) C3) ?_
               have ep := (rPass_ok (L := L) (w := true) (R := R) C.2.1 (by omega)).2.2
               omega)

theorem wX7_passNights {G : GT} {δ : Nat} {h hl : Nat → Int → Int} {b : Bool × Bool} {Q : V → Hp → Prop} {n s : Int} {sB : Bool} {R : Int → Int} {L : Laws} (hδ : δ ≤ 1600) (hs : s = if sB then 1 else 0) (n0 : 0 ≤ n) (n1 : n ≤ 60) (C : CT h R L) (hQ : ∀ h', eqT h h' → CT h' (rNts L sB true n.toNat R) L → Q (vi (rNts L sB true n.toNat R 8 - R 8)) (HS h' hl b)) : WP G δ 0 0 MX7_passNights 0 [vr (2), vi n, vi s, vn, vn, vn, vn, vn, vn] [] (HS h hl b) Q := by
  refine ic_0 dX7_passNights_0 ?_
  refine is_3 dX7_passNights_1 rfl (by decide) ?_
  refine ic_0 dX7_passNights_2 ?_
  refine is_4 dX7_passNights_3 rfl (by decide) ?_
  refine wX7_passNights_5 (by omega) hs n1 n.toNat 0 0 h R (by omega) (by omega) n0 (by omega) (by omega) C (fun h2 E2 C2 => ?_)
  exact qv (hQ h2 E2 C2) (by omega)
