/-! the class's machine -/
def clipI (x : Int) : Int := if 1000000 < x then 1000000 else if x < -1000000 then -1000000 else x
def MI (x : Int) : Prop := -1000000 ≤ x ∧ x ≤ 1000000
theorem clipI_R (x : Int) : MI (clipI x) := by unfold clipI MI; split <;> (try split) <;> omega
def twoR (e l r : Int) : Int := if e = 47 then l + r else if e = 48 then l - r else if e = 49 then l * r else if e = 50 then (if r = 0 then 0 else l.tdiv r) else if e = 19 then apI l r else if e = 41 then b2i (l < r) else if e = 42 then b2i (l ≤ r) else if e = 43 then b2i (r < l) else if e = 44 then b2i (r ≤ l) else if e = 45 then b2i (l = r) else if e = 46 then b2i (l ≠ r) else if e = 27 then band l r else bor l r
def two (e l r : Int) : Int := clipI (twoR e l r)
def isTwo (e : Int) : Prop := e = 47 ∨ e = 48 ∨ e = 49 ∨ e = 50 ∨ e = 19 ∨ e = 41 ∨ e = 42 ∨ e = 43 ∨ e = 44 ∨ e = 45 ∨ e = 46 ∨ e = 27 ∨ e = 26
def one (e v lit : Int) : Int := if e = 60 then -v else if e = 21 then (if 0 ≤ v ∧ v < 10 then (if tb lit v then 1 else 0) else 0) else b2i (v = 0)
theorem mul_MI {l r : Int} (hl : MI l) (hr : MI r) : -1000000000000 ≤ l * r ∧ l * r ≤ 1000000000000 := by
  have h1 : (l * r).natAbs = l.natAbs * r.natAbs := Int.natAbs_mul l r
  have h2 : l.natAbs ≤ 1000000 := by unfold MI at hl; omega
  have h3 : r.natAbs ≤ 1000000 := by unfold MI at hr; omega
  have h4 : l.natAbs * r.natAbs ≤ 1000000 * 1000000 := Nat.mul_le_mul h2 h3
  omega
theorem div_MI {l r : Int} (hl : MI l) : MI (l.tdiv r) := by
  have h1 : (l.tdiv r).natAbs ≤ l.natAbs := by rw [Int.natAbs_tdiv]; exact Nat.div_le_self _ _
  unfold MI at *
  omega
theorem lcmp_le {a b : Int} : lcmp a b ≤ 0 ↔ a ≤ b := by unfold lcmp; split <;> (try split) <;> omega
theorem lcmp_ge {a b : Int} : 0 ≤ lcmp a b ↔ b ≤ a := by unfold lcmp; split <;> (try split) <;> omega
theorem lcmp_lt {a b : Int} : lcmp a b < 0 ↔ a < b := by unfold lcmp; split <;> (try split) <;> omega
theorem lcmp_gt {a b : Int} : 0 < lcmp a b ↔ b < a := by unfold lcmp; split <;> (try split) <;> omega
theorem lcmp_z {a b : Int} : lcmp a b = 0 ↔ a = b := by unfold lcmp; split <;> (try split) <;> omega
theorem b2i_R {P : Prop} [Decidable P] : 0 ≤ b2i P ∧ b2i P ≤ 1 := by unfold b2i; split <;> omega
theorem apI_R {x z : Int} : 0 ≤ apI x z ∧ apI x z ≤ 5 := by unfold apI; grind
theorem band_R (l r : Int) : -2147483648 ≤ band l r ∧ band l r < 2147483648 := i32_R _
theorem bor_R (l r : Int) : -2147483648 ≤ bor l r ∧ bor l r < 2147483648 := i32_R _
theorem bxor_R (l r : Int) : -2147483648 ≤ bxor l r ∧ bxor l r < 2147483648 := i32_R _

theorem wX1_ofOne {G : GT} {δ : Nat} {h hl : Nat → Int → Int} {b : Bool × Bool} {Q : V → Hp → Prop} {e v lit : Int} (hδ : δ ≤ 1680) (he : e = 60 ∨ e = 21 ∨ e = 28) (hv : MI v) (l0 : 0 ≤ lit) (l1 : lit < 1024) (hQ : Q (vi (one e v lit)) (HS h hl b)) : WP G δ 0 0 MX1_ofOne 0 [vi e, vi v, vi lit] [] (HS h hl b) Q := by
  unfold MI at hv
  refine il_0 dX1_ofOne_0 ?_
  rcases (show ((e) = 21) ∨ ((e) = 60) ∨ ((e) ≠ 21 ∧ (e) ≠ 60) by omega) with c1 | c1 | c1
  · refine wp_lsw 31 (30) dX1_ofOne_1 (by decide) (by rw [c1]; rfl) rfl ?_
    refine il_1 dX1_ofOne_31 ?_
    refine c_X1_43 dX1_ofOne_32 rfl (Nat.le_of_ble_eq_true rfl) (by omega) ?_
    refine wX8_isLamp (by omega) ?_
    refine pv_i ?_
    refine wp_if_eq 46 dX1_ofOne_35 rfl (fun c35 => ?_) (fun c35 => ?_)
    · rw [b2i_0] at c35
      refine ic_0 dX1_ofOne_46 ?_
      refine wp_ireti dX1_ofOne_47 rfl ?_
      refine qv hQ ?_
      unfold one
      rw [if_neg (by omega), if_pos c1]
      first | rw [if_pos c35, has_tb l0 (by omega) c35.1 (by omega)] | rw [if_neg c35]
    · rw [b2i_n0] at c35
      refine il_2 dX1_ofOne_38 ?_
      refine il_1 dX1_ofOne_39 ?_
      refine wp_ishr dX1_ofOne_40 ?_
      refine ic_1 dX1_ofOne_41 ?_
      refine wp_iand dX1_ofOne_42 ?_
      refine wp_goto 47 dX1_ofOne_43 rfl ?_
      refine wp_ireti dX1_ofOne_47 rfl ?_
      refine qv hQ ?_
      unfold one
      rw [if_neg (by omega), if_pos c1]
      first | rw [if_pos c35, has_tb l0 (by omega) c35.1 (by omega)] | rw [if_neg c35]
  · refine wp_lsw 28 (27) dX1_ofOne_1 (by decide) (by rw [c1]; rfl) rfl ?_
    refine il_1 dX1_ofOne_28 ?_
    refine wp_ineg dX1_ofOne_29 (r32 (by omega) (by omega)) ?_
    refine wp_ireti dX1_ofOne_30 rfl ?_
    exact qv hQ (by unfold one; rw [if_pos c1])
  · refine wp_lsw 48 (47) dX1_ofOne_1 (by decide) (by simp [Op.lookupswitch.offset, Ne.symm c1.1, Ne.symm c1.2]) rfl ?_
    refine il_1 dX1_ofOne_48 ?_
    refine wp_if_ne 56 dX1_ofOne_49 rfl (fun c49 => ?_) (fun c49 => ?_)
    · refine ic_0 dX1_ofOne_56 ?_
      refine wp_ireti dX1_ofOne_57 rfl ?_
      refine qv hQ ?_
      unfold one
      rw [if_neg (by omega), if_neg (by omega)]
      first | exact b2i_t (by omega) | exact b2i_f (by omega)
    · refine ic_1 dX1_ofOne_52 ?_
      refine wp_goto 57 dX1_ofOne_53 rfl ?_
      refine wp_ireti dX1_ofOne_57 rfl ?_
      refine qv hQ ?_
      unfold one
      rw [if_neg (by omega), if_neg (by omega)]
      first | exact b2i_t (by omega) | exact b2i_f (by omega)

theorem wX1_ofTwo_294 {G : GT} {δ : Nat} {σ : Hp} {Q : V → Hp → Prop} {a b c : V} {x : Int} (hx0 : -1000000000000 ≤ x) (hx1 : x ≤ 1000000000000) (hQ : Q (vi (clipI x)) σ) : WP G δ 0 0 MX1_ofTwo 294 [a, b, c, vl x, vn] [] σ Q := by
  refine ll_3 dX1_ofTwo_294 ?_
  refine wp_ldc2 (1000000) dX1_ofTwo_295 ⟨by decide, by decide⟩ cc_X1_51 ?_
  refine wp_lcmp dX1_ofTwo_298 ?_
  refine wp_if_le 305 dX1_ofTwo_299 rfl (fun c299 => ?_) (fun c299 => ?_)
  · rw [lcmp_le] at c299
    refine ll_3 dX1_ofTwo_305 ?_
    refine wp_ldc2 (-1000000) dX1_ofTwo_306 ⟨by decide, by decide⟩ cc_X1_54 ?_
    refine wp_lcmp dX1_ofTwo_309 ?_
    refine wp_if_ge 318 dX1_ofTwo_310 rfl (fun c310 => ?_) (fun c310 => ?_)
    · rw [lcmp_ge] at c310
      refine ll_3 dX1_ofTwo_318 ?_
      refine wp_l2i dX1_ofTwo_319 (r32 (by omega) (by omega)) ?_
      refine wp_ireti dX1_ofTwo_320 rfl ?_
      refine qv hQ ?_
      unfold clipI
      first | rw [if_pos (by omega)] | (rw [if_neg (by omega)]; first | rw [if_pos (by omega)] | rw [if_neg (by omega)])
    · rw [lcmp_ge] at c310
      refine wp_ldc (-1000000) dX1_ofTwo_313 ⟨by decide, by decide⟩ cc_X1_56 ?_
      refine wp_goto 320 dX1_ofTwo_315 rfl ?_
      refine wp_ireti dX1_ofTwo_320 rfl ?_
      refine qv hQ ?_
      unfold clipI
      first | rw [if_pos (by omega)] | (rw [if_neg (by omega)]; first | rw [if_pos (by omega)] | rw [if_neg (by omega)])
  · rw [lcmp_le] at c299
    refine wp_ldc (1000000) dX1_ofTwo_302 ⟨by decide, by decide⟩ cc_X1_53 ?_
    refine wp_ireti dX1_ofTwo_304 rfl ?_
    refine qv hQ ?_
    unfold clipI
    first | rw [if_pos (by omega)] | (rw [if_neg (by omega)]; first | rw [if_pos (by omega)] | rw [if_neg (by omega)])

theorem wX1_ofTwo {G : GT} {δ : Nat} {h hl : Nat → Int → Int} {b : Bool × Bool} {Q : V → Hp → Prop} {e l r : Int} (hδ : δ ≤ 1680) (he : isTwo e) (hl1 : MI l) (hr1 : MI r) (hQ : Q (vi (two e l r)) (HS h hl b)) : WP G δ 0 0 MX1_ofTwo 0 [vi e, vi l, vi r, vn, vn] [] (HS h hl b) Q := by
  unfold isTwo at he
  have hm := mul_MI hl1 hr1
  have hd := div_MI (r := r) hl1
  unfold MI at hl1 hr1 hd
  refine il_0 dX1_ofTwo_0 ?_
  rcases (show ((e) < 19 ∨ 50 < (e)) ∨ ((e) = 19) ∨ ((e) = 20) ∨ ((e) = 21) ∨ ((e) = 22) ∨ ((e) = 23) ∨ ((e) = 24) ∨ ((e) = 25) ∨ ((e) = 26) ∨ ((e) = 27) ∨ ((e) = 28) ∨ ((e) = 29) ∨ ((e) = 30) ∨ ((e) = 31) ∨ ((e) = 32) ∨ ((e) = 33) ∨ ((e) = 34) ∨ ((e) = 35) ∨ ((e) = 36) ∨ ((e) = 37) ∨ ((e) = 38) ∨ ((e) = 39) ∨ ((e) = 40) ∨ ((e) = 41) ∨ ((e) = 42) ∨ ((e) = 43) ∨ ((e) = 44) ∨ ((e) = 45) ∨ ((e) = 46) ∨ ((e) = 47) ∨ ((e) = 48) ∨ ((e) = 49) ∨ ((e) = 50) by omega) with c1 | c1 | c1 | c1 | c1 | c1 | c1 | c1 | c1 | c1 | c1 | c1 | c1 | c1 | c1 | c1 | c1 | c1 | c1 | c1 | c1 | c1 | c1 | c1 | c1 | c1 | c1 | c1 | c1 | c1 | c1 | c1 | c1
  · refine wp_tswD 289 dX1_ofTwo_1 (by omega) rfl ?_
    refine il_1 dX1_ofTwo_289 ?_
    refine il_2 dX1_ofTwo_290 ?_
    refine wp_ior dX1_ofTwo_291 ?_
    refine wp_i2l dX1_ofTwo_292 ?_
    refine ls_3 dX1_ofTwo_293 rfl (by decide) ?_
    refine wX1_ofTwo_294 ?_ ?_ (qv hQ ?_)
    · first | omega | (have := band_R l r; have := bor_R l r; omega)
    · first | omega | (have := band_R l r; have := bor_R l r; omega)
    · unfold two twoR; congr 1; first | (simp [c1]; done) | (simp [c1, b2i]; done) | (simp [c1, b2i]; omega) | (simp [c1, *]; done) | grind
  · refine wp_tsw 187 dX1_ofTwo_1 (by omega) (by omega) (186) (by rw [c1]; rfl) rfl ?_
    refine il_1 dX1_ofTwo_187 ?_
    refine il_2 dX1_ofTwo_188 ?_
    refine c_X1_47 dX1_ofTwo_189 rfl (Nat.le_of_ble_eq_true rfl) (by omega) ?_
    refine wX1_apart (by omega) ?_
    have ha := apI_R (x := l) (z := r)
    refine pv_i ?_
    refine wp_i2l dX1_ofTwo_192 ?_
    refine ls_3 dX1_ofTwo_193 rfl (by decide) ?_
    refine wp_goto 294 dX1_ofTwo_194 rfl ?_
    refine wX1_ofTwo_294 ?_ ?_ (qv hQ ?_)
    · first | omega | (have := band_R l r; have := bor_R l r; omega)
    · first | omega | (have := band_R l r; have := bor_R l r; omega)
    · unfold two twoR; congr 1; first | (simp [c1]; done) | (simp [c1, b2i]; done) | (simp [c1, b2i]; omega) | (simp [c1, *]; done) | grind
  · exfalso; omega
  · exfalso; omega
  · exfalso; omega
  · exfalso; omega
  · exfalso; omega
  · exfalso; omega
  · refine wp_tsw 289 dX1_ofTwo_1 (by omega) (by omega) (288) (by rw [c1]; rfl) rfl ?_
    refine il_1 dX1_ofTwo_289 ?_
    refine il_2 dX1_ofTwo_290 ?_
    refine wp_ior dX1_ofTwo_291 ?_
    refine wp_i2l dX1_ofTwo_292 ?_
    refine ls_3 dX1_ofTwo_293 rfl (by decide) ?_
    refine wX1_ofTwo_294 ?_ ?_ (qv hQ ?_)
    · first | omega | (have := band_R l r; have := bor_R l r; omega)
    · first | omega | (have := band_R l r; have := bor_R l r; omega)
    · unfold two twoR; congr 1; first | (simp [c1]; done) | (simp [c1, b2i]; done) | (simp [c1, b2i]; omega) | (simp [c1, *]; done) | grind
  · refine wp_tsw 281 dX1_ofTwo_1 (by omega) (by omega) (280) (by rw [c1]; rfl) rfl ?_
    refine il_1 dX1_ofTwo_281 ?_
    refine il_2 dX1_ofTwo_282 ?_
    refine wp_iand dX1_ofTwo_283 ?_
    refine wp_i2l dX1_ofTwo_284 ?_
    refine ls_3 dX1_ofTwo_285 rfl (by decide) ?_
    refine wp_goto 294 dX1_ofTwo_286 rfl ?_
    refine wX1_ofTwo_294 ?_ ?_ (qv hQ ?_)
    · first | omega | (have := band_R l r; have := bor_R l r; omega)
    · first | omega | (have := band_R l r; have := bor_R l r; omega)
    · unfold two twoR; congr 1; first | (simp [c1]; done) | (simp [c1, b2i]; done) | (simp [c1, b2i]; omega) | (simp [c1, *]; done) | grind
  · exfalso; omega
  · exfalso; omega
  · exfalso; omega
  · exfalso; omega
  · exfalso; omega
  · exfalso; omega
  · exfalso; omega
  · exfalso; omega
  · exfalso; omega
  · exfalso; omega
  · exfalso; omega
  · exfalso; omega
  · exfalso; omega
  · refine wp_tsw 197 dX1_ofTwo_1 (by omega) (by omega) (196) (by rw [c1]; rfl) rfl ?_
    refine il_1 dX1_ofTwo_197 ?_
    refine il_2 dX1_ofTwo_198 ?_
    refine wp_icmp_ge 206 dX1_ofTwo_199 rfl (fun c199 => ?_) (fun c199 => ?_)
    · refine lc_0 dX1_ofTwo_206 ?_
      refine ls_3 dX1_ofTwo_207 rfl (by decide) ?_
      refine wp_goto 294 dX1_ofTwo_208 rfl ?_
      refine wX1_ofTwo_294 ?_ ?_ (qv hQ ?_)
      · first | omega | (have := band_R l r; have := bor_R l r; omega)
      · first | omega | (have := band_R l r; have := bor_R l r; omega)
      · unfold two twoR; congr 1; first | (simp [c1]; done) | (simp [c1, b2i]; done) | (simp [c1, b2i]; omega) | (simp [c1, *]; done) | grind
    · refine lc_1 dX1_ofTwo_202 ?_
      refine wp_goto 207 dX1_ofTwo_203 rfl ?_
      refine ls_3 dX1_ofTwo_207 rfl (by decide) ?_
      refine wp_goto 294 dX1_ofTwo_208 rfl ?_
      refine wX1_ofTwo_294 ?_ ?_ (qv hQ ?_)
      · first | omega | (have := band_R l r; have := bor_R l r; omega)
      · first | omega | (have := band_R l r; have := bor_R l r; omega)
      · unfold two twoR; congr 1; first | (simp [c1]; done) | (simp [c1, b2i]; done) | (simp [c1, b2i]; omega) | (simp [c1, *]; done) | grind
  · refine wp_tsw 211 dX1_ofTwo_1 (by omega) (by omega) (210) (by rw [c1]; rfl) rfl ?_
    refine il_1 dX1_ofTwo_211 ?_
    refine il_2 dX1_ofTwo_212 ?_
    refine wp_icmp_gt 220 dX1_ofTwo_213 rfl (fun c213 => ?_) (fun c213 => ?_)
    · refine lc_0 dX1_ofTwo_220 ?_
      refine ls_3 dX1_ofTwo_221 rfl (by decide) ?_
      refine wp_goto 294 dX1_ofTwo_222 rfl ?_
      refine wX1_ofTwo_294 ?_ ?_ (qv hQ ?_)
      · first | omega | (have := band_R l r; have := bor_R l r; omega)
      · first | omega | (have := band_R l r; have := bor_R l r; omega)
      · unfold two twoR; congr 1; first | (simp [c1]; done) | (simp [c1, b2i]; done) | (simp [c1, b2i]; omega) | (simp [c1, *]; done) | grind
    · refine lc_1 dX1_ofTwo_216 ?_
      refine wp_goto 221 dX1_ofTwo_217 rfl ?_
      refine ls_3 dX1_ofTwo_221 rfl (by decide) ?_
      refine wp_goto 294 dX1_ofTwo_222 rfl ?_
      refine wX1_ofTwo_294 ?_ ?_ (qv hQ ?_)
      · first | omega | (have := band_R l r; have := bor_R l r; omega)
      · first | omega | (have := band_R l r; have := bor_R l r; omega)
      · unfold two twoR; congr 1; first | (simp [c1]; done) | (simp [c1, b2i]; done) | (simp [c1, b2i]; omega) | (simp [c1, *]; done) | grind
  · refine wp_tsw 225 dX1_ofTwo_1 (by omega) (by omega) (224) (by rw [c1]; rfl) rfl ?_
    refine il_1 dX1_ofTwo_225 ?_
    refine il_2 dX1_ofTwo_226 ?_
    refine wp_icmp_le 234 dX1_ofTwo_227 rfl (fun c227 => ?_) (fun c227 => ?_)
    · refine lc_0 dX1_ofTwo_234 ?_
      refine ls_3 dX1_ofTwo_235 rfl (by decide) ?_
      refine wp_goto 294 dX1_ofTwo_236 rfl ?_
      refine wX1_ofTwo_294 ?_ ?_ (qv hQ ?_)
      · first | omega | (have := band_R l r; have := bor_R l r; omega)
      · first | omega | (have := band_R l r; have := bor_R l r; omega)
      · unfold two twoR; congr 1; first | (simp [c1]; done) | (simp [c1, b2i]; done) | (simp [c1, b2i]; omega) | (simp [c1, *]; done) | grind
    · refine lc_1 dX1_ofTwo_230 ?_
      refine wp_goto 235 dX1_ofTwo_231 rfl ?_
      refine ls_3 dX1_ofTwo_235 rfl (by decide) ?_
      refine wp_goto 294 dX1_ofTwo_236 rfl ?_
      refine wX1_ofTwo_294 ?_ ?_ (qv hQ ?_)
      · first | omega | (have := band_R l r; have := bor_R l r; omega)
      · first | omega | (have := band_R l r; have := bor_R l r; omega)
      · unfold two twoR; congr 1; first | (simp [c1]; done) | (simp [c1, b2i]; done) | (simp [c1, b2i]; omega) | (simp [c1, *]; done) | grind
  · refine wp_tsw 239 dX1_ofTwo_1 (by omega) (by omega) (238) (by rw [c1]; rfl) rfl ?_
    refine il_1 dX1_ofTwo_239 ?_
    refine il_2 dX1_ofTwo_240 ?_
    refine wp_icmp_lt 248 dX1_ofTwo_241 rfl (fun c241 => ?_) (fun c241 => ?_)
    · refine lc_0 dX1_ofTwo_248 ?_
      refine ls_3 dX1_ofTwo_249 rfl (by decide) ?_
      refine wp_goto 294 dX1_ofTwo_250 rfl ?_
      refine wX1_ofTwo_294 ?_ ?_ (qv hQ ?_)
      · first | omega | (have := band_R l r; have := bor_R l r; omega)
      · first | omega | (have := band_R l r; have := bor_R l r; omega)
      · unfold two twoR; congr 1; first | (simp [c1]; done) | (simp [c1, b2i]; done) | (simp [c1, b2i]; omega) | (simp [c1, *]; done) | grind
    · refine lc_1 dX1_ofTwo_244 ?_
      refine wp_goto 249 dX1_ofTwo_245 rfl ?_
      refine ls_3 dX1_ofTwo_249 rfl (by decide) ?_
      refine wp_goto 294 dX1_ofTwo_250 rfl ?_
      refine wX1_ofTwo_294 ?_ ?_ (qv hQ ?_)
      · first | omega | (have := band_R l r; have := bor_R l r; omega)
      · first | omega | (have := band_R l r; have := bor_R l r; omega)
      · unfold two twoR; congr 1; first | (simp [c1]; done) | (simp [c1, b2i]; done) | (simp [c1, b2i]; omega) | (simp [c1, *]; done) | grind
  · refine wp_tsw 253 dX1_ofTwo_1 (by omega) (by omega) (252) (by rw [c1]; rfl) rfl ?_
    refine il_1 dX1_ofTwo_253 ?_
    refine il_2 dX1_ofTwo_254 ?_
    refine wp_icmp_ne 262 dX1_ofTwo_255 rfl (fun c255 => ?_) (fun c255 => ?_)
    · refine lc_0 dX1_ofTwo_262 ?_
      refine ls_3 dX1_ofTwo_263 rfl (by decide) ?_
      refine wp_goto 294 dX1_ofTwo_264 rfl ?_
      refine wX1_ofTwo_294 ?_ ?_ (qv hQ ?_)
      · first | omega | (have := band_R l r; have := bor_R l r; omega)
      · first | omega | (have := band_R l r; have := bor_R l r; omega)
      · unfold two twoR; congr 1; first | (simp [c1]; done) | (simp [c1, b2i]; done) | (simp [c1, b2i]; omega) | (simp [c1, *]; done) | grind
    · refine lc_1 dX1_ofTwo_258 ?_
      refine wp_goto 263 dX1_ofTwo_259 rfl ?_
      refine ls_3 dX1_ofTwo_263 rfl (by decide) ?_
      refine wp_goto 294 dX1_ofTwo_264 rfl ?_
      refine wX1_ofTwo_294 ?_ ?_ (qv hQ ?_)
      · first | omega | (have := band_R l r; have := bor_R l r; omega)
      · first | omega | (have := band_R l r; have := bor_R l r; omega)
      · unfold two twoR; congr 1; first | (simp [c1]; done) | (simp [c1, b2i]; done) | (simp [c1, b2i]; omega) | (simp [c1, *]; done) | grind
  · refine wp_tsw 267 dX1_ofTwo_1 (by omega) (by omega) (266) (by rw [c1]; rfl) rfl ?_
    refine il_1 dX1_ofTwo_267 ?_
    refine il_2 dX1_ofTwo_268 ?_
    refine wp_icmp_eq 276 dX1_ofTwo_269 rfl (fun c269 => ?_) (fun c269 => ?_)
    · refine lc_0 dX1_ofTwo_276 ?_
      refine ls_3 dX1_ofTwo_277 rfl (by decide) ?_
      refine wp_goto 294 dX1_ofTwo_278 rfl ?_
      refine wX1_ofTwo_294 ?_ ?_ (qv hQ ?_)
      · first | omega | (have := band_R l r; have := bor_R l r; omega)
      · first | omega | (have := band_R l r; have := bor_R l r; omega)
      · unfold two twoR; congr 1; first | (simp [c1]; done) | (simp [c1, b2i]; done) | (simp [c1, b2i]; omega) | (simp [c1, *]; done) | grind
    · refine lc_1 dX1_ofTwo_272 ?_
      refine wp_goto 277 dX1_ofTwo_273 rfl ?_
      refine ls_3 dX1_ofTwo_277 rfl (by decide) ?_
      refine wp_goto 294 dX1_ofTwo_278 rfl ?_
      refine wX1_ofTwo_294 ?_ ?_ (qv hQ ?_)
      · first | omega | (have := band_R l r; have := bor_R l r; omega)
      · first | omega | (have := band_R l r; have := bor_R l r; omega)
      · unfold two twoR; congr 1; first | (simp [c1]; done) | (simp [c1, b2i]; done) | (simp [c1, b2i]; omega) | (simp [c1, *]; done) | grind
  · refine wp_tsw 144 dX1_ofTwo_1 (by omega) (by omega) (143) (by rw [c1]; rfl) rfl ?_
    refine il_1 dX1_ofTwo_144 ?_
    refine wp_i2l dX1_ofTwo_145 ?_
    refine il_2 dX1_ofTwo_146 ?_
    refine wp_i2l dX1_ofTwo_147 ?_
    refine wp_ladd dX1_ofTwo_148 (r64 (by omega) (by omega)) ?_
    refine ls_3 dX1_ofTwo_149 rfl (by decide) ?_
    refine wp_goto 294 dX1_ofTwo_150 rfl ?_
    refine wX1_ofTwo_294 ?_ ?_ (qv hQ ?_)
    · first | omega | (have := band_R l r; have := bor_R l r; omega)
    · first | omega | (have := band_R l r; have := bor_R l r; omega)
    · unfold two twoR; congr 1; first | (simp [c1]; done) | (simp [c1, b2i]; done) | (simp [c1, b2i]; omega) | (simp [c1, *]; done) | grind
  · refine wp_tsw 153 dX1_ofTwo_1 (by omega) (by omega) (152) (by rw [c1]; rfl) rfl ?_
    refine il_1 dX1_ofTwo_153 ?_
    refine wp_i2l dX1_ofTwo_154 ?_
    refine il_2 dX1_ofTwo_155 ?_
    refine wp_i2l dX1_ofTwo_156 ?_
    refine wp_lsub dX1_ofTwo_157 (r64 (by omega) (by omega)) ?_
    refine ls_3 dX1_ofTwo_158 rfl (by decide) ?_
    refine wp_goto 294 dX1_ofTwo_159 rfl ?_
    refine wX1_ofTwo_294 ?_ ?_ (qv hQ ?_)
    · first | omega | (have := band_R l r; have := bor_R l r; omega)
    · first | omega | (have := band_R l r; have := bor_R l r; omega)
    · unfold two twoR; congr 1; first | (simp [c1]; done) | (simp [c1, b2i]; done) | (simp [c1, b2i]; omega) | (simp [c1, *]; done) | grind
  · refine wp_tsw 162 dX1_ofTwo_1 (by omega) (by omega) (161) (by rw [c1]; rfl) rfl ?_
    refine il_1 dX1_ofTwo_162 ?_
    refine wp_i2l dX1_ofTwo_163 ?_
    refine il_2 dX1_ofTwo_164 ?_
    refine wp_i2l dX1_ofTwo_165 ?_
    refine wp_lmul dX1_ofTwo_166 (r64 (by omega) (by omega)) ?_
    refine ls_3 dX1_ofTwo_167 rfl (by decide) ?_
    refine wp_goto 294 dX1_ofTwo_168 rfl ?_
    refine wX1_ofTwo_294 ?_ ?_ (qv hQ ?_)
    · first | omega | (have := band_R l r; have := bor_R l r; omega)
    · first | omega | (have := band_R l r; have := bor_R l r; omega)
    · unfold two twoR; congr 1; first | (simp [c1]; done) | (simp [c1, b2i]; done) | (simp [c1, b2i]; omega) | (simp [c1, *]; done) | grind
  · refine wp_tsw 171 dX1_ofTwo_1 (by omega) (by omega) (170) (by rw [c1]; rfl) rfl ?_
    refine il_2 dX1_ofTwo_171 ?_
    refine wp_if_ne 179 dX1_ofTwo_172 rfl (fun c172 => ?_) (fun c172 => ?_)
    · refine il_1 dX1_ofTwo_179 ?_
      refine il_2 dX1_ofTwo_180 ?_
      refine wp_idiv dX1_ofTwo_181 (by omega) (r32 (by omega) (by omega)) ?_
      refine wp_i2l dX1_ofTwo_182 ?_
      refine ls_3 dX1_ofTwo_183 rfl (by decide) ?_
      refine wp_goto 294 dX1_ofTwo_184 rfl ?_
      refine wX1_ofTwo_294 ?_ ?_ (qv hQ ?_)
      · first | omega | (have := band_R l r; have := bor_R l r; omega)
      · first | omega | (have := band_R l r; have := bor_R l r; omega)
      · unfold two twoR; congr 1; first | (simp [c1]; done) | (simp [c1, b2i]; done) | (simp [c1, b2i]; omega) | (simp [c1, *]; done) | grind
    · refine lc_0 dX1_ofTwo_175 ?_
      refine wp_goto 183 dX1_ofTwo_176 rfl ?_
      refine ls_3 dX1_ofTwo_183 rfl (by decide) ?_
      refine wp_goto 294 dX1_ofTwo_184 rfl ?_
      refine wX1_ofTwo_294 ?_ ?_ (qv hQ ?_)
      · first | omega | (have := band_R l r; have := bor_R l r; omega)
      · first | omega | (have := band_R l r; have := bor_R l r; omega)
      · unfold two twoR; congr 1; first | (simp [c1]; done) | (simp [c1, b2i]; done) | (simp [c1, b2i]; omega) | (simp [c1, *]; done) | grind
