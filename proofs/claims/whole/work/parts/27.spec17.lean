/-! the model's laws: its straight code -/
theorem up_r {α : Type} {h : Nat → Int → α} {o : Nat} {k : Int} {x : α} : up h o k x o = fun j => if j = k then x else h o j := by
  funext j; unfold up; by_cases e : j = k <;> simp [e]
theorem SRup {g : Nat → Int → Int} {o : Nat} {st : List Int} {x i : Int} (hs : SR (g o) st) (e : i = st.length) : SR (up g o i x o) (x :: st) := by
  subst e
  exact ⟨up_s, SR_c st (fun j j0 j1 => (up_k (by omega)).symm) hs⟩
theorem SRk {g : Nat → Int → Int} {o q : Nat} {st : List Int} {x i : Int} (hs : SR (g o) st) (e : o ≠ q) : SR (up g q i x o) st := by
  rw [show up g q i x o = g o from by funext j; exact up_o e]; exact hs
theorem SR_top {f : Int → Int} {x i : Int} {t : List Int} (hs : SR f (x :: t)) (e : i = t.length) : f i = x := e ▸ hs.1
theorem SR_snd {f : Int → Int} {x z i : Int} {t : List Int} (hs : SR f (x :: z :: t)) (e : i = t.length) : f i = z := e ▸ hs.2.1
def m2c (i : Int) : Int := if i = 1 then 5 else if 2 ≤ i ∧ i ≤ 5 then i - 1 else i
abbrev MS : Type := List Int × List Int
def mJoin (o a c : Int) : Int := if o = 21 then b2i (a ≠ 0 ∧ c ≠ 0) else b2i (a ≠ 0 ∨ c ≠ 0)
def mStep (C nm : Int → Int) (lit i : Int) (s : MS) : MS :=
  if C (2 * i) = 0 then (C (2 * i + 1) :: s.1, s.2)
  else if C (2 * i) = 1 then (nm (C (2 * i + 1)) :: s.1, s.2)
  else if C (2 * i) = 3 then (if s.2.headD 0 = 0 then s.1.headD 0 :: s.1.tail.tail else s.1.tail, s.2.tail)
  else if C (2 * i) = 5 then (-(s.1.headD 0) :: s.1.tail, s.2)
  else if C (2 * i) = 2 then (one 21 (s.1.headD 0) lit :: s.1.tail, s.2)
  else if C (2 * i) = 4 then (apI (s.1.tail.headD 0) (s.1.headD 0) :: s.1.tail.tail, s.2)
  else if C (2 * i) < 10 then (two (C (2 * i) + 41) (s.1.tail.headD 0) (s.1.headD 0) :: s.1.tail.tail, s.2)
  else if C (2 * i) < 20 then (s.1.tail.tail, twoR (C (2 * i) + 31) (s.1.tail.headD 0) (s.1.headD 0) :: s.2)
  else if C (2 * i) = 20 then (s.1, b2i (s.2.headD 0 = 0) :: s.2.tail)
  else (s.1, mJoin (C (2 * i)) (s.2.tail.headD 0) (s.2.headD 0) :: s.2.tail.tail)
def mAr (e v : Int) (n t : Nat) : Prop := (e = 0 ∧ -1000000 ≤ v ∧ v ≤ 1000000) ∨ (e = 1 ∧ 0 ≤ v ∧ v ≤ 9) ∨ (e = 3 ∧ 2 ≤ n ∧ 1 ≤ t) ∨ ((e = 5 ∨ e = 2) ∧ 1 ≤ n) ∨ ((e = 4 ∨ (6 ≤ e ∧ e ≤ 9)) ∧ 2 ≤ n) ∨ ((10 ≤ e ∧ e ≤ 15) ∧ 2 ≤ n) ∨ (e = 20 ∧ 1 ≤ t) ∨ ((e = 21 ∨ e = 22) ∧ 2 ≤ t)
def mOK (C : Int → Int) (i : Int) (s : MS) : Prop := s.1.length < 330 ∧ s.2.length < 330 ∧ (∀ v ∈ s.1, MI v) ∧ (∀ v ∈ s.2, v = 0 ∨ v = 1) ∧ mAr (C (2 * i)) (C (2 * i + 1)) s.1.length s.2.length
def mRun (C nm : Int → Int) (lit : Int) : Nat → Int → MS → MS → Prop
  | 0, _, s, t => s = t
  | n + 1, i, s, t => mOK C i s ∧ mRun C nm lit n (i + 1) (mStep C nm lit i s) t
section MSS
variable {C nm : Int → Int} {lit i : Int} {vs t ts : List Int} {x z a c : Int}
theorem ms_num (h : C (2 * i) = 0) : mStep C nm lit i (vs, ts) = (C (2 * i + 1) :: vs, ts) := by unfold mStep; rw [if_pos h]
theorem ms_nam (h : C (2 * i) = 1) : mStep C nm lit i (vs, ts) = (nm (C (2 * i + 1)) :: vs, ts) := by unfold mStep; rw [if_neg (by omega), if_pos h]
theorem ms_sel0 (h : C (2 * i) = 3) (e : a = 0) : mStep C nm lit i (z :: x :: t, a :: ts) = (z :: t, ts) := by unfold mStep; rw [if_neg (by omega), if_neg (by omega), if_pos h]; simp [e]
theorem ms_sel1 (h : C (2 * i) = 3) (e : ¬ a = 0) : mStep C nm lit i (z :: x :: t, a :: ts) = (x :: t, ts) := by unfold mStep; rw [if_neg (by omega), if_neg (by omega), if_pos h]; simp [e]
theorem ms_neg (h : C (2 * i) = 5) : mStep C nm lit i (x :: t, ts) = (-x :: t, ts) := by unfold mStep; rw [if_neg (by omega), if_neg (by omega), if_neg (by omega), if_pos h]; rfl
theorem ms_lamp (h : C (2 * i) = 2) : mStep C nm lit i (x :: t, ts) = (one 21 x lit :: t, ts) := by unfold mStep; rw [if_neg (by omega), if_neg (by omega), if_neg (by omega), if_neg (by omega), if_pos h]; rfl
theorem ms_ar (h : C (2 * i) = 4) : mStep C nm lit i (z :: x :: t, ts) = (apI x z :: t, ts) := by unfold mStep; rw [if_neg (by omega), if_neg (by omega), if_neg (by omega), if_neg (by omega), if_neg (by omega), if_pos h]; rfl
theorem ms_two (h0 : 6 ≤ C (2 * i)) (h : C (2 * i) < 10) : mStep C nm lit i (z :: x :: t, ts) = (two (C (2 * i) + 41) x z :: t, ts) := by unfold mStep; rw [if_neg (by omega), if_neg (by omega), if_neg (by omega), if_neg (by omega), if_neg (by omega), if_neg (by omega), if_pos h]; rfl
theorem ms_ask (h0 : 10 ≤ C (2 * i)) (h : C (2 * i) < 20) : mStep C nm lit i (z :: x :: t, ts) = (t, twoR (C (2 * i) + 31) x z :: ts) := by unfold mStep; rw [if_neg (by omega), if_neg (by omega), if_neg (by omega), if_neg (by omega), if_neg (by omega), if_neg (by omega), if_neg (by omega), if_pos h]; rfl
theorem ms_not (h : C (2 * i) = 20) : mStep C nm lit i (vs, a :: ts) = (vs, b2i (a = 0) :: ts) := by unfold mStep; rw [if_neg (by omega), if_neg (by omega), if_neg (by omega), if_neg (by omega), if_neg (by omega), if_neg (by omega), if_neg (by omega), if_neg (by omega), if_pos h]; rfl
theorem ms_join (h : 20 < C (2 * i)) : mStep C nm lit i (vs, a :: c :: ts) = (vs, mJoin (C (2 * i)) c a :: ts) := by unfold mStep; rw [if_neg (by omega), if_neg (by omega), if_neg (by omega), if_neg (by omega), if_neg (by omega), if_neg (by omega), if_neg (by omega), if_neg (by omega), if_neg (by omega)]; rfl
end MSS
theorem mJoin_R {o a c : Int} : mJoin o a c = 0 ∨ mJoin o a c = 1 := by unfold mJoin; split <;> exact b2i_01
theorem askR {e x z : Int} (e0 : 10 ≤ e) (e1 : e ≤ 15) : twoR (e + 31) x z = 0 ∨ twoR (e + 31) x z = 1 := by
  rcases (show e = 10 ∨ e = 11 ∨ e = 12 ∨ e = 13 ∨ e = 14 ∨ e = 15 by omega) with q | q | q | q | q | q <;> subst q <;> simp [twoR] <;> exact b2i_01
/-- 32 bits of it -/
def w32 (x : Int) : Int := (Int32.ofInt x).toInt
theorem w32_R (x : Int) : R32 (w32 x) := i32_R _
theorem w32_id {x : Int} (h : R32 x) : w32 x = x := i32_to h
theorem w32_add {x z : Int} : w32 (w32 x + z) = w32 (x + z) := by
  unfold w32; rw [Int32.ofInt_add, Int32.ofInt_toInt, Int32.ofInt_add]
theorem w32_sub {x z : Int} : w32 (w32 x - z) = w32 (x - z) := by
  unfold w32; rw [Int32.ofInt_sub, Int32.ofInt_toInt, Int32.ofInt_sub]
section W32
variable {G : GT} {δ mc ms : Nat} {y : Md} {pc : Nat} {ls st : List V} {σ : Hp} {Q : V → Hp → Prop}
theorem wp_iaddW {a b : Int} (hd : decode (mB y) pc = .ok (.iadd, 1)) (k : WP G δ mc ms y (pc + 1) ls (vi (w32 (a + b)) :: st) σ Q) : WP G δ mc ms y pc ls (vi b :: vi a :: st) σ Q :=
  wp_st (fun h => ok_c (v := vi (w32 (a + b))) (w32_R _) (ok_t (ok_t h))) (fun C _ h w => lv_iadd C.exec C.bytes hd (by
    have e : Int32.ofInt a + Int32.ofInt b = Int32.ofInt (w32 (a + b)) := by unfold w32; rw [Int32.ofInt_toInt, Int32.ofInt_add]
    rw [e]; exact w)) k
theorem wp_isubW {a b : Int} (hd : decode (mB y) pc = .ok (.isub, 1)) (k : WP G δ mc ms y (pc + 1) ls (vi (w32 (a - b)) :: st) σ Q) : WP G δ mc ms y pc ls (vi b :: vi a :: st) σ Q :=
  wp_st (fun h => ok_c (v := vi (w32 (a - b))) (w32_R _) (ok_t (ok_t h))) (fun C _ h w => lv_isub C.exec C.bytes hd (by
    have e : Int32.ofInt a - Int32.ofInt b = Int32.ofInt (w32 (a - b)) := by unfold w32; rw [Int32.ofInt_toInt, Int32.ofInt_sub]
    rw [e]; exact w)) k
end W32
section ASKS
variable {e x z : Int}
theorem ask10 (h : e = 10) : twoR (e + 31) x z = b2i (x < z) := by subst h; simp [twoR]
theorem ask11 (h : e = 11) : twoR (e + 31) x z = b2i (x ≤ z) := by subst h; simp [twoR]
theorem ask12 (h : e = 12) : twoR (e + 31) x z = b2i (z < x) := by subst h; simp [twoR]
theorem ask13 (h : e = 13) : twoR (e + 31) x z = b2i (z ≤ x) := by subst h; simp [twoR]
theorem ask14 (h : e = 14) : twoR (e + 31) x z = b2i (x = z) := by subst h; simp [twoR]
theorem ask15 (h : e = 15) : twoR (e + 31) x z = b2i (x ≠ z) := by subst h; simp [twoR]
end ASKS

theorem wX9_clip {G : GT} {δ : Nat} {h hl : Nat → Int → Int} {b : Bool × Bool} {Q : V → Hp → Prop} {x : Int} (hδ : δ ≤ 1700)  (hQ : Q (vl (clipI x)) (HS h hl b)) : WP G δ 0 0 MX9_clip 0 [vl x, vn] [] (HS h hl b) Q := by
  refine ll_0 dX9_clip_0 ?_
  refine wp_ldc2 (1000000) dX9_clip_1 ⟨by decide, by decide⟩ cc_X9_262 ?_
  refine wp_lcmp dX9_clip_4 ?_
  refine wp_if_le 14 dX9_clip_5 rfl (fun c5 => ?_) (fun c5 => ?_)
  · rw [lcmp_le] at c5
    refine ll_0 dX9_clip_14 ?_
    refine wp_ldc2 (-1000000) dX9_clip_15 ⟨by decide, by decide⟩ cc_X9_264 ?_
    refine wp_lcmp dX9_clip_18 ?_
    refine wp_if_ge 28 dX9_clip_19 rfl (fun c19 => ?_) (fun c19 => ?_)
    · rw [lcmp_ge] at c19
      refine ll_0 dX9_clip_28 ?_
      refine wp_lret dX9_clip_29 rfl ?_
      refine qvl hQ ?_
      unfold clipI
      first | rw [if_pos (by omega)] | (rw [if_neg (by omega)]; first | rw [if_pos (by omega)] | rw [if_neg (by omega)])
    · rw [lcmp_ge] at c19
      refine wp_ldc2 (-1000000) dX9_clip_22 ⟨by decide, by decide⟩ cc_X9_264 ?_
      refine wp_goto 29 dX9_clip_25 rfl ?_
      refine wp_lret dX9_clip_29 rfl ?_
      refine qvl hQ ?_
      unfold clipI
      first | rw [if_pos (by omega)] | (rw [if_neg (by omega)]; first | rw [if_pos (by omega)] | rw [if_neg (by omega)])
  · rw [lcmp_le] at c5
    refine wp_ldc2 (1000000) dX9_clip_8 ⟨by decide, by decide⟩ cc_X9_262 ?_
    refine wp_goto 29 dX9_clip_11 rfl ?_
    refine wp_lret dX9_clip_29 rfl ?_
    refine qvl hQ ?_
    unfold clipI
    first | rw [if_pos (by omega)] | (rw [if_neg (by omega)]; first | rw [if_pos (by omega)] | rw [if_neg (by omega)])

theorem wX9_two {G : GT} {δ : Nat} {h hl : Nat → Int → Int} {b : Bool × Bool} {Q : V → Hp → Prop} {e x z : Int} (hδ : δ ≤ 1680) (he : 6 ≤ e ∧ e ≤ 9) (hl1 : MI x) (hr1 : MI z) (hQ : Q (vl (two (e + 41) x z)) (HS h hl b)) : WP G δ 0 0 MX9_two 0 [vi e, vl x, vn, vl z, vn] [] (HS h hl b) Q := by
  have hm := mul_MI hl1 hr1
  have hd := div_MI (r := z) hl1
  unfold MI at hl1 hr1 hd
  refine il_0 dX9_two_0 ?_
  rcases (show ((e) < 6 ∨ 8 < (e)) ∨ ((e) = 6) ∨ ((e) = 7) ∨ ((e) = 8) by omega) with c1 | c1 | c1 | c1
  · refine wp_tswD 49 dX9_two_1 (by omega) rfl ?_
    refine ll_3 dX9_two_49 ?_
    refine lc_0 dX9_two_50 ?_
    refine wp_lcmp dX9_two_51 ?_
    refine wp_if_ne 59 dX9_two_52 rfl (fun c52 => ?_) (fun c52 => ?_)
    · rw [lcmp_z] at c52
      refine ll_1 dX9_two_59 ?_
      refine ll_3 dX9_two_60 ?_
      refine wp_ldiv dX9_two_61 (by omega) (r64 (by omega) (by omega)) ?_
      refine c_X9_266 dX9_two_62 rfl (Nat.le_of_ble_eq_true rfl) (by omega) ?_
      refine wX9_clip (by omega) ?_
      refine pv_l ?_
      refine wp_lret dX9_two_65 rfl ?_
      refine qvl hQ ?_
      unfold two twoR
      first
        | (rw [if_neg (by omega), if_neg (by omega), if_neg (by omega), if_pos (by omega)]; first | (rw [if_pos (by omega)]; rfl) | rw [if_neg (by omega)])
        | rw [if_pos (by omega)]
        | rw [if_neg (by omega), if_pos (by omega)]
        | rw [if_neg (by omega), if_neg (by omega), if_pos (by omega)]
    · rw [lcmp_z] at c52
      refine lc_0 dX9_two_55 ?_
      refine wp_goto 65 dX9_two_56 rfl ?_
      refine wp_lret dX9_two_65 rfl ?_
      refine qvl hQ ?_
      unfold two twoR
      first
        | (rw [if_neg (by omega), if_neg (by omega), if_neg (by omega), if_pos (by omega)]; first | (rw [if_pos (by omega)]; rfl) | rw [if_neg (by omega)])
        | rw [if_pos (by omega)]
        | rw [if_neg (by omega), if_pos (by omega)]
        | rw [if_neg (by omega), if_neg (by omega), if_pos (by omega)]
  · refine wp_tsw 28 dX9_two_1 (by omega) (by omega) (27) (by rw [c1]; rfl) rfl ?_
    refine ll_1 dX9_two_28 ?_
    refine ll_3 dX9_two_29 ?_
    refine wp_ladd dX9_two_30 (r64 (by omega) (by omega)) ?_
    refine c_X9_266 dX9_two_31 rfl (Nat.le_of_ble_eq_true rfl) (by omega) ?_
    refine wX9_clip (by omega) ?_
    refine pv_l ?_
    refine wp_lret dX9_two_34 rfl ?_
    refine qvl hQ ?_
    unfold two twoR
    first
      | (rw [if_neg (by omega), if_neg (by omega), if_neg (by omega), if_pos (by omega)]; first | (rw [if_pos (by omega)]; rfl) | rw [if_neg (by omega)])
      | rw [if_pos (by omega)]
      | rw [if_neg (by omega), if_pos (by omega)]
      | rw [if_neg (by omega), if_neg (by omega), if_pos (by omega)]
  · refine wp_tsw 35 dX9_two_1 (by omega) (by omega) (34) (by rw [c1]; rfl) rfl ?_
    refine ll_1 dX9_two_35 ?_
    refine ll_3 dX9_two_36 ?_
    refine wp_lsub dX9_two_37 (r64 (by omega) (by omega)) ?_
    refine c_X9_266 dX9_two_38 rfl (Nat.le_of_ble_eq_true rfl) (by omega) ?_
    refine wX9_clip (by omega) ?_
    refine pv_l ?_
    refine wp_lret dX9_two_41 rfl ?_
    refine qvl hQ ?_
    unfold two twoR
    first
      | (rw [if_neg (by omega), if_neg (by omega), if_neg (by omega), if_pos (by omega)]; first | (rw [if_pos (by omega)]; rfl) | rw [if_neg (by omega)])
      | rw [if_pos (by omega)]
      | rw [if_neg (by omega), if_pos (by omega)]
      | rw [if_neg (by omega), if_neg (by omega), if_pos (by omega)]
  · refine wp_tsw 42 dX9_two_1 (by omega) (by omega) (41) (by rw [c1]; rfl) rfl ?_
    refine ll_1 dX9_two_42 ?_
    refine ll_3 dX9_two_43 ?_
    refine wp_lmul dX9_two_44 (r64 (by omega) (by omega)) ?_
    refine c_X9_266 dX9_two_45 rfl (Nat.le_of_ble_eq_true rfl) (by omega) ?_
    refine wX9_clip (by omega) ?_
    refine pv_l ?_
    refine wp_lret dX9_two_48 rfl ?_
    refine qvl hQ ?_
    unfold two twoR
    first
      | (rw [if_neg (by omega), if_neg (by omega), if_neg (by omega), if_pos (by omega)]; first | (rw [if_pos (by omega)]; rfl) | rw [if_neg (by omega)])
      | rw [if_pos (by omega)]
      | rw [if_neg (by omega), if_pos (by omega)]
      | rw [if_neg (by omega), if_neg (by omega), if_pos (by omega)]

theorem wX9_isAsked {G : GT} {δ : Nat} {h hl : Nat → Int → Int} {b : Bool × Bool} {Q : V → Hp → Prop} {e x z : Int} (hδ : δ ≤ 1700) (he : 10 ≤ e ∧ e ≤ 15) (hQ : Q (vi (twoR (e + 31) x z)) (HS h hl b)) : WP G δ 0 0 MX9_isAsked 0 [vi e, vl x, vn, vl z, vn] [] (HS h hl b) Q := by
  refine il_0 dX9_isAsked_0 ?_
  refine bi_10 dX9_isAsked_1 ?_
  refine wp_icmp_ne 20 dX9_isAsked_3 rfl (fun c3 => ?_) (fun c3 => ?_)
  · refine il_0 dX9_isAsked_20 ?_
    refine bi_11 dX9_isAsked_21 ?_
    refine wp_icmp_ne 40 dX9_isAsked_23 rfl (fun c23 => ?_) (fun c23 => ?_)
    · refine il_0 dX9_isAsked_40 ?_
      refine bi_12 dX9_isAsked_41 ?_
      refine wp_icmp_ne 60 dX9_isAsked_43 rfl (fun c43 => ?_) (fun c43 => ?_)
      · refine il_0 dX9_isAsked_60 ?_
        refine bi_13 dX9_isAsked_61 ?_
        refine wp_icmp_ne 80 dX9_isAsked_63 rfl (fun c63 => ?_) (fun c63 => ?_)
        · refine il_0 dX9_isAsked_80 ?_
          refine bi_14 dX9_isAsked_81 ?_
          refine wp_icmp_ne 100 dX9_isAsked_83 rfl (fun c83 => ?_) (fun c83 => ?_)
          · refine ll_1 dX9_isAsked_100 ?_
            refine ll_3 dX9_isAsked_101 ?_
            refine wp_lcmp dX9_isAsked_102 ?_
            refine wp_if_eq 110 dX9_isAsked_103 rfl (fun c103 => ?_) (fun c103 => ?_)
            · rw [lcmp_z] at c103
              refine ic_0 dX9_isAsked_110 ?_
              refine wp_iretz dX9_isAsked_111 rfl (by omega) ?_
              refine qv hQ ?_
              first
                | (rw [ask10 (by omega)]; first | exact b2i_t (by omega) | exact b2i_f (by omega))
                | (rw [ask11 (by omega)]; first | exact b2i_t (by omega) | exact b2i_f (by omega))
                | (rw [ask12 (by omega)]; first | exact b2i_t (by omega) | exact b2i_f (by omega))
                | (rw [ask13 (by omega)]; first | exact b2i_t (by omega) | exact b2i_f (by omega))
                | (rw [ask14 (by omega)]; first | exact b2i_t (by omega) | exact b2i_f (by omega))
                | (rw [ask15 (by omega)]; first | exact b2i_t (by omega) | exact b2i_f (by omega))
            · rw [lcmp_z] at c103
              refine ic_1 dX9_isAsked_106 ?_
              refine wp_goto 111 dX9_isAsked_107 rfl ?_
              refine wp_iretz dX9_isAsked_111 rfl (by omega) ?_
              refine qv hQ ?_
              first
                | (rw [ask10 (by omega)]; first | exact b2i_t (by omega) | exact b2i_f (by omega))
                | (rw [ask11 (by omega)]; first | exact b2i_t (by omega) | exact b2i_f (by omega))
                | (rw [ask12 (by omega)]; first | exact b2i_t (by omega) | exact b2i_f (by omega))
                | (rw [ask13 (by omega)]; first | exact b2i_t (by omega) | exact b2i_f (by omega))
                | (rw [ask14 (by omega)]; first | exact b2i_t (by omega) | exact b2i_f (by omega))
                | (rw [ask15 (by omega)]; first | exact b2i_t (by omega) | exact b2i_f (by omega))
          · refine ll_1 dX9_isAsked_86 ?_
            refine ll_3 dX9_isAsked_87 ?_
            refine wp_lcmp dX9_isAsked_88 ?_
            refine wp_if_ne 96 dX9_isAsked_89 rfl (fun c89 => ?_) (fun c89 => ?_)
            · rw [lcmp_z] at c89
              refine ic_0 dX9_isAsked_96 ?_
              refine wp_goto 111 dX9_isAsked_97 rfl ?_
              refine wp_iretz dX9_isAsked_111 rfl (by omega) ?_
              refine qv hQ ?_
              first
                | (rw [ask10 (by omega)]; first | exact b2i_t (by omega) | exact b2i_f (by omega))
                | (rw [ask11 (by omega)]; first | exact b2i_t (by omega) | exact b2i_f (by omega))
                | (rw [ask12 (by omega)]; first | exact b2i_t (by omega) | exact b2i_f (by omega))
                | (rw [ask13 (by omega)]; first | exact b2i_t (by omega) | exact b2i_f (by omega))
                | (rw [ask14 (by omega)]; first | exact b2i_t (by omega) | exact b2i_f (by omega))
                | (rw [ask15 (by omega)]; first | exact b2i_t (by omega) | exact b2i_f (by omega))
            · rw [lcmp_z] at c89
              refine ic_1 dX9_isAsked_92 ?_
              refine wp_goto 111 dX9_isAsked_93 rfl ?_
              refine wp_iretz dX9_isAsked_111 rfl (by omega) ?_
              refine qv hQ ?_
              first
                | (rw [ask10 (by omega)]; first | exact b2i_t (by omega) | exact b2i_f (by omega))
                | (rw [ask11 (by omega)]; first | exact b2i_t (by omega) | exact b2i_f (by omega))
                | (rw [ask12 (by omega)]; first | exact b2i_t (by omega) | exact b2i_f (by omega))
                | (rw [ask13 (by omega)]; first | exact b2i_t (by omega) | exact b2i_f (by omega))
                | (rw [ask14 (by omega)]; first | exact b2i_t (by omega) | exact b2i_f (by omega))
                | (rw [ask15 (by omega)]; first | exact b2i_t (by omega) | exact b2i_f (by omega))
        · refine ll_1 dX9_isAsked_66 ?_
          refine ll_3 dX9_isAsked_67 ?_
          refine wp_lcmp dX9_isAsked_68 ?_
          refine wp_if_lt 76 dX9_isAsked_69 rfl (fun c69 => ?_) (fun c69 => ?_)
          · rw [lcmp_lt] at c69
            refine ic_0 dX9_isAsked_76 ?_
            refine wp_goto 111 dX9_isAsked_77 rfl ?_
            refine wp_iretz dX9_isAsked_111 rfl (by omega) ?_
            refine qv hQ ?_
            first
              | (rw [ask10 (by omega)]; first | exact b2i_t (by omega) | exact b2i_f (by omega))
              | (rw [ask11 (by omega)]; first | exact b2i_t (by omega) | exact b2i_f (by omega))
              | (rw [ask12 (by omega)]; first | exact b2i_t (by omega) | exact b2i_f (by omega))
              | (rw [ask13 (by omega)]; first | exact b2i_t (by omega) | exact b2i_f (by omega))
              | (rw [ask14 (by omega)]; first | exact b2i_t (by omega) | exact b2i_f (by omega))
              | (rw [ask15 (by omega)]; first | exact b2i_t (by omega) | exact b2i_f (by omega))
          · rw [lcmp_lt] at c69
            refine ic_1 dX9_isAsked_72 ?_
            refine wp_goto 111 dX9_isAsked_73 rfl ?_
            refine wp_iretz dX9_isAsked_111 rfl (by omega) ?_
            refine qv hQ ?_
            first
              | (rw [ask10 (by omega)]; first | exact b2i_t (by omega) | exact b2i_f (by omega))
              | (rw [ask11 (by omega)]; first | exact b2i_t (by omega) | exact b2i_f (by omega))
              | (rw [ask12 (by omega)]; first | exact b2i_t (by omega) | exact b2i_f (by omega))
              | (rw [ask13 (by omega)]; first | exact b2i_t (by omega) | exact b2i_f (by omega))
              | (rw [ask14 (by omega)]; first | exact b2i_t (by omega) | exact b2i_f (by omega))
              | (rw [ask15 (by omega)]; first | exact b2i_t (by omega) | exact b2i_f (by omega))
      · refine ll_1 dX9_isAsked_46 ?_
        refine ll_3 dX9_isAsked_47 ?_
        refine wp_lcmp dX9_isAsked_48 ?_
        refine wp_if_le 56 dX9_isAsked_49 rfl (fun c49 => ?_) (fun c49 => ?_)
        · rw [lcmp_le] at c49
          refine ic_0 dX9_isAsked_56 ?_
          refine wp_goto 111 dX9_isAsked_57 rfl ?_
          refine wp_iretz dX9_isAsked_111 rfl (by omega) ?_
          refine qv hQ ?_
          first
            | (rw [ask10 (by omega)]; first | exact b2i_t (by omega) | exact b2i_f (by omega))
            | (rw [ask11 (by omega)]; first | exact b2i_t (by omega) | exact b2i_f (by omega))
            | (rw [ask12 (by omega)]; first | exact b2i_t (by omega) | exact b2i_f (by omega))
            | (rw [ask13 (by omega)]; first | exact b2i_t (by omega) | exact b2i_f (by omega))
            | (rw [ask14 (by omega)]; first | exact b2i_t (by omega) | exact b2i_f (by omega))
            | (rw [ask15 (by omega)]; first | exact b2i_t (by omega) | exact b2i_f (by omega))
        · rw [lcmp_le] at c49
          refine ic_1 dX9_isAsked_52 ?_
          refine wp_goto 111 dX9_isAsked_53 rfl ?_
          refine wp_iretz dX9_isAsked_111 rfl (by omega) ?_
          refine qv hQ ?_
          first
            | (rw [ask10 (by omega)]; first | exact b2i_t (by omega) | exact b2i_f (by omega))
            | (rw [ask11 (by omega)]; first | exact b2i_t (by omega) | exact b2i_f (by omega))
            | (rw [ask12 (by omega)]; first | exact b2i_t (by omega) | exact b2i_f (by omega))
            | (rw [ask13 (by omega)]; first | exact b2i_t (by omega) | exact b2i_f (by omega))
            | (rw [ask14 (by omega)]; first | exact b2i_t (by omega) | exact b2i_f (by omega))
            | (rw [ask15 (by omega)]; first | exact b2i_t (by omega) | exact b2i_f (by omega))
    · refine ll_1 dX9_isAsked_26 ?_
      refine ll_3 dX9_isAsked_27 ?_
      refine wp_lcmp dX9_isAsked_28 ?_
      refine wp_if_gt 36 dX9_isAsked_29 rfl (fun c29 => ?_) (fun c29 => ?_)
      · rw [lcmp_gt] at c29
        refine ic_0 dX9_isAsked_36 ?_
        refine wp_goto 111 dX9_isAsked_37 rfl ?_
        refine wp_iretz dX9_isAsked_111 rfl (by omega) ?_
        refine qv hQ ?_
        first
          | (rw [ask10 (by omega)]; first | exact b2i_t (by omega) | exact b2i_f (by omega))
          | (rw [ask11 (by omega)]; first | exact b2i_t (by omega) | exact b2i_f (by omega))
          | (rw [ask12 (by omega)]; first | exact b2i_t (by omega) | exact b2i_f (by omega))
          | (rw [ask13 (by omega)]; first | exact b2i_t (by omega) | exact b2i_f (by omega))
          | (rw [ask14 (by omega)]; first | exact b2i_t (by omega) | exact b2i_f (by omega))
          | (rw [ask15 (by omega)]; first | exact b2i_t (by omega) | exact b2i_f (by omega))
      · rw [lcmp_gt] at c29
        refine ic_1 dX9_isAsked_32 ?_
        refine wp_goto 111 dX9_isAsked_33 rfl ?_
        refine wp_iretz dX9_isAsked_111 rfl (by omega) ?_
        refine qv hQ ?_
        first
          | (rw [ask10 (by omega)]; first | exact b2i_t (by omega) | exact b2i_f (by omega))
          | (rw [ask11 (by omega)]; first | exact b2i_t (by omega) | exact b2i_f (by omega))
          | (rw [ask12 (by omega)]; first | exact b2i_t (by omega) | exact b2i_f (by omega))
          | (rw [ask13 (by omega)]; first | exact b2i_t (by omega) | exact b2i_f (by omega))
          | (rw [ask14 (by omega)]; first | exact b2i_t (by omega) | exact b2i_f (by omega))
          | (rw [ask15 (by omega)]; first | exact b2i_t (by omega) | exact b2i_f (by omega))
  · refine ll_1 dX9_isAsked_6 ?_
    refine ll_3 dX9_isAsked_7 ?_
    refine wp_lcmp dX9_isAsked_8 ?_
    refine wp_if_ge 16 dX9_isAsked_9 rfl (fun c9 => ?_) (fun c9 => ?_)
    · rw [lcmp_ge] at c9
      refine ic_0 dX9_isAsked_16 ?_
      refine wp_goto 111 dX9_isAsked_17 rfl ?_
      refine wp_iretz dX9_isAsked_111 rfl (by omega) ?_
      refine qv hQ ?_
      first
        | (rw [ask10 (by omega)]; first | exact b2i_t (by omega) | exact b2i_f (by omega))
        | (rw [ask11 (by omega)]; first | exact b2i_t (by omega) | exact b2i_f (by omega))
        | (rw [ask12 (by omega)]; first | exact b2i_t (by omega) | exact b2i_f (by omega))
        | (rw [ask13 (by omega)]; first | exact b2i_t (by omega) | exact b2i_f (by omega))
        | (rw [ask14 (by omega)]; first | exact b2i_t (by omega) | exact b2i_f (by omega))
        | (rw [ask15 (by omega)]; first | exact b2i_t (by omega) | exact b2i_f (by omega))
    · rw [lcmp_ge] at c9
      refine ic_1 dX9_isAsked_12 ?_
      refine wp_goto 111 dX9_isAsked_13 rfl ?_
      refine wp_iretz dX9_isAsked_111 rfl (by omega) ?_
      refine qv hQ ?_
      first
        | (rw [ask10 (by omega)]; first | exact b2i_t (by omega) | exact b2i_f (by omega))
        | (rw [ask11 (by omega)]; first | exact b2i_t (by omega) | exact b2i_f (by omega))
        | (rw [ask12 (by omega)]; first | exact b2i_t (by omega) | exact b2i_f (by omega))
        | (rw [ask13 (by omega)]; first | exact b2i_t (by omega) | exact b2i_f (by omega))
        | (rw [ask14 (by omega)]; first | exact b2i_t (by omega) | exact b2i_f (by omega))
        | (rw [ask15 (by omega)]; first | exact b2i_t (by omega) | exact b2i_f (by omega))

theorem wX9_lampLit {G : GT} {δ : Nat} {h hl : Nat → Int → Int} {b : Bool × Bool} {Q : V → Hp → Prop} {l : Int} (hδ : δ ≤ 1680) (w0 : 0 ≤ h 337 10) (w1 : h 337 10 < 1024) (hQ : Q (vl (one 21 l (h 337 10))) (HS h hl b)) : WP G δ 0 0 MX9_lampLit 0 [vr (336), vl l, vn] [] (HS h hl b) Q := by
  refine ll_1 dX9_lampLit_0 ?_
  refine lc_0 dX9_lampLit_1 ?_
  refine wp_lcmp dX9_lampLit_2 ?_
  refine wp_if_lt 33 dX9_lampLit_3 rfl (fun c3 => ?_) (fun c3 => ?_)
  · rw [lcmp_lt] at c3
    refine lc_0 dX9_lampLit_33 ?_
    refine wp_lret dX9_lampLit_34 rfl ?_
    refine qvl hQ ?_
    unfold one
    rw [if_neg (by decide), if_pos rfl]
    first | rw [if_neg (by omega)] | (rw [if_pos (by omega)]; first | rw [if_pos c26] | rw [if_neg c26])
  · rw [lcmp_lt] at c3
    refine ll_1 dX9_lampLit_6 ?_
    refine wp_ldc2 (10) dX9_lampLit_7 ⟨by decide, by decide⟩ cc_X9_270 ?_
    refine wp_lcmp dX9_lampLit_10 ?_
    refine wp_if_ge 33 dX9_lampLit_11 rfl (fun c11 => ?_) (fun c11 => ?_)
    · rw [lcmp_ge] at c11
      refine lc_0 dX9_lampLit_33 ?_
      refine wp_lret dX9_lampLit_34 rfl ?_
      refine qvl hQ ?_
      unfold one
      rw [if_neg (by decide), if_pos rfl]
      first | rw [if_neg (by omega)] | (rw [if_pos (by omega)]; first | rw [if_pos c26] | rw [if_neg c26])
    · rw [lcmp_ge] at c11
      refine al_0 dX9_lampLit_14 ?_
      refine g_X9_7 (337) dX9_lampLit_15 rfl tt336 (rr9_0 tt336) (by omega) ?_
      refine bi_10 dX9_lampLit_18 ?_
      refine wp_iaload dX9_lampLit_20 tt337 (by omega) (by omega) ?_
      refine ll_1 dX9_lampLit_21 ?_
      refine wp_l2i dX9_lampLit_22 (r32 (by omega) (by omega)) ?_
      refine c_X9_248 dX9_lampLit_23 rfl (Nat.le_of_ble_eq_true rfl) (by omega) ?_
      refine wX9_has (by omega) w0 (by omega) (by omega) (by omega) ?_
      refine pv_i ?_
      refine wp_if_eq 33 dX9_lampLit_26 rfl (fun c26 => ?_) (fun c26 => ?_)
      · rw [b2i_0] at c26
        refine lc_0 dX9_lampLit_33 ?_
        refine wp_lret dX9_lampLit_34 rfl ?_
        refine qvl hQ ?_
        unfold one
        rw [if_neg (by decide), if_pos rfl]
        first | rw [if_neg (by omega)] | (rw [if_pos (by omega)]; first | rw [if_pos c26] | rw [if_neg c26])
      · rw [b2i_n0] at c26
        refine lc_1 dX9_lampLit_29 ?_
        refine wp_goto 34 dX9_lampLit_30 rfl ?_
        refine wp_lret dX9_lampLit_34 rfl ?_
        refine qvl hQ ?_
        unfold one
        rw [if_neg (by decide), if_pos rfl]
        first | rw [if_neg (by omega)] | (rw [if_pos (by omega)]; first | rw [if_pos c26] | rw [if_neg c26])

theorem wX9_roundOf {G : GT} {δ : Nat} {h hl : Nat → Int → Int} {b : Bool × Bool} {Q : V → Hp → Prop} {x z : Int} (hδ : δ ≤ 1700)  (hQ : Q (vl (apI x z)) (HS h hl b)) : WP G δ 0 0 MX9_roundOf 0 [vl x, vn, vl z, vn, vn, vn] [] (HS h hl b) Q := by
  refine ll_0 dX9_roundOf_0 ?_
  refine lc_0 dX9_roundOf_1 ?_
  refine wp_lcmp dX9_roundOf_2 ?_
  refine wp_if_lt 28 dX9_roundOf_3 rfl (fun c3 => ?_) (fun c3 => ?_)
  · rw [lcmp_lt] at c3
    refine lc_0 dX9_roundOf_28 ?_
    refine wp_lret dX9_roundOf_29 rfl ?_
    refine qvl hQ ?_
    unfold apI
    repeat' split
    all_goals omega
  · rw [lcmp_lt] at c3
    refine ll_2 dX9_roundOf_6 ?_
    refine lc_0 dX9_roundOf_7 ?_
    refine wp_lcmp dX9_roundOf_8 ?_
    refine wp_if_lt 28 dX9_roundOf_9 rfl (fun c9 => ?_) (fun c9 => ?_)
    · rw [lcmp_lt] at c9
      refine lc_0 dX9_roundOf_28 ?_
      refine wp_lret dX9_roundOf_29 rfl ?_
      refine qvl hQ ?_
      unfold apI
      repeat' split
      all_goals omega
    · rw [lcmp_lt] at c9
      refine ll_0 dX9_roundOf_12 ?_
      refine wp_ldc2 (10) dX9_roundOf_13 ⟨by decide, by decide⟩ cc_X9_270 ?_
      refine wp_lcmp dX9_roundOf_16 ?_
      refine wp_if_ge 28 dX9_roundOf_17 rfl (fun c17 => ?_) (fun c17 => ?_)
      · rw [lcmp_ge] at c17
        refine lc_0 dX9_roundOf_28 ?_
        refine wp_lret dX9_roundOf_29 rfl ?_
        refine qvl hQ ?_
        unfold apI
        repeat' split
        all_goals omega
      · rw [lcmp_ge] at c17
        refine ll_2 dX9_roundOf_20 ?_
        refine wp_ldc2 (10) dX9_roundOf_21 ⟨by decide, by decide⟩ cc_X9_270 ?_
        refine wp_lcmp dX9_roundOf_24 ?_
        refine wp_if_lt 30 dX9_roundOf_25 rfl (fun c25 => ?_) (fun c25 => ?_)
        · rw [lcmp_lt] at c25
          refine ll_0 dX9_roundOf_30 ?_
          refine ll_2 dX9_roundOf_31 ?_
          refine wp_lcmp dX9_roundOf_32 ?_
          refine wp_if_ge 42 dX9_roundOf_33 rfl (fun c33 => ?_) (fun c33 => ?_)
          · rw [lcmp_ge] at c33
            refine ll_0 dX9_roundOf_42 ?_
            refine ll_2 dX9_roundOf_43 ?_
            refine wp_lsub dX9_roundOf_44 (r64 (by omega) (by omega)) ?_
            refine ls_4 dX9_roundOf_45 rfl (by decide) ?_
            refine ll_4 dX9_roundOf_47 ?_
            refine wp_ldc2 (10) dX9_roundOf_49 ⟨by decide, by decide⟩ cc_X9_270 ?_
            refine ll_4 dX9_roundOf_52 ?_
            refine wp_lsub dX9_roundOf_54 (r64 (by omega) (by omega)) ?_
            refine wp_lcmp dX9_roundOf_55 ?_
            refine wp_if_le 68 dX9_roundOf_56 rfl (fun c56 => ?_) (fun c56 => ?_)
            · rw [lcmp_le] at c56
              refine ll_4 dX9_roundOf_68 ?_
              refine wp_lret dX9_roundOf_70 rfl ?_
              refine qvl hQ ?_
              unfold apI
              repeat' split
              all_goals omega
            · rw [lcmp_le] at c56
              refine wp_ldc2 (10) dX9_roundOf_59 ⟨by decide, by decide⟩ cc_X9_270 ?_
              refine ll_4 dX9_roundOf_62 ?_
              refine wp_lsub dX9_roundOf_64 (r64 (by omega) (by omega)) ?_
              refine wp_goto 70 dX9_roundOf_65 rfl ?_
              refine wp_lret dX9_roundOf_70 rfl ?_
              refine qvl hQ ?_
              unfold apI
              repeat' split
              all_goals omega
          · rw [lcmp_ge] at c33
            refine ll_2 dX9_roundOf_36 ?_
            refine ll_0 dX9_roundOf_37 ?_
            refine wp_lsub dX9_roundOf_38 (r64 (by omega) (by omega)) ?_
            refine wp_goto 45 dX9_roundOf_39 rfl ?_
            refine ls_4 dX9_roundOf_45 rfl (by decide) ?_
            refine ll_4 dX9_roundOf_47 ?_
            refine wp_ldc2 (10) dX9_roundOf_49 ⟨by decide, by decide⟩ cc_X9_270 ?_
            refine ll_4 dX9_roundOf_52 ?_
            refine wp_lsub dX9_roundOf_54 (r64 (by omega) (by omega)) ?_
            refine wp_lcmp dX9_roundOf_55 ?_
            refine wp_if_le 68 dX9_roundOf_56 rfl (fun c56 => ?_) (fun c56 => ?_)
            · rw [lcmp_le] at c56
              refine ll_4 dX9_roundOf_68 ?_
              refine wp_lret dX9_roundOf_70 rfl ?_
              refine qvl hQ ?_
              unfold apI
              repeat' split
              all_goals omega
            · rw [lcmp_le] at c56
              refine wp_ldc2 (10) dX9_roundOf_59 ⟨by decide, by decide⟩ cc_X9_270 ?_
              refine ll_4 dX9_roundOf_62 ?_
              refine wp_lsub dX9_roundOf_64 (r64 (by omega) (by omega)) ?_
              refine wp_goto 70 dX9_roundOf_65 rfl ?_
              refine wp_lret dX9_roundOf_70 rfl ?_
              refine qvl hQ ?_
              unfold apI
              repeat' split
              all_goals omega
        · rw [lcmp_lt] at c25
          refine lc_0 dX9_roundOf_28 ?_
          refine wp_lret dX9_roundOf_29 rfl ?_
          refine qvl hQ ?_
          unfold apI
          repeat' split
          all_goals omega

theorem wX9_joined {G : GT} {δ : Nat} {h hl : Nat → Int → Int} {b : Bool × Bool} {Q : V → Hp → Prop} {o a c : Int} (hδ : δ ≤ 1700) (ho : o = 21 ∨ o = 22) (hQ : Q (vi (mJoin o a c)) (HS h hl b)) : WP G δ 0 0 MX9_joined 0 [vi o, vi a, vi c] [] (HS h hl b) Q := by
  refine il_0 dX9_joined_0 ?_
  refine bi_21 dX9_joined_1 ?_
  refine wp_icmp_ne 22 dX9_joined_3 rfl (fun c3 => ?_) (fun c3 => ?_)
  · refine il_1 dX9_joined_22 ?_
    refine wp_if_ne 30 dX9_joined_23 rfl (fun c23 => ?_) (fun c23 => ?_)
    · refine ic_1 dX9_joined_30 ?_
      refine wp_goto 35 dX9_joined_31 rfl ?_
      refine wp_iretz dX9_joined_35 rfl (by omega) ?_
      refine qv hQ ?_
      unfold mJoin b2i
      repeat' split
      all_goals omega
    · refine il_2 dX9_joined_26 ?_
      refine wp_if_eq 34 dX9_joined_27 rfl (fun c27 => ?_) (fun c27 => ?_)
      · refine ic_0 dX9_joined_34 ?_
        refine wp_iretz dX9_joined_35 rfl (by omega) ?_
        refine qv hQ ?_
        unfold mJoin b2i
        repeat' split
        all_goals omega
      · refine ic_1 dX9_joined_30 ?_
        refine wp_goto 35 dX9_joined_31 rfl ?_
        refine wp_iretz dX9_joined_35 rfl (by omega) ?_
        refine qv hQ ?_
        unfold mJoin b2i
        repeat' split
        all_goals omega
  · refine il_1 dX9_joined_6 ?_
    refine wp_if_eq 18 dX9_joined_7 rfl (fun c7 => ?_) (fun c7 => ?_)
    · refine ic_0 dX9_joined_18 ?_
      refine wp_goto 35 dX9_joined_19 rfl ?_
      refine wp_iretz dX9_joined_35 rfl (by omega) ?_
      refine qv hQ ?_
      unfold mJoin b2i
      repeat' split
      all_goals omega
    · refine il_2 dX9_joined_10 ?_
      refine wp_if_eq 18 dX9_joined_11 rfl (fun c11 => ?_) (fun c11 => ?_)
      · refine ic_0 dX9_joined_18 ?_
        refine wp_goto 35 dX9_joined_19 rfl ?_
        refine wp_iretz dX9_joined_35 rfl (by omega) ?_
        refine qv hQ ?_
        unfold mJoin b2i
        repeat' split
        all_goals omega
      · refine ic_1 dX9_joined_14 ?_
        refine wp_goto 35 dX9_joined_15 rfl ?_
        refine wp_iretz dX9_joined_35 rfl (by omega) ?_
        refine qv hQ ?_
        unfold mJoin b2i
        repeat' split
        all_goals omega

theorem wX9_summedUp_38 {G : GT} {δ : Nat} {h0 : Nat → Int → Int} {b : Bool × Bool} {Q : V → Hp → Prop} {t k lit v to : Int} {C nm : Int → Int} (hδ : δ ≤ 1660) (t0 : 0 ≤ t) (t1 : t < 4) (k0 : 0 ≤ k) (k1 : k < 24)
  (hlit : h0 337 10 = lit) (l0 : 0 ≤ lit) (l1 : lit < 1024) (hnm : h0 342 = nm) (hto : h0 339 (705 * t + 1 + 4 * k + 2) = to) (hto1 : to ≤ 304) (hC : ∀ j, h0 339 (705 * t + 97 + j) = C j)
  (hQ : ∀ h' hl', eqX [344] h0 h' → Q (vl v) (HS h' hl' b)) :
    ∀ (n : Nat) (i nn mm : Int) (vs ts : List Int) (h hl : Nat → Int → Int), i + n = to → 0 ≤ i → mRun C nm lit n i (vs, ts) ([v], []) → eqX [344] h0 h → nn = vs.length → mm = ts.length → SR (hl 343) vs → SR (h 344) ts →
      WP G δ 0 0 MX9_summedUp 38 [vr 336, vi t, vi k, vi (705 * t + 1 + 4 * k), vi (705 * t + 97), vi nn, vi mm, vi i, vn, vn] [] (HS h hl b) Q := by
  intro n
  induction n with
  | zero =>
    intro i nn mm vs ts h hl hi i0 hr hE hn hm hS hT
    obtain ⟨rfl, rfl⟩ := Prod.mk.inj (show (vs, ts) = ([v], []) from hr)
    refine il_7 dX9_summedUp_38 ?_
    refine al_0 dX9_summedUp_40 ?_
    refine g_X9_16 (339) dX9_summedUp_41 rfl tt336 (rr9_2 tt336) (by omega) ?_
    refine il_3 dX9_summedUp_44 ?_
    refine ic_2 dX9_summedUp_45 ?_
    refine wp_iadd dX9_summedUp_46 (r32 (by omega) (by omega)) ?_
    refine wp_iaload dX9_summedUp_47 tt339 (by omega) (by omega) ?_
    rw [hE 339 (by decide)]
    rw [show 705 * t + 1 + 4 * k + 2 = 705 * t + 1 + 4 * k + 2 from rfl, hto]
    refine wp_icmp_ge 406 dX9_summedUp_48 rfl (fun c48 => ?_) (fun c48 => ?_)
    · refine al_0 dX9_summedUp_406 ?_
      refine g_X9_35 (343) dX9_summedUp_407 rfl tt336 (rr9_21 tt336) (by omega) ?_
      refine ic_0 dX9_summedUp_410 ?_
      refine wp_laload dX9_summedUp_411 tt343 (by omega) (by omega) ?_
      rw [SR_top hS (by rfl)]
      refine wp_lret dX9_summedUp_412 rfl ?_
      exact hQ _ _ hE
    · omega
  | succ n ih =>
    intro i nn mm vs ts h hl hi i0 hr hE hn hm hS hT
    obtain ⟨⟨o1, o2, o3, o4, o5⟩, hr⟩ := hr
    dsimp only at o1 o2 o3 o4 o5
    refine il_7 dX9_summedUp_38 ?_
    refine al_0 dX9_summedUp_40 ?_
    refine g_X9_16 (339) dX9_summedUp_41 rfl tt336 (rr9_2 tt336) (by omega) ?_
    refine il_3 dX9_summedUp_44 ?_
    refine ic_2 dX9_summedUp_45 ?_
    refine wp_iadd dX9_summedUp_46 (r32 (by omega) (by omega)) ?_
    refine wp_iaload dX9_summedUp_47 tt339 (by omega) (by omega) ?_
    rw [hE 339 (by decide)]
    rw [show 705 * t + 1 + 4 * k + 2 = 705 * t + 1 + 4 * k + 2 from rfl, hto]
    refine wp_icmp_ge 406 dX9_summedUp_48 rfl (fun c48 => ?_) (fun c48 => ?_)
    · omega
    · refine al_0 dX9_summedUp_51 ?_
      refine g_X9_16 (339) dX9_summedUp_52 rfl tt336 (rr9_2 tt336) (by omega) ?_
      refine il_4 dX9_summedUp_55 ?_
      refine ic_2 dX9_summedUp_57 ?_
      refine il_7 dX9_summedUp_58 ?_
      refine wp_imul dX9_summedUp_60 (r32 (by omega) (by omega)) ?_
      refine wp_iadd dX9_summedUp_61 (r32 (by omega) (by omega)) ?_
      refine wp_iaload dX9_summedUp_62 tt339 (by omega) (by omega) ?_
      rw [hE 339 (by decide)]
      rw [hC]
      refine is_8 dX9_summedUp_63 rfl (by decide) ?_
      refine al_0 dX9_summedUp_65 ?_
      refine g_X9_16 (339) dX9_summedUp_66 rfl tt336 (rr9_2 tt336) (by omega) ?_
      refine il_4 dX9_summedUp_69 ?_
      refine ic_2 dX9_summedUp_71 ?_
      refine il_7 dX9_summedUp_72 ?_
      refine wp_imul dX9_summedUp_74 (r32 (by omega) (by omega)) ?_
      refine wp_iadd dX9_summedUp_75 (r32 (by omega) (by omega)) ?_
      refine ic_1 dX9_summedUp_76 ?_
      refine wp_iadd dX9_summedUp_77 (r32 (by omega) (by omega)) ?_
      refine wp_iaload dX9_summedUp_78 tt339 (by omega) (by omega) ?_
      rw [hE 339 (by decide)]
      rw [show 705 * t + 97 + 2 * i + 1 = 705 * t + 97 + (2 * i + 1) by omega, hC]
      refine is_9 dX9_summedUp_79 rfl (by decide) ?_
      refine il_8 dX9_summedUp_81 ?_
      refine ic_1 dX9_summedUp_83 ?_
      refine wp_icmp_gt 119 dX9_summedUp_84 rfl (fun c84 => ?_) (fun c84 => ?_)
      · refine il_8 dX9_summedUp_119 ?_
        refine ic_3 dX9_summedUp_121 ?_
        refine wp_icmp_ne 160 dX9_summedUp_122 rfl (fun c122 => ?_) (fun c122 => ?_)
        · refine il_8 dX9_summedUp_160 ?_
          refine ic_5 dX9_summedUp_162 ?_
          refine wp_icmp_eq 172 dX9_summedUp_163 rfl (fun c163 => ?_) (fun c163 => ?_)
          · obtain ⟨x, tt, rfl⟩ := ne1 (st := vs) (by unfold mAr at o5; omega)
            simp only [List.length_cons] at hn o1
            refine al_0 dX9_summedUp_172 ?_
            refine g_X9_35 (343) dX9_summedUp_173 rfl tt336 (rr9_21 tt336) (by omega) ?_
            refine il_5 dX9_summedUp_176 ?_
            refine ic_1 dX9_summedUp_178 ?_
            refine wp_isub dX9_summedUp_179 (r32 (by omega) (by omega)) ?_
            refine il_8 dX9_summedUp_180 ?_
            refine ic_5 dX9_summedUp_182 ?_
            refine wp_icmp_ne 199 dX9_summedUp_183 rfl (fun c183 => ?_) (fun c183 => ?_)
            · have oe : C (2 * i) = 2 := by unfold mAr at o5; omega
              rw [ms_lamp oe] at hr
              refine al_0 dX9_summedUp_199 ?_
              refine al_0 dX9_summedUp_200 ?_
              refine g_X9_35 (343) dX9_summedUp_201 rfl tt336 (rr9_21 tt336) (by omega) ?_
              refine il_5 dX9_summedUp_204 ?_
              refine ic_1 dX9_summedUp_206 ?_
              refine wp_isub dX9_summedUp_207 (r32 (by omega) (by omega)) ?_
              refine wp_laload dX9_summedUp_208 tt343 (by omega) (by omega) ?_
              rw [SR_top hS (by omega)]
              refine c_X9_272 dX9_summedUp_209 rfl tt336 (Nat.le_of_ble_eq_true rfl) (by omega) ?_
              have q10 : ∀ h2 : Nat → Int → Int, h2 337 = h 337 → h2 337 10 = h 337 10 := fun _ e => by rw [e]
              have e10 : h 337 10 = lit := by rw [hE 337 (by decide), hlit]
              refine wX9_lampLit (by omega) (by omega) (by omega) ?_
              rw [e10]
              refine pv_l ?_
              refine wp_lastore dX9_summedUp_212 tt343 (by omega) (by omega) ?_
              refine wp_goto 400 dX9_summedUp_213 rfl ?_
              refine ii_7 dX9_summedUp_400 rfl (by decide) ⟨by decide, by decide⟩ (r32 (by omega) (by omega)) ?_
              refine wp_goto 38 dX9_summedUp_403 rfl ?_
              refine wp_fg (ls' := [_, _, _, _, _, _, _, _, vn, vn]) ⟨Or.inr rfl, Or.inr rfl, Or.inr rfl, Or.inr rfl, Or.inr rfl, Or.inr rfl, Or.inr rfl, Or.inr rfl, Or.inl rfl, Or.inl rfl, trivial⟩ ?_
              first
                | exact ih (i + 1) _ _ _ _ _ _ (by omega) (by omega) hr hE (by simp only [List.length_cons]; omega) (by omega) (SRup hS (by omega)) hT
                | exact ih (i + 1) _ _ _ _ _ _ (by omega) (by omega) hr hE (by simp only [List.length_cons]; omega) (by omega) (SRup hS.2 (by omega)) hT
                | exact ih (i + 1) _ _ _ _ _ _ (by omega) (by omega) hr hE (by simp only [List.length_cons]; omega) (by omega) hS.2 hT.2
                | exact ih (i + 1) _ _ _ _ _ _ (by omega) (by omega) hr hE (by simp only [List.length_cons]; omega) (by omega) (SRup hS.2.2 (by omega)) hT.2
                | exact ih (i + 1) _ _ _ _ _ _ (by omega) (by omega) hr hE (by simp only [List.length_cons]; omega) (by omega) (SRup hS.2.2 (by omega)) hT
                | exact ih (i + 1) _ _ _ _ _ _ (by omega) (by omega) hr (hE.up (by decide)) (by omega) (by simp only [List.length_cons]; omega) hS.2.2 (SRup hT (by omega))
                | exact ih (i + 1) _ _ _ _ _ _ (by omega) (by omega) hr (hE.up (by decide)) (by omega) (by simp only [List.length_cons]; omega) hS (SRup hT.2 (by omega))
                | exact ih (i + 1) _ _ _ _ _ _ (by omega) (by omega) hr (hE.up (by decide)) (by omega) (by simp only [List.length_cons]; omega) hS (SRup hT.2.2 (by omega))
            · rw [ms_neg c183] at hr
              refine al_0 dX9_summedUp_186 ?_
              refine g_X9_35 (343) dX9_summedUp_187 rfl tt336 (rr9_21 tt336) (by omega) ?_
              refine il_5 dX9_summedUp_190 ?_
              refine ic_1 dX9_summedUp_192 ?_
              refine wp_isub dX9_summedUp_193 (r32 (by omega) (by omega)) ?_
              refine wp_laload dX9_summedUp_194 tt343 (by omega) (by omega) ?_
              rw [SR_top hS (by omega)]
              refine wp_lneg dX9_summedUp_195 (by have ox := o3 x (by simp); unfold MI at ox; exact r64 (by omega) (by omega)) ?_
              refine wp_goto 212 dX9_summedUp_196 rfl ?_
              refine wp_lastore dX9_summedUp_212 tt343 (by omega) (by omega) ?_
              refine wp_goto 400 dX9_summedUp_213 rfl ?_
              refine ii_7 dX9_summedUp_400 rfl (by decide) ⟨by decide, by decide⟩ (r32 (by omega) (by omega)) ?_
              refine wp_goto 38 dX9_summedUp_403 rfl ?_
              refine wp_fg (ls' := [_, _, _, _, _, _, _, _, vn, vn]) ⟨Or.inr rfl, Or.inr rfl, Or.inr rfl, Or.inr rfl, Or.inr rfl, Or.inr rfl, Or.inr rfl, Or.inr rfl, Or.inl rfl, Or.inl rfl, trivial⟩ ?_
              first
                | exact ih (i + 1) _ _ _ _ _ _ (by omega) (by omega) hr hE (by simp only [List.length_cons]; omega) (by omega) (SRup hS (by omega)) hT
                | exact ih (i + 1) _ _ _ _ _ _ (by omega) (by omega) hr hE (by simp only [List.length_cons]; omega) (by omega) (SRup hS.2 (by omega)) hT
                | exact ih (i + 1) _ _ _ _ _ _ (by omega) (by omega) hr hE (by simp only [List.length_cons]; omega) (by omega) hS.2 hT.2
                | exact ih (i + 1) _ _ _ _ _ _ (by omega) (by omega) hr hE (by simp only [List.length_cons]; omega) (by omega) (SRup hS.2.2 (by omega)) hT.2
                | exact ih (i + 1) _ _ _ _ _ _ (by omega) (by omega) hr hE (by simp only [List.length_cons]; omega) (by omega) (SRup hS.2.2 (by omega)) hT
                | exact ih (i + 1) _ _ _ _ _ _ (by omega) (by omega) hr (hE.up (by decide)) (by omega) (by simp only [List.length_cons]; omega) hS.2.2 (SRup hT (by omega))
                | exact ih (i + 1) _ _ _ _ _ _ (by omega) (by omega) hr (hE.up (by decide)) (by omega) (by simp only [List.length_cons]; omega) hS (SRup hT.2 (by omega))
                | exact ih (i + 1) _ _ _ _ _ _ (by omega) (by omega) hr (hE.up (by decide)) (by omega) (by simp only [List.length_cons]; omega) hS (SRup hT.2.2 (by omega))
          · refine il_8 dX9_summedUp_166 ?_
            refine ic_2 dX9_summedUp_168 ?_
            refine wp_icmp_ne 216 dX9_summedUp_169 rfl (fun c169 => ?_) (fun c169 => ?_)
            · refine il_8 dX9_summedUp_216 ?_
              refine bi_10 dX9_summedUp_218 ?_
              refine wp_icmp_ge 287 dX9_summedUp_220 rfl (fun c220 => ?_) (fun c220 => ?_)
              · refine il_8 dX9_summedUp_287 ?_
                refine bi_20 dX9_summedUp_289 ?_
                refine wp_icmp_ge 331 dX9_summedUp_291 rfl (fun c291 => ?_) (fun c291 => ?_)
                · refine il_8 dX9_summedUp_331 ?_
                  refine bi_20 dX9_summedUp_333 ?_
                  refine wp_icmp_ne 367 dX9_summedUp_335 rfl (fun c335 => ?_) (fun c335 => ?_)
                  · have oe : C (2 * i) = 21 ∨ C (2 * i) = 22 := by unfold mAr at o5; omega
                    obtain ⟨a, ts0, rfl⟩ := ne1 (st := ts) (by unfold mAr at o5; omega)
                    obtain ⟨c, ts1, rfl⟩ := ne1 (st := ts0) (by unfold mAr at o5; simp only [List.length_cons] at o5; omega)
                    simp only [List.length_cons] at hm o2
                    rw [ms_join (by omega)] at hr
                    refine ii_6 dX9_summedUp_367 rfl (by decide) ⟨by decide, by decide⟩ (r32 (by omega) (by omega)) ?_
                    refine al_0 dX9_summedUp_370 ?_
                    refine g_X9_39 (344) dX9_summedUp_371 rfl tt336 (rr9_22 tt336) (by omega) ?_
                    refine il_6 dX9_summedUp_374 ?_
                    refine ic_1 dX9_summedUp_376 ?_
                    refine wp_isub dX9_summedUp_377 (r32 (by omega) (by omega)) ?_
                    refine il_8 dX9_summedUp_378 ?_
                    refine al_0 dX9_summedUp_380 ?_
                    refine g_X9_39 (344) dX9_summedUp_381 rfl tt336 (rr9_22 tt336) (by omega) ?_
                    refine il_6 dX9_summedUp_384 ?_
                    refine ic_1 dX9_summedUp_386 ?_
                    refine wp_isub dX9_summedUp_387 (r32 (by omega) (by omega)) ?_
                    refine wp_zaload dX9_summedUp_388 tt344 (by omega) (by omega) ?_
                    rw [SR_snd hT (by omega)]
                    refine al_0 dX9_summedUp_389 ?_
                    refine g_X9_39 (344) dX9_summedUp_390 rfl tt336 (rr9_22 tt336) (by omega) ?_
                    refine il_6 dX9_summedUp_393 ?_
                    refine wp_zaload dX9_summedUp_395 tt344 (by omega) (by omega) ?_
                    rw [SR_top hT (by simp only [List.length_cons]; omega)]
                    refine c_X9_287 dX9_summedUp_396 rfl (Nat.le_of_ble_eq_true rfl) (by omega) ?_
                    refine wX9_joined (by omega) oe ?_
                    refine pv_i ?_
                    refine wp_zastore dX9_summedUp_399 tt344 (by omega) (by omega) mJoin_R ?_
                    refine ii_7 dX9_summedUp_400 rfl (by decide) ⟨by decide, by decide⟩ (r32 (by omega) (by omega)) ?_
                    refine wp_goto 38 dX9_summedUp_403 rfl ?_
                    refine wp_fg (ls' := [_, _, _, _, _, _, _, _, vn, vn]) ⟨Or.inr rfl, Or.inr rfl, Or.inr rfl, Or.inr rfl, Or.inr rfl, Or.inr rfl, Or.inr rfl, Or.inr rfl, Or.inl rfl, Or.inl rfl, trivial⟩ ?_
                    first
                      | exact ih (i + 1) _ _ _ _ _ _ (by omega) (by omega) hr hE (by simp only [List.length_cons]; omega) (by omega) (SRup hS (by omega)) hT
                      | exact ih (i + 1) _ _ _ _ _ _ (by omega) (by omega) hr hE (by simp only [List.length_cons]; omega) (by omega) (SRup hS.2 (by omega)) hT
                      | exact ih (i + 1) _ _ _ _ _ _ (by omega) (by omega) hr hE (by simp only [List.length_cons]; omega) (by omega) hS.2 hT.2
                      | exact ih (i + 1) _ _ _ _ _ _ (by omega) (by omega) hr hE (by simp only [List.length_cons]; omega) (by omega) (SRup hS.2.2 (by omega)) hT.2
                      | exact ih (i + 1) _ _ _ _ _ _ (by omega) (by omega) hr hE (by simp only [List.length_cons]; omega) (by omega) (SRup hS.2.2 (by omega)) hT
                      | exact ih (i + 1) _ _ _ _ _ _ (by omega) (by omega) hr (hE.up (by decide)) (by omega) (by simp only [List.length_cons]; omega) hS.2.2 (SRup hT (by omega))
                      | exact ih (i + 1) _ _ _ _ _ _ (by omega) (by omega) hr (hE.up (by decide)) (by omega) (by simp only [List.length_cons]; omega) hS (SRup hT.2 (by omega))
                      | exact ih (i + 1) _ _ _ _ _ _ (by omega) (by omega) hr (hE.up (by decide)) (by omega) (by simp only [List.length_cons]; omega) hS (SRup hT.2.2 (by omega))
                  · obtain ⟨a, ts1, rfl⟩ := ne1 (st := ts) (by unfold mAr at o5; omega)
                    simp only [List.length_cons] at hm o2
                    rw [ms_not c335] at hr
                    refine al_0 dX9_summedUp_338 ?_
                    refine g_X9_39 (344) dX9_summedUp_339 rfl tt336 (rr9_22 tt336) (by omega) ?_
                    refine il_6 dX9_summedUp_342 ?_
                    refine ic_1 dX9_summedUp_344 ?_
                    refine wp_isub dX9_summedUp_345 (r32 (by omega) (by omega)) ?_
                    refine al_0 dX9_summedUp_346 ?_
                    refine g_X9_39 (344) dX9_summedUp_347 rfl tt336 (rr9_22 tt336) (by omega) ?_
                    refine il_6 dX9_summedUp_350 ?_
                    refine ic_1 dX9_summedUp_352 ?_
                    refine wp_isub dX9_summedUp_353 (r32 (by omega) (by omega)) ?_
                    refine wp_zaload dX9_summedUp_354 tt344 (by omega) (by omega) ?_
                    rw [SR_top hT (by omega)]
                    refine wp_if_ne 362 dX9_summedUp_355 rfl (fun c355 => ?_) (fun c355 => ?_)
                    · rw [b2i_f c355] at hr
                      refine ic_0 dX9_summedUp_362 ?_
                      refine wp_zastore dX9_summedUp_363 tt344 (by omega) (by omega) (by omega) ?_
                      refine wp_goto 400 dX9_summedUp_364 rfl ?_
                      refine ii_7 dX9_summedUp_400 rfl (by decide) ⟨by decide, by decide⟩ (r32 (by omega) (by omega)) ?_
                      refine wp_goto 38 dX9_summedUp_403 rfl ?_
                      refine wp_fg (ls' := [_, _, _, _, _, _, _, _, vn, vn]) ⟨Or.inr rfl, Or.inr rfl, Or.inr rfl, Or.inr rfl, Or.inr rfl, Or.inr rfl, Or.inr rfl, Or.inr rfl, Or.inl rfl, Or.inl rfl, trivial⟩ ?_
                      first
                        | exact ih (i + 1) _ _ _ _ _ _ (by omega) (by omega) hr hE (by simp only [List.length_cons]; omega) (by omega) (SRup hS (by omega)) hT
                        | exact ih (i + 1) _ _ _ _ _ _ (by omega) (by omega) hr hE (by simp only [List.length_cons]; omega) (by omega) (SRup hS.2 (by omega)) hT
                        | exact ih (i + 1) _ _ _ _ _ _ (by omega) (by omega) hr hE (by simp only [List.length_cons]; omega) (by omega) hS.2 hT.2
                        | exact ih (i + 1) _ _ _ _ _ _ (by omega) (by omega) hr hE (by simp only [List.length_cons]; omega) (by omega) (SRup hS.2.2 (by omega)) hT.2
                        | exact ih (i + 1) _ _ _ _ _ _ (by omega) (by omega) hr hE (by simp only [List.length_cons]; omega) (by omega) (SRup hS.2.2 (by omega)) hT
                        | exact ih (i + 1) _ _ _ _ _ _ (by omega) (by omega) hr (hE.up (by decide)) (by omega) (by simp only [List.length_cons]; omega) hS.2.2 (SRup hT (by omega))
                        | exact ih (i + 1) _ _ _ _ _ _ (by omega) (by omega) hr (hE.up (by decide)) (by omega) (by simp only [List.length_cons]; omega) hS (SRup hT.2 (by omega))
                        | exact ih (i + 1) _ _ _ _ _ _ (by omega) (by omega) hr (hE.up (by decide)) (by omega) (by simp only [List.length_cons]; omega) hS (SRup hT.2.2 (by omega))
                    · rw [b2i_t c355] at hr
                      refine ic_1 dX9_summedUp_358 ?_
                      refine wp_goto 363 dX9_summedUp_359 rfl ?_
                      refine wp_zastore dX9_summedUp_363 tt344 (by omega) (by omega) (by omega) ?_
                      refine wp_goto 400 dX9_summedUp_364 rfl ?_
                      refine ii_7 dX9_summedUp_400 rfl (by decide) ⟨by decide, by decide⟩ (r32 (by omega) (by omega)) ?_
                      refine wp_goto 38 dX9_summedUp_403 rfl ?_
                      refine wp_fg (ls' := [_, _, _, _, _, _, _, _, vn, vn]) ⟨Or.inr rfl, Or.inr rfl, Or.inr rfl, Or.inr rfl, Or.inr rfl, Or.inr rfl, Or.inr rfl, Or.inr rfl, Or.inl rfl, Or.inl rfl, trivial⟩ ?_
                      first
                        | exact ih (i + 1) _ _ _ _ _ _ (by omega) (by omega) hr hE (by simp only [List.length_cons]; omega) (by omega) (SRup hS (by omega)) hT
                        | exact ih (i + 1) _ _ _ _ _ _ (by omega) (by omega) hr hE (by simp only [List.length_cons]; omega) (by omega) (SRup hS.2 (by omega)) hT
                        | exact ih (i + 1) _ _ _ _ _ _ (by omega) (by omega) hr hE (by simp only [List.length_cons]; omega) (by omega) hS.2 hT.2
                        | exact ih (i + 1) _ _ _ _ _ _ (by omega) (by omega) hr hE (by simp only [List.length_cons]; omega) (by omega) (SRup hS.2.2 (by omega)) hT.2
                        | exact ih (i + 1) _ _ _ _ _ _ (by omega) (by omega) hr hE (by simp only [List.length_cons]; omega) (by omega) (SRup hS.2.2 (by omega)) hT
                        | exact ih (i + 1) _ _ _ _ _ _ (by omega) (by omega) hr (hE.up (by decide)) (by omega) (by simp only [List.length_cons]; omega) hS.2.2 (SRup hT (by omega))
                        | exact ih (i + 1) _ _ _ _ _ _ (by omega) (by omega) hr (hE.up (by decide)) (by omega) (by simp only [List.length_cons]; omega) hS (SRup hT.2 (by omega))
                        | exact ih (i + 1) _ _ _ _ _ _ (by omega) (by omega) hr (hE.up (by decide)) (by omega) (by simp only [List.length_cons]; omega) hS (SRup hT.2.2 (by omega))
                · have oe : 10 ≤ C (2 * i) ∧ C (2 * i) ≤ 15 := by unfold mAr at o5; omega
                  obtain ⟨z, vs1, rfl⟩ := ne1 (st := vs) (by unfold mAr at o5; omega)
                  obtain ⟨x, tt, rfl⟩ := ne1 (st := vs1) (by unfold mAr at o5; simp only [List.length_cons] at o5; omega)
                  simp only [List.length_cons] at hn o1
                  have ox : MI x := o3 x (by simp)
                  have oz : MI z := o3 z (by simp)
                  rw [ms_ask oe.1 (by omega)] at hr
                  refine ii_5 dX9_summedUp_294 rfl (by decide) ⟨by decide, by decide⟩ (r32 (by omega) (by omega)) ?_
                  refine al_0 dX9_summedUp_297 ?_
                  refine g_X9_39 (344) dX9_summedUp_298 rfl tt336 (rr9_22 tt336) (by omega) ?_
                  refine il_6 dX9_summedUp_301 ?_
                  refine il_8 dX9_summedUp_303 ?_
                  refine al_0 dX9_summedUp_305 ?_
                  refine g_X9_35 (343) dX9_summedUp_306 rfl tt336 (rr9_21 tt336) (by omega) ?_
                  refine il_5 dX9_summedUp_309 ?_
                  refine wp_laload dX9_summedUp_311 tt343 (by omega) (by omega) ?_
                  rw [SR_snd hS (by omega)]
                  refine al_0 dX9_summedUp_312 ?_
                  refine g_X9_35 (343) dX9_summedUp_313 rfl tt336 (rr9_21 tt336) (by omega) ?_
                  refine il_5 dX9_summedUp_316 ?_
                  refine ic_1 dX9_summedUp_318 ?_
                  refine wp_iadd dX9_summedUp_319 (r32 (by omega) (by omega)) ?_
                  refine wp_laload dX9_summedUp_320 tt343 (by omega) (by omega) ?_
                  rw [SR_top hS (by simp only [List.length_cons]; omega)]
                  refine c_X9_283 dX9_summedUp_321 rfl (Nat.le_of_ble_eq_true rfl) (by omega) ?_
                  refine wX9_isAsked (by omega) oe ?_
                  refine pv_i ?_
                  refine wp_zastore dX9_summedUp_324 tt344 (by omega) (by omega) (askR oe.1 oe.2) ?_
                  refine ii_6 dX9_summedUp_325 rfl (by decide) ⟨by decide, by decide⟩ (r32 (by omega) (by omega)) ?_
                  refine wp_goto 400 dX9_summedUp_328 rfl ?_
                  refine ii_7 dX9_summedUp_400 rfl (by decide) ⟨by decide, by decide⟩ (r32 (by omega) (by omega)) ?_
                  refine wp_goto 38 dX9_summedUp_403 rfl ?_
                  refine wp_fg (ls' := [_, _, _, _, _, _, _, _, vn, vn]) ⟨Or.inr rfl, Or.inr rfl, Or.inr rfl, Or.inr rfl, Or.inr rfl, Or.inr rfl, Or.inr rfl, Or.inr rfl, Or.inl rfl, Or.inl rfl, trivial⟩ ?_
                  first
                    | exact ih (i + 1) _ _ _ _ _ _ (by omega) (by omega) hr hE (by simp only [List.length_cons]; omega) (by omega) (SRup hS (by omega)) hT
                    | exact ih (i + 1) _ _ _ _ _ _ (by omega) (by omega) hr hE (by simp only [List.length_cons]; omega) (by omega) (SRup hS.2 (by omega)) hT
                    | exact ih (i + 1) _ _ _ _ _ _ (by omega) (by omega) hr hE (by simp only [List.length_cons]; omega) (by omega) hS.2 hT.2
                    | exact ih (i + 1) _ _ _ _ _ _ (by omega) (by omega) hr hE (by simp only [List.length_cons]; omega) (by omega) (SRup hS.2.2 (by omega)) hT.2
                    | exact ih (i + 1) _ _ _ _ _ _ (by omega) (by omega) hr hE (by simp only [List.length_cons]; omega) (by omega) (SRup hS.2.2 (by omega)) hT
                    | exact ih (i + 1) _ _ _ _ _ _ (by omega) (by omega) hr (hE.up (by decide)) (by omega) (by simp only [List.length_cons]; omega) hS.2.2 (SRup hT (by omega))
                    | exact ih (i + 1) _ _ _ _ _ _ (by omega) (by omega) hr (hE.up (by decide)) (by omega) (by simp only [List.length_cons]; omega) hS (SRup hT.2 (by omega))
                    | exact ih (i + 1) _ _ _ _ _ _ (by omega) (by omega) hr (hE.up (by decide)) (by omega) (by simp only [List.length_cons]; omega) hS (SRup hT.2.2 (by omega))
              · obtain ⟨z, vs1, rfl⟩ := ne1 (st := vs) (by unfold mAr at o5; omega)
                obtain ⟨x, tt, rfl⟩ := ne1 (st := vs1) (by unfold mAr at o5; simp only [List.length_cons] at o5; omega)
                simp only [List.length_cons] at hn o1
                have ox : MI x := o3 x (by simp)
                have oz : MI z := o3 z (by simp)
                refine ii_5 dX9_summedUp_223 rfl (by decide) ⟨by decide, by decide⟩ (r32 (by omega) (by omega)) ?_
                refine al_0 dX9_summedUp_226 ?_
                refine g_X9_35 (343) dX9_summedUp_227 rfl tt336 (rr9_21 tt336) (by omega) ?_
                refine il_5 dX9_summedUp_230 ?_
                refine ic_1 dX9_summedUp_232 ?_
                refine wp_isub dX9_summedUp_233 (r32 (by omega) (by omega)) ?_
                refine il_8 dX9_summedUp_234 ?_
                refine ic_4 dX9_summedUp_236 ?_
                refine wp_icmp_ne 262 dX9_summedUp_237 rfl (fun c237 => ?_) (fun c237 => ?_)
                · have oe : 6 ≤ C (2 * i) ∧ C (2 * i) ≤ 9 := by unfold mAr at o5; omega
                  rw [ms_two oe.1 (by omega)] at hr
                  refine il_8 dX9_summedUp_262 ?_
                  refine al_0 dX9_summedUp_264 ?_
                  refine g_X9_35 (343) dX9_summedUp_265 rfl tt336 (rr9_21 tt336) (by omega) ?_
                  refine il_5 dX9_summedUp_268 ?_
                  refine ic_1 dX9_summedUp_270 ?_
                  refine wp_isub dX9_summedUp_271 (r32 (by omega) (by omega)) ?_
                  refine wp_laload dX9_summedUp_272 tt343 (by omega) (by omega) ?_
                  rw [SR_snd hS (by omega)]
                  refine al_0 dX9_summedUp_273 ?_
                  refine g_X9_35 (343) dX9_summedUp_274 rfl tt336 (rr9_21 tt336) (by omega) ?_
                  refine il_5 dX9_summedUp_277 ?_
                  refine wp_laload dX9_summedUp_279 tt343 (by omega) (by omega) ?_
                  rw [SR_top hS (by simp only [List.length_cons]; omega)]
                  refine c_X9_279 dX9_summedUp_280 rfl (Nat.le_of_ble_eq_true rfl) (by omega) ?_
                  refine wX9_two (by omega) oe ox oz ?_
                  refine pv_l ?_
                  refine wp_lastore dX9_summedUp_283 tt343 (by omega) (by omega) ?_
                  refine wp_goto 400 dX9_summedUp_284 rfl ?_
                  refine ii_7 dX9_summedUp_400 rfl (by decide) ⟨by decide, by decide⟩ (r32 (by omega) (by omega)) ?_
                  refine wp_goto 38 dX9_summedUp_403 rfl ?_
                  refine wp_fg (ls' := [_, _, _, _, _, _, _, _, vn, vn]) ⟨Or.inr rfl, Or.inr rfl, Or.inr rfl, Or.inr rfl, Or.inr rfl, Or.inr rfl, Or.inr rfl, Or.inr rfl, Or.inl rfl, Or.inl rfl, trivial⟩ ?_
                  first
                    | exact ih (i + 1) _ _ _ _ _ _ (by omega) (by omega) hr hE (by simp only [List.length_cons]; omega) (by omega) (SRup hS (by omega)) hT
                    | exact ih (i + 1) _ _ _ _ _ _ (by omega) (by omega) hr hE (by simp only [List.length_cons]; omega) (by omega) (SRup hS.2 (by omega)) hT
                    | exact ih (i + 1) _ _ _ _ _ _ (by omega) (by omega) hr hE (by simp only [List.length_cons]; omega) (by omega) hS.2 hT.2
                    | exact ih (i + 1) _ _ _ _ _ _ (by omega) (by omega) hr hE (by simp only [List.length_cons]; omega) (by omega) (SRup hS.2.2 (by omega)) hT.2
                    | exact ih (i + 1) _ _ _ _ _ _ (by omega) (by omega) hr hE (by simp only [List.length_cons]; omega) (by omega) (SRup hS.2.2 (by omega)) hT
                    | exact ih (i + 1) _ _ _ _ _ _ (by omega) (by omega) hr (hE.up (by decide)) (by omega) (by simp only [List.length_cons]; omega) hS.2.2 (SRup hT (by omega))
                    | exact ih (i + 1) _ _ _ _ _ _ (by omega) (by omega) hr (hE.up (by decide)) (by omega) (by simp only [List.length_cons]; omega) hS (SRup hT.2 (by omega))
                    | exact ih (i + 1) _ _ _ _ _ _ (by omega) (by omega) hr (hE.up (by decide)) (by omega) (by simp only [List.length_cons]; omega) hS (SRup hT.2.2 (by omega))
                · rw [ms_ar c237] at hr
                  refine al_0 dX9_summedUp_240 ?_
                  refine g_X9_35 (343) dX9_summedUp_241 rfl tt336 (rr9_21 tt336) (by omega) ?_
                  refine il_5 dX9_summedUp_244 ?_
                  refine ic_1 dX9_summedUp_246 ?_
                  refine wp_isub dX9_summedUp_247 (r32 (by omega) (by omega)) ?_
                  refine wp_laload dX9_summedUp_248 tt343 (by omega) (by omega) ?_
                  rw [SR_snd hS (by omega)]
                  refine al_0 dX9_summedUp_249 ?_
                  refine g_X9_35 (343) dX9_summedUp_250 rfl tt336 (rr9_21 tt336) (by omega) ?_
                  refine il_5 dX9_summedUp_253 ?_
                  refine wp_laload dX9_summedUp_255 tt343 (by omega) (by omega) ?_
                  rw [SR_top hS (by simp only [List.length_cons]; omega)]
                  refine c_X9_275 dX9_summedUp_256 rfl (Nat.le_of_ble_eq_true rfl) (by omega) ?_
                  refine wX9_roundOf (by omega) ?_
                  refine pv_l ?_
                  refine wp_goto 283 dX9_summedUp_259 rfl ?_
                  refine wp_lastore dX9_summedUp_283 tt343 (by omega) (by omega) ?_
                  refine wp_goto 400 dX9_summedUp_284 rfl ?_
                  refine ii_7 dX9_summedUp_400 rfl (by decide) ⟨by decide, by decide⟩ (r32 (by omega) (by omega)) ?_
                  refine wp_goto 38 dX9_summedUp_403 rfl ?_
                  refine wp_fg (ls' := [_, _, _, _, _, _, _, _, vn, vn]) ⟨Or.inr rfl, Or.inr rfl, Or.inr rfl, Or.inr rfl, Or.inr rfl, Or.inr rfl, Or.inr rfl, Or.inr rfl, Or.inl rfl, Or.inl rfl, trivial⟩ ?_
                  first
                    | exact ih (i + 1) _ _ _ _ _ _ (by omega) (by omega) hr hE (by simp only [List.length_cons]; omega) (by omega) (SRup hS (by omega)) hT
                    | exact ih (i + 1) _ _ _ _ _ _ (by omega) (by omega) hr hE (by simp only [List.length_cons]; omega) (by omega) (SRup hS.2 (by omega)) hT
                    | exact ih (i + 1) _ _ _ _ _ _ (by omega) (by omega) hr hE (by simp only [List.length_cons]; omega) (by omega) hS.2 hT.2
                    | exact ih (i + 1) _ _ _ _ _ _ (by omega) (by omega) hr hE (by simp only [List.length_cons]; omega) (by omega) (SRup hS.2.2 (by omega)) hT.2
                    | exact ih (i + 1) _ _ _ _ _ _ (by omega) (by omega) hr hE (by simp only [List.length_cons]; omega) (by omega) (SRup hS.2.2 (by omega)) hT
                    | exact ih (i + 1) _ _ _ _ _ _ (by omega) (by omega) hr (hE.up (by decide)) (by omega) (by simp only [List.length_cons]; omega) hS.2.2 (SRup hT (by omega))
                    | exact ih (i + 1) _ _ _ _ _ _ (by omega) (by omega) hr (hE.up (by decide)) (by omega) (by simp only [List.length_cons]; omega) hS (SRup hT.2 (by omega))
                    | exact ih (i + 1) _ _ _ _ _ _ (by omega) (by omega) hr (hE.up (by decide)) (by omega) (by simp only [List.length_cons]; omega) hS (SRup hT.2.2 (by omega))
            · obtain ⟨x, tt, rfl⟩ := ne1 (st := vs) (by unfold mAr at o5; omega)
              simp only [List.length_cons] at hn o1
              refine al_0 dX9_summedUp_172 ?_
              refine g_X9_35 (343) dX9_summedUp_173 rfl tt336 (rr9_21 tt336) (by omega) ?_
              refine il_5 dX9_summedUp_176 ?_
              refine ic_1 dX9_summedUp_178 ?_
              refine wp_isub dX9_summedUp_179 (r32 (by omega) (by omega)) ?_
              refine il_8 dX9_summedUp_180 ?_
              refine ic_5 dX9_summedUp_182 ?_
              refine wp_icmp_ne 199 dX9_summedUp_183 rfl (fun c183 => ?_) (fun c183 => ?_)
              · have oe : C (2 * i) = 2 := by unfold mAr at o5; omega
                rw [ms_lamp oe] at hr
                refine al_0 dX9_summedUp_199 ?_
                refine al_0 dX9_summedUp_200 ?_
                refine g_X9_35 (343) dX9_summedUp_201 rfl tt336 (rr9_21 tt336) (by omega) ?_
                refine il_5 dX9_summedUp_204 ?_
                refine ic_1 dX9_summedUp_206 ?_
                refine wp_isub dX9_summedUp_207 (r32 (by omega) (by omega)) ?_
                refine wp_laload dX9_summedUp_208 tt343 (by omega) (by omega) ?_
                rw [SR_top hS (by omega)]
                refine c_X9_272 dX9_summedUp_209 rfl tt336 (Nat.le_of_ble_eq_true rfl) (by omega) ?_
                have q10 : ∀ h2 : Nat → Int → Int, h2 337 = h 337 → h2 337 10 = h 337 10 := fun _ e => by rw [e]
                have e10 : h 337 10 = lit := by rw [hE 337 (by decide), hlit]
                refine wX9_lampLit (by omega) (by omega) (by omega) ?_
                rw [e10]
                refine pv_l ?_
                refine wp_lastore dX9_summedUp_212 tt343 (by omega) (by omega) ?_
                refine wp_goto 400 dX9_summedUp_213 rfl ?_
                refine ii_7 dX9_summedUp_400 rfl (by decide) ⟨by decide, by decide⟩ (r32 (by omega) (by omega)) ?_
                refine wp_goto 38 dX9_summedUp_403 rfl ?_
                refine wp_fg (ls' := [_, _, _, _, _, _, _, _, vn, vn]) ⟨Or.inr rfl, Or.inr rfl, Or.inr rfl, Or.inr rfl, Or.inr rfl, Or.inr rfl, Or.inr rfl, Or.inr rfl, Or.inl rfl, Or.inl rfl, trivial⟩ ?_
                first
                  | exact ih (i + 1) _ _ _ _ _ _ (by omega) (by omega) hr hE (by simp only [List.length_cons]; omega) (by omega) (SRup hS (by omega)) hT
                  | exact ih (i + 1) _ _ _ _ _ _ (by omega) (by omega) hr hE (by simp only [List.length_cons]; omega) (by omega) (SRup hS.2 (by omega)) hT
                  | exact ih (i + 1) _ _ _ _ _ _ (by omega) (by omega) hr hE (by simp only [List.length_cons]; omega) (by omega) hS.2 hT.2
                  | exact ih (i + 1) _ _ _ _ _ _ (by omega) (by omega) hr hE (by simp only [List.length_cons]; omega) (by omega) (SRup hS.2.2 (by omega)) hT.2
                  | exact ih (i + 1) _ _ _ _ _ _ (by omega) (by omega) hr hE (by simp only [List.length_cons]; omega) (by omega) (SRup hS.2.2 (by omega)) hT
                  | exact ih (i + 1) _ _ _ _ _ _ (by omega) (by omega) hr (hE.up (by decide)) (by omega) (by simp only [List.length_cons]; omega) hS.2.2 (SRup hT (by omega))
                  | exact ih (i + 1) _ _ _ _ _ _ (by omega) (by omega) hr (hE.up (by decide)) (by omega) (by simp only [List.length_cons]; omega) hS (SRup hT.2 (by omega))
                  | exact ih (i + 1) _ _ _ _ _ _ (by omega) (by omega) hr (hE.up (by decide)) (by omega) (by simp only [List.length_cons]; omega) hS (SRup hT.2.2 (by omega))
              · rw [ms_neg c183] at hr
                refine al_0 dX9_summedUp_186 ?_
                refine g_X9_35 (343) dX9_summedUp_187 rfl tt336 (rr9_21 tt336) (by omega) ?_
                refine il_5 dX9_summedUp_190 ?_
                refine ic_1 dX9_summedUp_192 ?_
                refine wp_isub dX9_summedUp_193 (r32 (by omega) (by omega)) ?_
                refine wp_laload dX9_summedUp_194 tt343 (by omega) (by omega) ?_
                rw [SR_top hS (by omega)]
                refine wp_lneg dX9_summedUp_195 (by have ox := o3 x (by simp); unfold MI at ox; exact r64 (by omega) (by omega)) ?_
                refine wp_goto 212 dX9_summedUp_196 rfl ?_
                refine wp_lastore dX9_summedUp_212 tt343 (by omega) (by omega) ?_
                refine wp_goto 400 dX9_summedUp_213 rfl ?_
                refine ii_7 dX9_summedUp_400 rfl (by decide) ⟨by decide, by decide⟩ (r32 (by omega) (by omega)) ?_
                refine wp_goto 38 dX9_summedUp_403 rfl ?_
                refine wp_fg (ls' := [_, _, _, _, _, _, _, _, vn, vn]) ⟨Or.inr rfl, Or.inr rfl, Or.inr rfl, Or.inr rfl, Or.inr rfl, Or.inr rfl, Or.inr rfl, Or.inr rfl, Or.inl rfl, Or.inl rfl, trivial⟩ ?_
                first
                  | exact ih (i + 1) _ _ _ _ _ _ (by omega) (by omega) hr hE (by simp only [List.length_cons]; omega) (by omega) (SRup hS (by omega)) hT
                  | exact ih (i + 1) _ _ _ _ _ _ (by omega) (by omega) hr hE (by simp only [List.length_cons]; omega) (by omega) (SRup hS.2 (by omega)) hT
                  | exact ih (i + 1) _ _ _ _ _ _ (by omega) (by omega) hr hE (by simp only [List.length_cons]; omega) (by omega) hS.2 hT.2
                  | exact ih (i + 1) _ _ _ _ _ _ (by omega) (by omega) hr hE (by simp only [List.length_cons]; omega) (by omega) (SRup hS.2.2 (by omega)) hT.2
                  | exact ih (i + 1) _ _ _ _ _ _ (by omega) (by omega) hr hE (by simp only [List.length_cons]; omega) (by omega) (SRup hS.2.2 (by omega)) hT
                  | exact ih (i + 1) _ _ _ _ _ _ (by omega) (by omega) hr (hE.up (by decide)) (by omega) (by simp only [List.length_cons]; omega) hS.2.2 (SRup hT (by omega))
                  | exact ih (i + 1) _ _ _ _ _ _ (by omega) (by omega) hr (hE.up (by decide)) (by omega) (by simp only [List.length_cons]; omega) hS (SRup hT.2 (by omega))
                  | exact ih (i + 1) _ _ _ _ _ _ (by omega) (by omega) hr (hE.up (by decide)) (by omega) (by simp only [List.length_cons]; omega) hS (SRup hT.2.2 (by omega))
        · obtain ⟨z, vs1, rfl⟩ := ne1 (st := vs) (by unfold mAr at o5; omega)
          obtain ⟨x, tt, rfl⟩ := ne1 (st := vs1) (by unfold mAr at o5; simp only [List.length_cons] at o5; omega)
          obtain ⟨a, ts1, rfl⟩ := ne1 (st := ts) (by unfold mAr at o5; omega)
          simp only [List.length_cons] at hn o1 hm o2
          refine ii_5 dX9_summedUp_125 rfl (by decide) ⟨by decide, by decide⟩ (r32 (by omega) (by omega)) ?_
          refine ii_6 dX9_summedUp_128 rfl (by decide) ⟨by decide, by decide⟩ (r32 (by omega) (by omega)) ?_
          refine al_0 dX9_summedUp_131 ?_
          refine g_X9_39 (344) dX9_summedUp_132 rfl tt336 (rr9_22 tt336) (by omega) ?_
          refine il_6 dX9_summedUp_135 ?_
          refine wp_zaload dX9_summedUp_137 tt344 (by omega) (by omega) ?_
          rw [SR_top hT (by omega)]
          refine wp_if_ne 400 dX9_summedUp_138 rfl (fun c138 => ?_) (fun c138 => ?_)
          · rw [ms_sel1 c122 c138] at hr
            refine ii_7 dX9_summedUp_400 rfl (by decide) ⟨by decide, by decide⟩ (r32 (by omega) (by omega)) ?_
            refine wp_goto 38 dX9_summedUp_403 rfl ?_
            refine wp_fg (ls' := [_, _, _, _, _, _, _, _, vn, vn]) ⟨Or.inr rfl, Or.inr rfl, Or.inr rfl, Or.inr rfl, Or.inr rfl, Or.inr rfl, Or.inr rfl, Or.inr rfl, Or.inl rfl, Or.inl rfl, trivial⟩ ?_
            first
              | exact ih (i + 1) _ _ _ _ _ _ (by omega) (by omega) hr hE (by simp only [List.length_cons]; omega) (by omega) (SRup hS (by omega)) hT
              | exact ih (i + 1) _ _ _ _ _ _ (by omega) (by omega) hr hE (by simp only [List.length_cons]; omega) (by omega) (SRup hS.2 (by omega)) hT
              | exact ih (i + 1) _ _ _ _ _ _ (by omega) (by omega) hr hE (by simp only [List.length_cons]; omega) (by omega) hS.2 hT.2
              | exact ih (i + 1) _ _ _ _ _ _ (by omega) (by omega) hr hE (by simp only [List.length_cons]; omega) (by omega) (SRup hS.2.2 (by omega)) hT.2
              | exact ih (i + 1) _ _ _ _ _ _ (by omega) (by omega) hr hE (by simp only [List.length_cons]; omega) (by omega) (SRup hS.2.2 (by omega)) hT
              | exact ih (i + 1) _ _ _ _ _ _ (by omega) (by omega) hr (hE.up (by decide)) (by omega) (by simp only [List.length_cons]; omega) hS.2.2 (SRup hT (by omega))
              | exact ih (i + 1) _ _ _ _ _ _ (by omega) (by omega) hr (hE.up (by decide)) (by omega) (by simp only [List.length_cons]; omega) hS (SRup hT.2 (by omega))
              | exact ih (i + 1) _ _ _ _ _ _ (by omega) (by omega) hr (hE.up (by decide)) (by omega) (by simp only [List.length_cons]; omega) hS (SRup hT.2.2 (by omega))
          · rw [ms_sel0 c122 c138] at hr
            refine al_0 dX9_summedUp_141 ?_
            refine g_X9_35 (343) dX9_summedUp_142 rfl tt336 (rr9_21 tt336) (by omega) ?_
            refine il_5 dX9_summedUp_145 ?_
            refine ic_1 dX9_summedUp_147 ?_
            refine wp_isub dX9_summedUp_148 (r32 (by omega) (by omega)) ?_
            refine al_0 dX9_summedUp_149 ?_
            refine g_X9_35 (343) dX9_summedUp_150 rfl tt336 (rr9_21 tt336) (by omega) ?_
            refine il_5 dX9_summedUp_153 ?_
            refine wp_laload dX9_summedUp_155 tt343 (by omega) (by omega) ?_
            rw [SR_top hS (by simp only [List.length_cons]; omega)]
            refine wp_lastore dX9_summedUp_156 tt343 (by omega) (by omega) ?_
            refine wp_goto 400 dX9_summedUp_157 rfl ?_
            refine ii_7 dX9_summedUp_400 rfl (by decide) ⟨by decide, by decide⟩ (r32 (by omega) (by omega)) ?_
            refine wp_goto 38 dX9_summedUp_403 rfl ?_
            refine wp_fg (ls' := [_, _, _, _, _, _, _, _, vn, vn]) ⟨Or.inr rfl, Or.inr rfl, Or.inr rfl, Or.inr rfl, Or.inr rfl, Or.inr rfl, Or.inr rfl, Or.inr rfl, Or.inl rfl, Or.inl rfl, trivial⟩ ?_
            first
              | exact ih (i + 1) _ _ _ _ _ _ (by omega) (by omega) hr hE (by simp only [List.length_cons]; omega) (by omega) (SRup hS (by omega)) hT
              | exact ih (i + 1) _ _ _ _ _ _ (by omega) (by omega) hr hE (by simp only [List.length_cons]; omega) (by omega) (SRup hS.2 (by omega)) hT
              | exact ih (i + 1) _ _ _ _ _ _ (by omega) (by omega) hr hE (by simp only [List.length_cons]; omega) (by omega) hS.2 hT.2
              | exact ih (i + 1) _ _ _ _ _ _ (by omega) (by omega) hr hE (by simp only [List.length_cons]; omega) (by omega) (SRup hS.2.2 (by omega)) hT.2
              | exact ih (i + 1) _ _ _ _ _ _ (by omega) (by omega) hr hE (by simp only [List.length_cons]; omega) (by omega) (SRup hS.2.2 (by omega)) hT
              | exact ih (i + 1) _ _ _ _ _ _ (by omega) (by omega) hr (hE.up (by decide)) (by omega) (by simp only [List.length_cons]; omega) hS.2.2 (SRup hT (by omega))
              | exact ih (i + 1) _ _ _ _ _ _ (by omega) (by omega) hr (hE.up (by decide)) (by omega) (by simp only [List.length_cons]; omega) hS (SRup hT.2 (by omega))
              | exact ih (i + 1) _ _ _ _ _ _ (by omega) (by omega) hr (hE.up (by decide)) (by omega) (by simp only [List.length_cons]; omega) hS (SRup hT.2.2 (by omega))
      · have os : C (2 * i) = 0 ∨ C (2 * i) = 1 := by unfold mAr at o5; omega
        refine al_0 dX9_summedUp_87 ?_
        refine g_X9_35 (343) dX9_summedUp_88 rfl tt336 (rr9_21 tt336) (by omega) ?_
        refine il_5 dX9_summedUp_91 ?_
        refine il_8 dX9_summedUp_93 ?_
        refine wp_if_ne 104 dX9_summedUp_95 rfl (fun c95 => ?_) (fun c95 => ?_)
        · have oe : C (2 * i) = 1 := by omega
          have ov : 0 ≤ C (2 * i + 1) ∧ C (2 * i + 1) ≤ 9 := by unfold mAr at o5; omega
          rw [ms_nam oe] at hr
          refine al_0 dX9_summedUp_104 ?_
          refine g_X9_32 (342) dX9_summedUp_105 rfl tt336 (rr9_20 tt336) (by omega) ?_
          refine il_9 dX9_summedUp_108 ?_
          refine wp_iaload dX9_summedUp_110 tt342 (by omega) (by omega) ?_
          rw [hE 342 (by decide), hnm]
          refine wp_i2l dX9_summedUp_111 ?_
          refine wp_lastore dX9_summedUp_112 tt343 (by omega) (by omega) ?_
          refine ii_5 dX9_summedUp_113 rfl (by decide) ⟨by decide, by decide⟩ (r32 (by omega) (by omega)) ?_
          refine wp_goto 400 dX9_summedUp_116 rfl ?_
          refine ii_7 dX9_summedUp_400 rfl (by decide) ⟨by decide, by decide⟩ (r32 (by omega) (by omega)) ?_
          refine wp_goto 38 dX9_summedUp_403 rfl ?_
          refine wp_fg (ls' := [_, _, _, _, _, _, _, _, vn, vn]) ⟨Or.inr rfl, Or.inr rfl, Or.inr rfl, Or.inr rfl, Or.inr rfl, Or.inr rfl, Or.inr rfl, Or.inr rfl, Or.inl rfl, Or.inl rfl, trivial⟩ ?_
          first
            | exact ih (i + 1) _ _ _ _ _ _ (by omega) (by omega) hr hE (by simp only [List.length_cons]; omega) (by omega) (SRup hS (by omega)) hT
            | exact ih (i + 1) _ _ _ _ _ _ (by omega) (by omega) hr hE (by simp only [List.length_cons]; omega) (by omega) (SRup hS.2 (by omega)) hT
            | exact ih (i + 1) _ _ _ _ _ _ (by omega) (by omega) hr hE (by simp only [List.length_cons]; omega) (by omega) hS.2 hT.2
            | exact ih (i + 1) _ _ _ _ _ _ (by omega) (by omega) hr hE (by simp only [List.length_cons]; omega) (by omega) (SRup hS.2.2 (by omega)) hT.2
            | exact ih (i + 1) _ _ _ _ _ _ (by omega) (by omega) hr hE (by simp only [List.length_cons]; omega) (by omega) (SRup hS.2.2 (by omega)) hT
            | exact ih (i + 1) _ _ _ _ _ _ (by omega) (by omega) hr (hE.up (by decide)) (by omega) (by simp only [List.length_cons]; omega) hS.2.2 (SRup hT (by omega))
            | exact ih (i + 1) _ _ _ _ _ _ (by omega) (by omega) hr (hE.up (by decide)) (by omega) (by simp only [List.length_cons]; omega) hS (SRup hT.2 (by omega))
            | exact ih (i + 1) _ _ _ _ _ _ (by omega) (by omega) hr (hE.up (by decide)) (by omega) (by simp only [List.length_cons]; omega) hS (SRup hT.2.2 (by omega))
        · rw [ms_num c95] at hr
          refine il_9 dX9_summedUp_98 ?_
          refine wp_i2l dX9_summedUp_100 ?_
          refine wp_goto 112 dX9_summedUp_101 rfl ?_
          refine wp_lastore dX9_summedUp_112 tt343 (by omega) (by omega) ?_
          refine ii_5 dX9_summedUp_113 rfl (by decide) ⟨by decide, by decide⟩ (r32 (by omega) (by omega)) ?_
          refine wp_goto 400 dX9_summedUp_116 rfl ?_
          refine ii_7 dX9_summedUp_400 rfl (by decide) ⟨by decide, by decide⟩ (r32 (by omega) (by omega)) ?_
          refine wp_goto 38 dX9_summedUp_403 rfl ?_
          refine wp_fg (ls' := [_, _, _, _, _, _, _, _, vn, vn]) ⟨Or.inr rfl, Or.inr rfl, Or.inr rfl, Or.inr rfl, Or.inr rfl, Or.inr rfl, Or.inr rfl, Or.inr rfl, Or.inl rfl, Or.inl rfl, trivial⟩ ?_
          first
            | exact ih (i + 1) _ _ _ _ _ _ (by omega) (by omega) hr hE (by simp only [List.length_cons]; omega) (by omega) (SRup hS (by omega)) hT
            | exact ih (i + 1) _ _ _ _ _ _ (by omega) (by omega) hr hE (by simp only [List.length_cons]; omega) (by omega) (SRup hS.2 (by omega)) hT
            | exact ih (i + 1) _ _ _ _ _ _ (by omega) (by omega) hr hE (by simp only [List.length_cons]; omega) (by omega) hS.2 hT.2
            | exact ih (i + 1) _ _ _ _ _ _ (by omega) (by omega) hr hE (by simp only [List.length_cons]; omega) (by omega) (SRup hS.2.2 (by omega)) hT.2
            | exact ih (i + 1) _ _ _ _ _ _ (by omega) (by omega) hr hE (by simp only [List.length_cons]; omega) (by omega) (SRup hS.2.2 (by omega)) hT
            | exact ih (i + 1) _ _ _ _ _ _ (by omega) (by omega) hr (hE.up (by decide)) (by omega) (by simp only [List.length_cons]; omega) hS.2.2 (SRup hT (by omega))
            | exact ih (i + 1) _ _ _ _ _ _ (by omega) (by omega) hr (hE.up (by decide)) (by omega) (by simp only [List.length_cons]; omega) hS (SRup hT.2 (by omega))
            | exact ih (i + 1) _ _ _ _ _ _ (by omega) (by omega) hr (hE.up (by decide)) (by omega) (by simp only [List.length_cons]; omega) hS (SRup hT.2.2 (by omega))

theorem wX9_summedUp {G : GT} {δ : Nat} {h hl : Nat → Int → Int} {b : Bool × Bool} {Q : V → Hp → Prop} {t k lit v fr to : Int} {C nm : Int → Int} (hδ : δ ≤ 1660) (t0 : 0 ≤ t) (t1 : t < 4) (k0 : 0 ≤ k) (k1 : k < 24) (hlit : h 337 10 = lit) (l0 : 0 ≤ lit) (l1 : lit < 1024) (hnm : h 342 = nm) (hfr : h 339 (705 * t + 1 + 4 * k + 1) = fr) (f0 : 0 ≤ fr) (f1 : fr ≤ to) (hto : h 339 (705 * t + 1 + 4 * k + 2) = to) (hto1 : to ≤ 304) (hC : ∀ j, h 339 (705 * t + 97 + j) = C j) (hr : mRun C nm lit (to - fr).toNat fr ([], []) ([v], [])) (hQ : ∀ h' hl', eqX [344] h h' → Q (vl v) (HS h' hl' b)) : WP G δ 0 0 MX9_summedUp 0 [vr (336), vi t, vi k, vn, vn, vn, vn, vn, vn, vn] [] (HS h hl b) Q := by
  refine si_705 dX9_summedUp_0 ?_
  refine il_1 dX9_summedUp_3 ?_
  refine wp_imul dX9_summedUp_4 (r32 (by omega) (by omega)) ?_
  refine ic_1 dX9_summedUp_5 ?_
  refine wp_iadd dX9_summedUp_6 (r32 (by omega) (by omega)) ?_
  refine ic_4 dX9_summedUp_7 ?_
  refine il_2 dX9_summedUp_8 ?_
  refine wp_imul dX9_summedUp_9 (r32 (by omega) (by omega)) ?_
  refine wp_iadd dX9_summedUp_10 (r32 (by omega) (by omega)) ?_
  refine is_3 dX9_summedUp_11 rfl (by decide) ?_
  refine si_705 dX9_summedUp_12 ?_
  refine il_1 dX9_summedUp_15 ?_
  refine wp_imul dX9_summedUp_16 (r32 (by omega) (by omega)) ?_
  refine bi_97 dX9_summedUp_17 ?_
  refine wp_iadd dX9_summedUp_19 (r32 (by omega) (by omega)) ?_
  refine is_4 dX9_summedUp_20 rfl (by decide) ?_
  refine ic_0 dX9_summedUp_22 ?_
  refine is_5 dX9_summedUp_23 rfl (by decide) ?_
  refine ic_0 dX9_summedUp_25 ?_
  refine is_6 dX9_summedUp_26 rfl (by decide) ?_
  refine al_0 dX9_summedUp_28 ?_
  refine g_X9_16 (339) dX9_summedUp_29 rfl tt336 (rr9_2 tt336) (by omega) ?_
  refine il_3 dX9_summedUp_32 ?_
  refine ic_1 dX9_summedUp_33 ?_
  refine wp_iadd dX9_summedUp_34 (r32 (by omega) (by omega)) ?_
  refine wp_iaload dX9_summedUp_35 tt339 (by omega) (by omega) ?_
  rw [hfr]
  refine is_7 dX9_summedUp_36 rfl (by decide) ?_
  exact wX9_summedUp_38 hδ t0 t1 k0 k1 hlit l0 l1 hnm hto hto1 hC hQ (to - fr).toNat fr 0 0 [] [] h hl (by omega) f0 hr eqX.rf rfl rfl trivial trivial
