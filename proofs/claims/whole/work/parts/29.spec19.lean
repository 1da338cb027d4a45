def shB (R : Int → Int) (k : Int) : Int → Int := fun j => if 1253 ≤ j ∧ j < 1252 + k then R (j + 1) else R j
theorem shB_o {R : Int → Int} {k j : Int} (e : j < 1253 ∨ 1252 + k ≤ j) : shB R k j = R j := if_neg (by omega)
theorem shB_s {R : Int → Int} {k : Int} (k0 : 1 ≤ k) : ur (shB R k) (1253 + k - 1) (R (1253 + k)) = shB R (k + 1) := by
  funext j; unfold ur shB
  by_cases e : j = 1253 + k - 1
  · rw [if_pos e, if_pos (by omega)]; congr 1; omega
  · rw [if_neg e]
    by_cases u : 1253 ≤ j ∧ j < 1252 + k
    · rw [if_pos u, if_pos (by omega)]
    · rw [if_neg u, if_neg (by omega)]
theorem rWr_m1 {R : Int → Int} {v : Int} (e : R 12 = 25) : ur (ur (ur (shB R 25) 12 24) (1253 + 24) v) 12 (24 + 1) = rWr R v := by
  funext j
  rw [rWr_b (by omega)]
  unfold ur shB
  by_cases e1 : j = 12
  · rw [if_pos e1, if_neg (by omega), if_neg (by omega), if_pos e1]; rfl
  · rw [if_neg e1]
    by_cases e2 : j = 1277
    · rw [if_pos (by omega), if_neg (by omega), if_pos e2]
    · rw [if_neg (by omega), if_neg e1]
      by_cases u : 1253 ≤ j ∧ j < 1277
      · rw [if_pos (by omega), if_pos u]
      · rw [if_neg (by omega), if_neg u, if_neg e2, if_neg e1]
/-- the kept rows -/
def kp1 (R : Int → Int) (k : Int) : Int → Int := fun j => if 83 ≤ j ∧ j < 83 + k then R (j + 39) else R j
theorem kp1_s {R : Int → Int} {k : Int} (k0 : 0 ≤ k) : ur (kp1 R k) (83 + k) (R (122 + k)) = kp1 R (k + 1) := by
  funext j; unfold ur kp1
  by_cases e : j = 83 + k
  · rw [if_pos e, if_pos (by omega)]; congr 1; omega
  · rw [if_neg e]
    by_cases u : 83 ≤ j ∧ j < 83 + k
    · rw [if_pos u, if_pos (by omega)]
    · rw [if_neg u, if_neg (by omega)]
theorem kp1_o {R : Int → Int} {k j : Int} (e : j < 83 ∨ 83 + k ≤ j) : kp1 R k j = R j := if_neg (by omega)
/-- a piece of the row copied -/
def cpR (R : Int → Int) (x y k : Int) : Int → Int := fun j => if x ≤ j ∧ j < x + k then R (y + (j - x)) else R j
theorem cpR_0 {R : Int → Int} {x y : Int} : cpR R x y 0 = R := by funext j; unfold cpR; rw [if_neg (by omega)]
theorem cpR_s {R : Int → Int} {x y k : Int} (k0 : 0 ≤ k) : ur (cpR R x y k) (x + k) (R (y + k)) = cpR R x y (k + 1) := by
  funext j; unfold ur cpR
  by_cases e : j = x + k
  · rw [if_pos e, if_pos (by omega)]; congr 1; omega
  · rw [if_neg e]
    by_cases u : x ≤ j ∧ j < x + k
    · rw [if_pos u, if_pos (by omega)]
    · rw [if_neg u, if_neg (by omega)]
theorem cpR_o {R : Int → Int} {x y k j : Int} (e : j < x ∨ x + k ≤ j) : cpR R x y k j = R j := if_neg (by omega)
theorem cpR_i {R : Int → Int} {x y k j : Int} (e : x ≤ j ∧ j < x + k) : cpR R x y k j = R (y + (j - x)) := if_pos e
theorem keep_row {R R1 : Int → Int} {x : Int} (V : RV R) (e1 : R1 = if R 4 = 30 then ur (kp1 R 1131) 4 29 else R) (ex : x = 83 + 39 * R1 4) :
    ur (cpR (cpR (ur R1 x (R1 0)) (x + 1) 8 13) (x + 14) 1253 25) 4 (R1 4 + 1) = rKeep R := by
  have ks := kpS_R V
  have r4 : R1 4 = kpS R := by rw [e1]; unfold kpS; split; exact ur_s; rfl
  have ro : ∀ i : Int, i ≠ 4 → (i < 83 ∨ 1253 ≤ i) → R1 i = R i := fun i n4 hi => by
    rw [e1]; split
    · rw [ur_n n4, kp1_o (by omega)]
    · rfl
  have rm : ∀ i : Int, i ≠ 4 → R1 i = if R 4 = 30 ∧ 83 ≤ i ∧ i < 1214 then R (i + 39) else R i := fun i n4 => by
    rw [e1]
    by_cases w : R 4 = 30
    · rw [if_pos w, ur_n n4]; unfold kp1
      by_cases u : 83 ≤ i ∧ i < 1214
      · rw [if_pos (by omega), if_pos (by omega)]
      · rw [if_neg (by omega), if_neg (by omega)]
    · rw [if_neg w, if_neg (by omega)]
  rw [r4] at ex ⊢
  funext j
  rw [rKeep_at]
  by_cases c4 : j = 4
  · rw [if_pos c4, c4, ur_s]
  · rw [if_neg c4, ur_n c4]
    by_cases cx : 83 + 39 * kpS R ≤ j ∧ j < 122 + 39 * kpS R
    · rw [if_pos cx]
      unfold rowN
      by_cases q0 : j - (83 + 39 * kpS R) = 0
      · rw [if_pos q0, cpR_o (by omega), cpR_o (by omega), show j = x by omega, ur_s, ro 0 (by decide) (by decide)]
      · rw [if_neg q0]
        by_cases q1 : j - (83 + 39 * kpS R) < 14
        · rw [if_pos q1, cpR_o (by omega), cpR_i (by omega), ur_n (by omega), ro _ (by omega) (by omega)]; congr 1; omega
        · rw [if_neg q1, cpR_i (by omega), cpR_o (by omega), ur_n (by omega), ro _ (by omega) (by omega)]; congr 1; omega
    · rw [if_neg cx, cpR_o (by omega), cpR_o (by omega), ur_n (by omega), rm j c4]
/-- taken back -/
def bgR (R : Int → Int) (q p : Int) : Int → Int := fun j => if 13 ≤ j ∧ j < 21 ∧ q ≤ (j - 13) / 2 ∧ (j - 13) / 2 < p then (if (j - 13) % 2 = 0 then R (25 + (j - 13) / 2) else 0) else R j
theorem bgR_0 {R : Int → Int} {q : Int} : bgR R q q = R := by funext j; unfold bgR; rw [if_neg (by omega)]
theorem bgR_o {R : Int → Int} {q p j : Int} (e : j < 13 ∨ 21 ≤ j) : bgR R q p j = R j := if_neg (by omega)
theorem bgR_s {R : Int → Int} {q p : Int} (h0 : 0 ≤ q) (hq : q ≤ p) (hp : p < 4) : ur (ur (bgR R q p) (13 + 2 * p) (R (25 + p))) (13 + 2 * p + 1) 0 = bgR R q (p + 1) := by
  funext j; unfold ur bgR
  by_cases e : j = 13 + 2 * p + 1
  · rw [if_pos e, if_pos (by omega), if_neg (by omega)]
  · rw [if_neg e]
    by_cases e2 : j = 13 + 2 * p
    · rw [if_pos e2, if_pos (by omega), if_pos (by omega)]; congr 1; omega
    · rw [if_neg e2]
      by_cases u : 13 ≤ j ∧ j < 21 ∧ q ≤ (j - 13) / 2 ∧ (j - 13) / 2 < p
      · simp only [if_pos u, if_pos (show 13 ≤ j ∧ j < 21 ∧ q ≤ (j - 13) / 2 ∧ (j - 13) / 2 < p + 1 by omega)]
      · simp only [if_neg u, if_neg (show ¬ (13 ≤ j ∧ j < 21 ∧ q ≤ (j - 13) / 2 ∧ (j - 13) / 2 < p + 1) by omega)]
theorem back_row {R : Int → Int} {x : Int} (V : RV R) (s : 0 < R 4) (ex : x = 83 + 39 * (R 4 - 1)) :
    cpR (bgR (cpR (ur R 4 (R 4 - 1)) 8 (x + 1) 13) (R x) (R 0)) 1253 (x + 14) 25 = rBack R := by
  have v4 := V.n.2.2.2.2.1
  have v0 := V.n.1
  have sx := V.sp (R 4 - 1) (by omega) (by omega)
  rw [← ex] at sx
  have sx0 := sx.1.1
  funext j
  rw [rBack_at, ← ex]
  by_cases c4 : j = 4
  · rw [if_pos c4, cpR_o (by omega), bgR_o (by omega), cpR_o (by omega), c4, ur_s]
  · rw [if_neg c4]
    by_cases c8 : 8 ≤ j ∧ j < 21
    · rw [if_pos c8, cpR_o (by omega)]
      by_cases u : 13 ≤ j ∧ R x ≤ (j - 13) / 2 ∧ (j - 13) / 2 < R 0
      · rw [if_pos u]
        unfold bgR
        rw [if_pos (by omega), cpR_o (by omega), ur_n (by omega)]
      · rw [if_neg u]
        unfold bgR
        rw [if_neg (by omega), cpR_i (by omega), ur_n (by omega)]
    · rw [if_neg c8]
      by_cases cb : 1253 ≤ j ∧ j < 1278
      · rw [if_pos cb, cpR_i (by omega), bgR_o (by omega), cpR_o (by omega), ur_n (by omega)]
      · rw [if_neg cb, cpR_o (by omega), bgR_o (by omega), cpR_o (by omega), ur_n c4]
section MST
variable {h h' : Nat → Int → Int} {R R' : Int → Int} {L : Laws} {d l : Int} {w : Bool}
theorem rPay0_m (V : RV R) (l0 : 0 ≤ l) (l1 : l < R 0) : ur (ur (ur R (13 + 2 * l) (R (13 + 2 * l) - paidV L R d l)) (13 + 2 * l + 1) (max 0 (min (R (13 + 2 * l + 1) + 1) 9999))) 10 (bxor (R 10) (R (29 + d))) = rPay0 L R d l := by
  have a := V.wr l l0 l1
  have n := V.n
  unfold rPay0
  have e : (13 + 2 * l + 1) = 14 + 2 * l := by omega
  rw [e, show max 0 (min (R (14 + 2 * l) + 1) 9999) = min (R (14 + 2 * l) + 1) 9999 by omega]
  congr 1
  funext j
  unfold ur
  by_cases q : j = 14 + 2 * l
  · rw [if_pos q, if_neg (by omega), if_pos q]
  · rw [if_neg q, if_neg q]
theorem allOil_end {o : Int} : allOil (rEnd R o) = allOil R := allOil_c (by unfold rEnd rDraw; rw [ur_n (by decide), ur_n (by decide), ur_n (by decide), ur_n (by decide)]) (fun i i0 i1 => by unfold rEnd rDraw; rw [ur_n (by omega), ur_n (by omega), ur_n (by omega), ur_n (by omega)])
theorem allOil_keep (V : RV R) : allOil (rKeep R) = allOil R := allOil_c (rKeep_o V (by decide) (by decide)) (fun i i0 i1 => by have := V.n.1; exact rKeep_o V (by omega) (by omega))
end MST

theorem wX9_write_67 {G : GT} {δ : Nat} {h hl : Nat → Int → Int} {b : Bool × Bool} {Q : V → Hp → Prop} {R : Int → Int} {d p : Int} {c : V} (hδ : δ ≤ 1700) (k0 : 0 ≤ R 12) (k1 : R 12 < 25) (n0 : 0 ≤ R 8) (n1 : R 8 ≤ 9999) (t0 : 0 ≤ R 10) (t1 : R 10 < 1024) (d0 : 0 ≤ d) (d1 : d < 8) (p0 : 0 ≤ p) (p1 : p < 4)
  (hQ : Q vn (HS (sw h (ur (ur R (1253 + R 12) (lineR R d p)) 12 (R 12 + 1))) hl b)) : WP G δ 0 0 MX9_write 67 [vr 336, vi d, vi p, c] [] (HS (sw h R) hl b) Q := by
  refine al_0 dX9_write_67 ?_
  refine g_X9_7 (337) dX9_write_68 rfl tt336 (rr9_0 tt336) (by omega) ?_
  refine si_1253 dX9_write_71 ?_
  refine al_0 dX9_write_74 ?_
  refine g_X9_7 (337) dX9_write_75 rfl tt336 (rr9_0 tt336) (by omega) ?_
  refine bi_12 dX9_write_78 ?_
  refine wp_iaload dX9_write_80 tt337 (by omega) (by omega) ?_
  first | rw [m2] | rw [m1] | rw [m] | rw [sw_s] | skip
  refine wp_iadd dX9_write_81 (r32 (by omega) (by omega)) ?_
  refine al_0 dX9_write_82 ?_
  refine g_X9_7 (337) dX9_write_83 rfl tt336 (rr9_0 tt336) (by omega) ?_
  refine bi_8 dX9_write_86 ?_
  refine wp_iaload dX9_write_88 tt337 (by omega) (by omega) ?_
  first | rw [m2] | rw [m1] | rw [m] | rw [sw_s] | skip
  refine bi_8 dX9_write_89 ?_
  refine wp_imul dX9_write_91 (r32 (by omega) (by omega)) ?_
  refine il_1 dX9_write_92 ?_
  refine wp_iadd dX9_write_93 (r32 (by omega) (by omega)) ?_
  refine ic_4 dX9_write_94 ?_
  refine wp_imul dX9_write_95 (r32 (by omega) (by omega)) ?_
  refine il_2 dX9_write_96 ?_
  refine wp_iadd dX9_write_97 (r32 (by omega) (by omega)) ?_
  refine si_1024 dX9_write_98 ?_
  refine wp_imul dX9_write_101 (r32 (by omega) (by omega)) ?_
  refine al_0 dX9_write_102 ?_
  refine g_X9_7 (337) dX9_write_103 rfl tt336 (rr9_0 tt336) (by omega) ?_
  refine bi_10 dX9_write_106 ?_
  refine wp_iaload dX9_write_108 tt337 (by omega) (by omega) ?_
  first | rw [m2] | rw [m1] | rw [m] | rw [sw_s] | skip
  refine wp_iadd dX9_write_109 (r32 (by omega) (by omega)) ?_
  refine wp_iastore dX9_write_110 tt337 (by omega) (by omega) ?_
  refine al_0 dX9_write_111 ?_
  refine g_X9_7 (337) dX9_write_112 rfl tt336 (rr9_0 tt336) (by omega) ?_
  refine bi_12 dX9_write_115 ?_
  refine wp_dup2 dX9_write_117 rfl rfl ?_
  refine wp_iaload dX9_write_118 tt337 (by omega) (by omega) ?_
  rw [up_k (by omega), sw_s]
  refine ic_1 dX9_write_119 ?_
  refine wp_iadd dX9_write_120 (r32 (by omega) (by omega)) ?_
  refine wp_iastore dX9_write_121 tt337 (by omega) (by omega) ?_
  refine wp_vret dX9_write_122 rfl ?_
  rw [up_sw2, up_sw2]; exact hQ

theorem wX9_write_22 {G : GT} {δ : Nat} {h hl : Nat → Int → Int} {b : Bool × Bool} {Q : V → Hp → Prop} {d p : Int} {R : Int → Int} (hδ : δ ≤ 1700)  : ∀ (n : Nat) (k : Int), ((25 - k).toNat) < n → (1 ≤ k) → (k ≤ 25) → (WP G δ 0 0 MX9_write 56 [vr 336, vi d, vi p, vi 25] [] (HS (sw h (shB R 25)) hl b) Q) → WP G δ 0 0 MX9_write 22 [vr (336), vi d, vi p, vi k] [] (HS (sw h (shB R k)) hl b) Q := by
  intro n
  induction n with
  | zero => intro k hlt; exact absurd hlt (Nat.not_lt_zero _)
  | succ n ih =>
    intro k hlt k0 k1 hQ
    refine il_3 dX9_write_22 ?_
    refine bi_25 dX9_write_23 ?_
    refine wp_icmp_ge 56 dX9_write_25 rfl (fun c25 => ?_) (fun c25 => ?_)
    · have e : k = 25 := by omega
      subst e
      exact hQ
    · refine al_0 dX9_write_28 ?_
      refine g_X9_7 (337) dX9_write_29 rfl tt336 (rr9_0 tt336) (by omega) ?_
      refine si_1253 dX9_write_32 ?_
      refine il_3 dX9_write_35 ?_
      refine wp_iadd dX9_write_36 (r32 (by omega) (by omega)) ?_
      refine ic_1 dX9_write_37 ?_
      refine wp_isub dX9_write_38 (r32 (by omega) (by omega)) ?_
      refine al_0 dX9_write_39 ?_
      refine g_X9_7 (337) dX9_write_40 rfl tt336 (rr9_0 tt336) (by omega) ?_
      refine si_1253 dX9_write_43 ?_
      refine il_3 dX9_write_46 ?_
      refine wp_iadd dX9_write_47 (r32 (by omega) (by omega)) ?_
      refine wp_iaload dX9_write_48 tt337 (by omega) (by omega) ?_
      rw [sw_s, shB_o (by omega)]
      refine wp_iastore dX9_write_49 tt337 (by omega) (by omega) ?_
      refine ii_3 dX9_write_50 rfl (by decide) ⟨by decide, by decide⟩ (r32 (by omega) (by omega)) ?_
      refine wp_goto 22 dX9_write_53 rfl ?_
      rw [up_sw2, shB_s k0]
      exact ih (k + 1) (by omega) (by omega) (by omega) hQ

theorem wX9_write {G : GT} {δ : Nat} {h hl : Nat → Int → Int} {b : Bool × Bool} {Q : V → Hp → Prop} {d p : Int} {R : Int → Int} {wB : Bool} (hδ : δ ≤ 1700) (m : h 337 = R) (V : SV R 0 8 1253) (hw : h 336 23 = if wB then 1 else 0) (d0 : 0 ≤ d) (d1 : d < 8) (p0 : 0 ≤ p) (p1 : p < 4) (hQ : ∀ h', eqX [337] h h' → h' 337 = (if wB then rWr R (lineR R d p) else R) → Q vn (HS h' hl b)) : WP G δ 0 0 MX9_write 0 [vr (336), vi d, vi p, vn] [] (HS h hl b) Q := by
  obtain ⟨q0, q1, q2, q3, q4, q5, q6, q7, q8⟩ := V.now
  have hs : sw h R = h := by rw [← m]; exact sw_id
  have hE : ∀ X, eqX [337] h (sw h X) := fun X o ho => sw_o (by simpa using ho)
  refine al_0 dX9_write_0 ?_
  refine g_X9_43 dX9_write_1 rfl tt336 ?_
  refine wp_if_ne 8 dX9_write_4 rfl (fun c4 => ?_) (fun c4 => ?_)
  · have eW : wB = true := by cases wB with | true => rfl | false => simp at hw; omega
    refine al_0 dX9_write_8 ?_
    refine g_X9_7 (337) dX9_write_9 rfl tt336 (rr9_0 tt336) (by omega) ?_
    refine bi_12 dX9_write_12 ?_
    refine wp_iaload dX9_write_14 tt337 (by omega) (by omega) ?_
    first | rw [m2] | rw [m1] | rw [m] | rw [sw_s] | skip
    refine bi_25 dX9_write_15 ?_
    refine wp_icmp_ne 67 dX9_write_17 rfl (fun c17 => ?_) (fun c17 => ?_)
    · refine wph ?_ hs.symm
      refine wX9_write_67 (by omega) (by omega) (by omega) (by omega) (by omega) (by omega) (by omega) d0 d1 p0 p1 ?_
      refine hQ _ (hE _) ?_
      rw [sw_s, eW, if_pos rfl]
      funext j; rw [rWr_s (by omega)]; unfold ur; rfl
    · refine ic_1 dX9_write_20 ?_
      refine is_3 dX9_write_21 rfl (by decide) ?_
      refine wph ?_ (show h = sw h (shB R 1) from by rw [show shB R 1 = R from by funext j; exact shB_o (by omega), hs])
      refine wX9_write_22 (R := R) (by omega) _ 1 (Nat.lt_succ_self _) (by omega) (by omega) ?_
      refine al_0 dX9_write_56 ?_
      refine g_X9_7 (337) dX9_write_57 rfl tt336 (rr9_0 tt336) (by omega) ?_
      refine bi_12 dX9_write_60 ?_
      refine wp_dup2 dX9_write_62 rfl rfl ?_
      refine wp_iaload dX9_write_63 tt337 (by omega) (by omega) ?_
      first | rw [m2] | rw [m1] | rw [m] | rw [sw_s] | skip
      refine ic_1 dX9_write_64 ?_
      refine wp_isub dX9_write_65 (r32 (by rw [shB_o (by omega)]; omega) (by rw [shB_o (by omega)]; omega)) ?_
      refine wp_iastore dX9_write_66 tt337 (by omega) (by omega) ?_
      rw [shB_o (by omega), c17, up_sw2]
      refine wX9_write_67 (by omega) (by rw [ur_s]; omega) (by rw [ur_s]; omega) (by rw [ur_n (by decide), shB_o (by omega)]; omega) (by rw [ur_n (by decide), shB_o (by omega)]; omega) (by rw [ur_n (by decide), shB_o (by omega)]; omega) (by rw [ur_n (by decide), shB_o (by omega)]; omega) d0 d1 p0 p1 ?_
      refine hQ _ (hE _) ?_
      rw [sw_s, eW, if_pos rfl]
      have el : lineR (ur (shB R 25) 12 (25 - 1)) d p = lineR R d p := by unfold lineR; rw [ur_n (by decide), ur_n (by decide), shB_o (by omega), shB_o (by omega)]
      rw [el, ur_s]
      exact rWr_m1 c17
  · have eW : wB = false := by cases wB with | false => rfl | true => simp at hw; omega
    refine wp_vret dX9_write_7 rfl ?_
    refine hQ h eqX.rf ?_
    rw [eW, if_neg (by decide), m]

theorem wX9_keep_13 {G : GT} {δ : Nat} {h hl : Nat → Int → Int} {b : Bool × Bool} {Q : V → Hp → Prop} {R : Int → Int} (hδ : δ ≤ 1700)  : ∀ (n : Nat) (k : Int), ((1131 - k).toNat) < n → (0 ≤ k) → (k ≤ 1131) → (WP G δ 0 0 MX9_keep 44 [vr 336, vi 1131, vn] [] (HS (sw h (kp1 R 1131)) hl b) Q) → WP G δ 0 0 MX9_keep 13 [vr (336), vi k, vn] [] (HS (sw h (kp1 R k)) hl b) Q := by
  intro n
  induction n with
  | zero => intro k hlt; exact absurd hlt (Nat.not_lt_zero _)
  | succ n ih =>
    intro k hlt k0 k1 hQ
    refine il_1 dX9_keep_13 ?_
    refine si_1131 dX9_keep_14 ?_
    refine wp_icmp_ge 44 dX9_keep_17 rfl (fun c17 => ?_) (fun c17 => ?_)
    · have e : k = 1131 := by omega
      subst e
      exact hQ
    · refine al_0 dX9_keep_20 ?_
      refine g_X9_7 (337) dX9_keep_21 rfl tt336 (rr9_0 tt336) (by omega) ?_
      refine bi_83 dX9_keep_24 ?_
      refine il_1 dX9_keep_26 ?_
      refine wp_iadd dX9_keep_27 (r32 (by omega) (by omega)) ?_
      refine al_0 dX9_keep_28 ?_
      refine g_X9_7 (337) dX9_keep_29 rfl tt336 (rr9_0 tt336) (by omega) ?_
      refine bi_122 dX9_keep_32 ?_
      refine il_1 dX9_keep_34 ?_
      refine wp_iadd dX9_keep_35 (r32 (by omega) (by omega)) ?_
      refine wp_iaload dX9_keep_36 tt337 (by omega) (by omega) ?_
      rw [sw_s, kp1_o (by omega)]
      refine wp_iastore dX9_keep_37 tt337 (by omega) (by omega) ?_
      refine ii_1 dX9_keep_38 rfl (by decide) ⟨by decide, by decide⟩ (r32 (by omega) (by omega)) ?_
      refine wp_goto 13 dX9_keep_41 rfl ?_
      rw [up_sw2, kp1_s k0]
      exact ih (k + 1) (by omega) (by omega) (by omega) hQ

theorem wX9_keep_81 {G : GT} {δ : Nat} {h hl : Nat → Int → Int} {b : Bool × Bool} {Q : V → Hp → Prop} {R : Int → Int} {x : Int} (hδ : δ ≤ 1700) (x0 : 83 ≤ x) (x1 : x ≤ 1214) : ∀ (n : Nat) (k : Int), ((13 - k).toNat) < n → (0 ≤ k) → (k ≤ 13) → (WP G δ 0 0 MX9_keep 112 [vr 336, vi x, vn] [] (HS (sw h (cpR R (x + 1) 8 13)) hl b) Q) → WP G δ 0 0 MX9_keep 81 [vr (336), vi x, vi k] [] (HS (sw h (cpR R (x + 1) 8 k)) hl b) Q := by
  intro n
  induction n with
  | zero => intro k hlt; exact absurd hlt (Nat.not_lt_zero _)
  | succ n ih =>
    intro k hlt k0 k1 hQ
    refine il_2 dX9_keep_81 ?_
    refine bi_13 dX9_keep_82 ?_
    refine wp_icmp_ge 112 dX9_keep_84 rfl (fun c84 => ?_) (fun c84 => ?_)
    · refine wp_fg (ls' := [_, _, vn]) ⟨Or.inr rfl, Or.inr rfl, Or.inl rfl, trivial⟩ ?_
      have e : k = 13 := by omega
      subst e
      exact hQ
    · refine al_0 dX9_keep_87 ?_
      refine g_X9_7 (337) dX9_keep_88 rfl tt336 (rr9_0 tt336) (by omega) ?_
      refine il_1 dX9_keep_91 ?_
      refine ic_1 dX9_keep_92 ?_
      refine wp_iadd dX9_keep_93 (r32 (by omega) (by omega)) ?_
      refine il_2 dX9_keep_94 ?_
      refine wp_iadd dX9_keep_95 (r32 (by omega) (by omega)) ?_
      refine al_0 dX9_keep_96 ?_
      refine g_X9_7 (337) dX9_keep_97 rfl tt336 (rr9_0 tt336) (by omega) ?_
      refine bi_8 dX9_keep_100 ?_
      refine il_2 dX9_keep_102 ?_
      refine wp_iadd dX9_keep_103 (r32 (by omega) (by omega)) ?_
      refine wp_iaload dX9_keep_104 tt337 (by omega) (by omega) ?_
      rw [sw_s, cpR_o (by omega)]
      refine wp_iastore dX9_keep_105 tt337 (by omega) (by omega) ?_
      refine ii_2 dX9_keep_106 rfl (by decide) ⟨by decide, by decide⟩ (r32 (by omega) (by omega)) ?_
      refine wp_goto 81 dX9_keep_109 rfl ?_
      rw [up_sw2, cpR_s k0]
      exact ih (k + 1) (by omega) (by omega) (by omega) hQ

theorem wX9_keep_114 {G : GT} {δ : Nat} {h hl : Nat → Int → Int} {b : Bool × Bool} {Q : V → Hp → Prop} {R : Int → Int} {x : Int} (hδ : δ ≤ 1700) (x0 : 83 ≤ x) (x1 : x ≤ 1214) : ∀ (n : Nat) (k : Int), ((25 - k).toNat) < n → (0 ≤ k) → (k ≤ 25) → (WP G δ 0 0 MX9_keep 149 [vr 336, vi x, vn] [] (HS (sw h (cpR R (x + 14) 1253 25)) hl b) Q) → WP G δ 0 0 MX9_keep 114 [vr (336), vi x, vi k] [] (HS (sw h (cpR R (x + 14) 1253 k)) hl b) Q := by
  intro n
  induction n with
  | zero => intro k hlt; exact absurd hlt (Nat.not_lt_zero _)
  | succ n ih =>
    intro k hlt k0 k1 hQ
    refine il_2 dX9_keep_114 ?_
    refine bi_25 dX9_keep_115 ?_
    refine wp_icmp_ge 149 dX9_keep_117 rfl (fun c117 => ?_) (fun c117 => ?_)
    · refine wp_fg (ls' := [_, _, vn]) ⟨Or.inr rfl, Or.inr rfl, Or.inl rfl, trivial⟩ ?_
      have e : k = 25 := by omega
      subst e
      exact hQ
    · refine al_0 dX9_keep_120 ?_
      refine g_X9_7 (337) dX9_keep_121 rfl tt336 (rr9_0 tt336) (by omega) ?_
      refine il_1 dX9_keep_124 ?_
      refine ic_1 dX9_keep_125 ?_
      refine wp_iadd dX9_keep_126 (r32 (by omega) (by omega)) ?_
      refine bi_13 dX9_keep_127 ?_
      refine wp_iadd dX9_keep_129 (r32 (by omega) (by omega)) ?_
      refine il_2 dX9_keep_130 ?_
      refine wp_iadd dX9_keep_131 (r32 (by omega) (by omega)) ?_
      refine al_0 dX9_keep_132 ?_
      refine g_X9_7 (337) dX9_keep_133 rfl tt336 (rr9_0 tt336) (by omega) ?_
      refine si_1253 dX9_keep_136 ?_
      refine il_2 dX9_keep_139 ?_
      refine wp_iadd dX9_keep_140 (r32 (by omega) (by omega)) ?_
      refine wp_iaload dX9_keep_141 tt337 (by omega) (by omega) ?_
      rw [sw_s, cpR_o (by omega)]
      refine wp_iastore dX9_keep_142 tt337 (by omega) (by omega) ?_
      refine ii_2 dX9_keep_143 rfl (by decide) ⟨by decide, by decide⟩ (r32 (by omega) (by omega)) ?_
      refine wp_goto 114 dX9_keep_146 rfl ?_
      rw [up_sw2, show x + 1 + 13 + k = x + 14 + k by omega, cpR_s k0]
      exact ih (k + 1) (by omega) (by omega) (by omega) hQ

theorem wX9_keep_54 {G : GT} {δ : Nat} {h hl : Nat → Int → Int} {b : Bool × Bool} {Q : V → Hp → Prop} {R : Int → Int} {c1 c2 : V} (hδ : δ ≤ 1700) (f0 : 0 ≤ R 4) (f1 : R 4 ≤ 29)
  (hQ : Q vn (HS (sw h (ur (cpR (cpR (ur R (83 + 39 * R 4) (R 0)) (83 + 39 * R 4 + 1) 8 13) (83 + 39 * R 4 + 14) 1253 25) 4 (R 4 + 1))) hl b)) : WP G δ 0 0 MX9_keep 54 [vr 336, c1, c2] [] (HS (sw h R) hl b) Q := by
  refine bi_83 dX9_keep_54 ?_
  refine bi_39 dX9_keep_56 ?_
  refine al_0 dX9_keep_58 ?_
  refine g_X9_7 (337) dX9_keep_59 rfl tt336 (rr9_0 tt336) (by omega) ?_
  refine ic_4 dX9_keep_62 ?_
  refine wp_iaload dX9_keep_63 tt337 (by omega) (by omega) ?_
  first | rw [m2] | rw [m1] | rw [m] | rw [sw_s] | skip
  refine wp_imul dX9_keep_64 (r32 (by omega) (by omega)) ?_
  refine wp_iadd dX9_keep_65 (r32 (by omega) (by omega)) ?_
  refine is_1 dX9_keep_66 rfl (by decide) ?_
  refine al_0 dX9_keep_67 ?_
  refine g_X9_7 (337) dX9_keep_68 rfl tt336 (rr9_0 tt336) (by omega) ?_
  refine il_1 dX9_keep_71 ?_
  refine al_0 dX9_keep_72 ?_
  refine g_X9_7 (337) dX9_keep_73 rfl tt336 (rr9_0 tt336) (by omega) ?_
  refine ic_0 dX9_keep_76 ?_
  refine wp_iaload dX9_keep_77 tt337 (by omega) (by omega) ?_
  first | rw [m2] | rw [m1] | rw [m] | rw [sw_s] | skip
  refine wp_iastore dX9_keep_78 tt337 (by omega) (by omega) ?_
  refine ic_0 dX9_keep_79 ?_
  refine is_2 dX9_keep_80 rfl (by decide) ?_
  rw [up_sw2]
  refine wph ?_ (show sw h (ur R (83 + 39 * R 4) (R 0)) = sw h (cpR (ur R (83 + 39 * R 4) (R 0)) (83 + 39 * R 4 + 1) 8 0) from by rw [cpR_0])
  refine wX9_keep_81 (by omega) (by omega) (by omega) _ 0 (Nat.lt_succ_self _) (by omega) (by omega) ?_
  refine ic_0 dX9_keep_112 ?_
  refine is_2 dX9_keep_113 rfl (by decide) ?_
  refine wph ?_ (show sw h (cpR (ur R (83 + 39 * R 4) (R 0)) (83 + 39 * R 4 + 1) 8 13) = sw h (cpR (cpR (ur R (83 + 39 * R 4) (R 0)) (83 + 39 * R 4 + 1) 8 13) (83 + 39 * R 4 + 14) 1253 0) from by rw [cpR_0])
  refine wX9_keep_114 (by omega) (by omega) (by omega) _ 0 (Nat.lt_succ_self _) (by omega) (by omega) ?_
  have e4 : cpR (cpR (ur R (83 + 39 * R 4) (R 0)) (83 + 39 * R 4 + 1) 8 13) (83 + 39 * R 4 + 14) 1253 25 4 = R 4 := by rw [cpR_o (by omega), cpR_o (by omega), ur_n (by omega)]
  refine al_0 dX9_keep_149 ?_
  refine g_X9_7 (337) dX9_keep_150 rfl tt336 (rr9_0 tt336) (by omega) ?_
  refine ic_4 dX9_keep_153 ?_
  refine wp_dup2 dX9_keep_154 rfl rfl ?_
  refine wp_iaload dX9_keep_155 tt337 (by omega) (by omega) ?_
  rw [sw_s, e4]
  refine ic_1 dX9_keep_156 ?_
  refine wp_iadd dX9_keep_157 (r32 (by omega) (by omega)) ?_
  refine wp_iastore dX9_keep_158 tt337 (by omega) (by omega) ?_
  refine wp_vret dX9_keep_159 rfl ?_
  rw [up_sw2]; exact hQ

theorem wX9_keep {G : GT} {δ : Nat} {h hl : Nat → Int → Int} {b : Bool × Bool} {Q : V → Hp → Prop} {R : Int → Int} (hδ : δ ≤ 1700) (m : h 337 = R) (V : RV R) (hQ : ∀ h', eqX [337] h h' → h' 337 = rKeep R → Q vn (HS h' hl b)) : WP G δ 0 0 MX9_keep 0 [vr (336), vn, vn] [] (HS h hl b) Q := by
  have n := V.n
  have hs : sw h R = h := by rw [← m]; exact sw_id
  have hE : ∀ X, eqX [337] h (sw h X) := fun X o ho => sw_o (by simpa using ho)
  refine al_0 dX9_keep_0 ?_
  refine g_X9_7 (337) dX9_keep_1 rfl tt336 (rr9_0 tt336) (by omega) ?_
  refine ic_4 dX9_keep_4 ?_
  refine wp_iaload dX9_keep_5 tt337 (by omega) (by omega) ?_
  first | rw [m2] | rw [m1] | rw [m] | rw [sw_s] | skip
  refine bi_30 dX9_keep_6 ?_
  refine wp_icmp_ne 54 dX9_keep_8 rfl (fun c8 => ?_) (fun c8 => ?_)
  · refine wph ?_ hs.symm
    refine wX9_keep_54 (by omega) (by omega) (by omega) ?_
    refine hQ _ (hE _) ?_
    rw [sw_s]
    exact keep_row V (by rw [if_neg c8]) rfl
  · refine ic_0 dX9_keep_11 ?_
    refine is_1 dX9_keep_12 rfl (by decide) ?_
    refine wph ?_ (show h = sw h (kp1 R 0) from by rw [show kp1 R 0 = R from by funext j; exact kp1_o (by omega), hs])
    refine wX9_keep_13 (R := R) (by omega) _ 0 (Nat.lt_succ_self _) (by omega) (by omega) ?_
    refine al_0 dX9_keep_44 ?_
    refine g_X9_7 (337) dX9_keep_45 rfl tt336 (rr9_0 tt336) (by omega) ?_
    refine ic_4 dX9_keep_48 ?_
    refine wp_dup2 dX9_keep_49 rfl rfl ?_
    refine wp_iaload dX9_keep_50 tt337 (by omega) (by omega) ?_
    rw [sw_s, kp1_o (by omega), c8]
    refine ic_1 dX9_keep_51 ?_
    refine wp_isub dX9_keep_52 (r32 (by omega) (by omega)) ?_
    refine wp_iastore dX9_keep_53 tt337 (by omega) (by omega) ?_
    rw [up_sw2]
    refine wX9_keep_54 (by omega) (by rw [ur_s]; omega) (by rw [ur_s]; omega) ?_
    refine hQ _ (hE _) ?_
    rw [sw_s]
    exact keep_row V (by rw [if_pos c8]; rfl) rfl

theorem wX9_begin {G : GT} {δ : Nat} {h hl : Nat → Int → Int} {b : Bool × Bool} {Q : V → Hp → Prop} {p : Int} (hδ : δ ≤ 1700) (p0 : 0 ≤ p) (p1 : p < 4) (hQ : Q vn (HS (up (up h 337 (13 + 2 * p) (h 337 (25 + p))) 337 (13 + 2 * p + 1) 0) hl b)) : WP G δ 0 0 MX9_begin 0 [vr (336), vi p] [] (HS h hl b) Q := by
  refine al_0 dX9_begin_0 ?_
  refine g_X9_7 (337) dX9_begin_1 rfl tt336 (rr9_0 tt336) (by omega) ?_
  refine bi_13 dX9_begin_4 ?_
  refine ic_2 dX9_begin_6 ?_
  refine il_1 dX9_begin_7 ?_
  refine wp_imul dX9_begin_8 (r32 (by omega) (by omega)) ?_
  refine wp_iadd dX9_begin_9 (r32 (by omega) (by omega)) ?_
  refine al_0 dX9_begin_10 ?_
  refine g_X9_7 (337) dX9_begin_11 rfl tt336 (rr9_0 tt336) (by omega) ?_
  refine bi_25 dX9_begin_14 ?_
  refine il_1 dX9_begin_16 ?_
  refine wp_iadd dX9_begin_17 (r32 (by omega) (by omega)) ?_
  refine wp_iaload dX9_begin_18 tt337 (by omega) (by omega) ?_
  refine wp_iastore dX9_begin_19 tt337 (by omega) (by omega) ?_
  refine al_0 dX9_begin_20 ?_
  refine g_X9_7 (337) dX9_begin_21 rfl tt336 (rr9_0 tt336) (by omega) ?_
  refine bi_13 dX9_begin_24 ?_
  refine ic_2 dX9_begin_26 ?_
  refine il_1 dX9_begin_27 ?_
  refine wp_imul dX9_begin_28 (r32 (by omega) (by omega)) ?_
  refine wp_iadd dX9_begin_29 (r32 (by omega) (by omega)) ?_
  refine ic_1 dX9_begin_30 ?_
  refine wp_iadd dX9_begin_31 (r32 (by omega) (by omega)) ?_
  refine ic_0 dX9_begin_32 ?_
  refine wp_iastore dX9_begin_33 tt337 (by omega) (by omega) ?_
  refine wp_vret dX9_begin_34 rfl ?_
  exact hQ

theorem wX9_undo_36 {G : GT} {δ : Nat} {h hl : Nat → Int → Int} {b : Bool × Bool} {Q : V → Hp → Prop} {R : Int → Int} {x : Int} (hδ : δ ≤ 1680) (x0 : 83 ≤ x) (x1 : x ≤ 1214) : ∀ (n : Nat) (k : Int), ((13 - k).toNat) < n → (0 ≤ k) → (k ≤ 13) → (WP G δ 0 0 MX9_undo 67 [vr 336, vi x, vn] [] (HS (sw h (cpR R 8 (x + 1) 13)) hl b) Q) → WP G δ 0 0 MX9_undo 36 [vr (336), vi x, vi k] [] (HS (sw h (cpR R 8 (x + 1) k)) hl b) Q := by
  intro n
  induction n with
  | zero => intro k hlt; exact absurd hlt (Nat.not_lt_zero _)
  | succ n ih =>
    intro k hlt k0 k1 hQ
    refine il_2 dX9_undo_36 ?_
    refine bi_13 dX9_undo_37 ?_
    refine wp_icmp_ge 67 dX9_undo_39 rfl (fun c39 => ?_) (fun c39 => ?_)
    · refine wp_fg (ls' := [_, _, vn]) ⟨Or.inr rfl, Or.inr rfl, Or.inl rfl, trivial⟩ ?_
      have e : k = 13 := by omega
      subst e
      exact hQ
    · refine al_0 dX9_undo_42 ?_
      refine g_X9_7 (337) dX9_undo_43 rfl tt336 (rr9_0 tt336) (by omega) ?_
      refine bi_8 dX9_undo_46 ?_
      refine il_2 dX9_undo_48 ?_
      refine wp_iadd dX9_undo_49 (r32 (by omega) (by omega)) ?_
      refine al_0 dX9_undo_50 ?_
      refine g_X9_7 (337) dX9_undo_51 rfl tt336 (rr9_0 tt336) (by omega) ?_
      refine il_1 dX9_undo_54 ?_
      refine ic_1 dX9_undo_55 ?_
      refine wp_iadd dX9_undo_56 (r32 (by omega) (by omega)) ?_
      refine il_2 dX9_undo_57 ?_
      refine wp_iadd dX9_undo_58 (r32 (by omega) (by omega)) ?_
      refine wp_iaload dX9_undo_59 tt337 (by omega) (by omega) ?_
      rw [sw_s, cpR_o (by omega)]
      refine wp_iastore dX9_undo_60 tt337 (by omega) (by omega) ?_
      refine ii_2 dX9_undo_61 rfl (by decide) ⟨by decide, by decide⟩ (r32 (by omega) (by omega)) ?_
      refine wp_goto 36 dX9_undo_64 rfl ?_
      rw [up_sw2, cpR_s k0]
      exact ih (k + 1) (by omega) (by omega) (by omega) hQ

theorem wX9_undo_74 {G : GT} {δ : Nat} {h hl : Nat → Int → Int} {b : Bool × Bool} {Q : V → Hp → Prop} {R : Int → Int} {x q nq : Int} (hδ : δ ≤ 1680) (e0 : R 0 = nq) (n4 : nq ≤ 4) (q0 : 0 ≤ q) : ∀ (n : Nat) (p : Int), ((nq - p).toNat) < n → (q ≤ p) → (p ≤ nq) → (WP G δ 0 0 MX9_undo 95 [vr 336, vi x, vn] [] (HS (sw h (bgR R q nq)) hl b) Q) → WP G δ 0 0 MX9_undo 74 [vr (336), vi x, vi p] [] (HS (sw h (bgR R q p)) hl b) Q := by
  intro n
  induction n with
  | zero => intro p hlt; exact absurd hlt (Nat.not_lt_zero _)
  | succ n ih =>
    intro p hlt p0 p1 hQ
    refine il_2 dX9_undo_74 ?_
    refine al_0 dX9_undo_75 ?_
    refine g_X9_7 (337) dX9_undo_76 rfl tt336 (rr9_0 tt336) (by omega) ?_
    refine ic_0 dX9_undo_79 ?_
    refine wp_iaload dX9_undo_80 tt337 (by omega) (by omega) ?_
    rw [sw_s, bgR_o (by omega), e0]
    refine wp_icmp_ge 95 dX9_undo_81 rfl (fun c81 => ?_) (fun c81 => ?_)
    · refine wp_fg (ls' := [_, _, vn]) ⟨Or.inr rfl, Or.inr rfl, Or.inl rfl, trivial⟩ ?_
      have e : p = nq := by omega
      subst e
      exact hQ
    · refine al_0 dX9_undo_84 ?_
      refine il_2 dX9_undo_85 ?_
      refine c_X9_77 dX9_undo_86 rfl tt336 (Nat.le_of_ble_eq_true rfl) (by omega) ?_
      refine wX9_begin (by omega) (by omega) (by omega) ?_
      rw [sw_s, bgR_o (by omega), up_sw2, up_sw2, bgR_s q0 p0 (by omega)]
      refine pv_n ?_
      refine ii_2 dX9_undo_89 rfl (by decide) ⟨by decide, by decide⟩ (r32 (by omega) (by omega)) ?_
      refine wp_goto 74 dX9_undo_92 rfl ?_
      exact ih (p + 1) (by omega) (by omega) (by omega) hQ

theorem wX9_undo_97 {G : GT} {δ : Nat} {h hl : Nat → Int → Int} {b : Bool × Bool} {Q : V → Hp → Prop} {R : Int → Int} {x : Int} (hδ : δ ≤ 1680) (x0 : 83 ≤ x) (x1 : x ≤ 1214) : ∀ (n : Nat) (k : Int), ((25 - k).toNat) < n → (0 ≤ k) → (k ≤ 25) → (WP G δ 0 0 MX9_undo 132 [vr 336, vi x, vn] [] (HS (sw h (cpR R 1253 (x + 14) 25)) hl b) Q) → WP G δ 0 0 MX9_undo 97 [vr (336), vi x, vi k] [] (HS (sw h (cpR R 1253 (x + 14) k)) hl b) Q := by
  intro n
  induction n with
  | zero => intro k hlt; exact absurd hlt (Nat.not_lt_zero _)
  | succ n ih =>
    intro k hlt k0 k1 hQ
    refine il_2 dX9_undo_97 ?_
    refine bi_25 dX9_undo_98 ?_
    refine wp_icmp_ge 132 dX9_undo_100 rfl (fun c100 => ?_) (fun c100 => ?_)
    · refine wp_fg (ls' := [_, _, vn]) ⟨Or.inr rfl, Or.inr rfl, Or.inl rfl, trivial⟩ ?_
      have e : k = 25 := by omega
      subst e
      exact hQ
    · refine al_0 dX9_undo_103 ?_
      refine g_X9_7 (337) dX9_undo_104 rfl tt336 (rr9_0 tt336) (by omega) ?_
      refine si_1253 dX9_undo_107 ?_
      refine il_2 dX9_undo_110 ?_
      refine wp_iadd dX9_undo_111 (r32 (by omega) (by omega)) ?_
      refine al_0 dX9_undo_112 ?_
      refine g_X9_7 (337) dX9_undo_113 rfl tt336 (rr9_0 tt336) (by omega) ?_
      refine il_1 dX9_undo_116 ?_
      refine ic_1 dX9_undo_117 ?_
      refine wp_iadd dX9_undo_118 (r32 (by omega) (by omega)) ?_
      refine bi_13 dX9_undo_119 ?_
      refine wp_iadd dX9_undo_121 (r32 (by omega) (by omega)) ?_
      refine il_2 dX9_undo_122 ?_
      refine wp_iadd dX9_undo_123 (r32 (by omega) (by omega)) ?_
      refine wp_iaload dX9_undo_124 tt337 (by omega) (by omega) ?_
      rw [sw_s, show x + 1 + 13 + k = x + 14 + k by omega, cpR_o (by omega)]
      refine wp_iastore dX9_undo_125 tt337 (by omega) (by omega) ?_
      refine ii_2 dX9_undo_126 rfl (by decide) ⟨by decide, by decide⟩ (r32 (by omega) (by omega)) ?_
      refine wp_goto 97 dX9_undo_129 rfl ?_
      rw [up_sw2, cpR_s k0]
      exact ih (k + 1) (by omega) (by omega) (by omega) hQ

theorem wX9_undo {G : GT} {δ : Nat} {h hl : Nat → Int → Int} {b : Bool × Bool} {Q : V → Hp → Prop} {R : Int → Int} (hδ : δ ≤ 1680) (m : h 337 = R) (V : RV R) (hQ : R 4 = 0 → Q (vi (-1)) (HS h hl b)) (hQ2 : 0 < R 4 → ∀ h', eqX [337] h h' → h' 337 = rBack R → Q (vi (R 4 - 1)) (HS h' hl b)) : WP G δ 0 0 MX9_undo 0 [vr (336), vn, vn] [] (HS h hl b) Q := by
  have n := V.n
  have hs : sw h R = h := by rw [← m]; exact sw_id
  have hE : ∀ X, eqX [337] h (sw h X) := fun X o ho => sw_o (by simpa using ho)
  refine al_0 dX9_undo_0 ?_
  refine g_X9_7 (337) dX9_undo_1 rfl tt336 (rr9_0 tt336) (by omega) ?_
  refine ic_4 dX9_undo_4 ?_
  refine wp_iaload dX9_undo_5 tt337 (by omega) (by omega) ?_
  first | rw [m2] | rw [m1] | rw [m] | rw [sw_s] | skip
  refine wp_if_ne 11 dX9_undo_6 rfl (fun c6 => ?_) (fun c6 => ?_)
  · refine wph ?_ hs.symm
    refine al_0 dX9_undo_11 ?_
    refine g_X9_7 (337) dX9_undo_12 rfl tt336 (rr9_0 tt336) (by omega) ?_
    refine ic_4 dX9_undo_15 ?_
    refine wp_dup2 dX9_undo_16 rfl rfl ?_
    refine wp_iaload dX9_undo_17 tt337 (by omega) (by omega) ?_
    rw [sw_s]
    refine ic_1 dX9_undo_18 ?_
    refine wp_isub dX9_undo_19 (r32 (by omega) (by omega)) ?_
    refine wp_iastore dX9_undo_20 tt337 (by omega) (by omega) ?_
    refine bi_83 dX9_undo_21 ?_
    refine bi_39 dX9_undo_23 ?_
    refine al_0 dX9_undo_25 ?_
    refine g_X9_7 (337) dX9_undo_26 rfl tt336 (rr9_0 tt336) (by omega) ?_
    refine ic_4 dX9_undo_29 ?_
    refine wp_iaload dX9_undo_30 tt337 (by omega) (by omega) ?_
    rw [up_s]
    first | rw [m2] | rw [m1] | rw [m] | rw [sw_s] | skip
    refine wp_imul dX9_undo_31 (r32 (by omega) (by omega)) ?_
    refine wp_iadd dX9_undo_32 (r32 (by omega) (by omega)) ?_
    refine is_1 dX9_undo_33 rfl (by decide) ?_
    refine ic_0 dX9_undo_34 ?_
    refine is_2 dX9_undo_35 rfl (by decide) ?_
    have sx := V.sp (R 4 - 1) (by omega) (by omega)
    have sx0 := sx.1.1
    rw [up_sw2]
    refine wph ?_ (show sw h (ur R 4 (R 4 - 1)) = sw h (cpR (ur R 4 (R 4 - 1)) 8 (83 + 39 * (R 4 - 1) + 1) 0) from by rw [cpR_0])
    refine wX9_undo_36 (by omega) (by omega) (by omega) _ 0 (Nat.lt_succ_self _) (by omega) (by omega) ?_
    have ex : cpR (ur R 4 (R 4 - 1)) 8 (83 + 39 * (R 4 - 1) + 1) 13 (83 + 39 * (R 4 - 1)) = R (83 + 39 * (R 4 - 1)) := by rw [cpR_o (by omega), ur_n (by omega)]
    have e0 : cpR (ur R 4 (R 4 - 1)) 8 (83 + 39 * (R 4 - 1) + 1) 13 0 = R 0 := by rw [cpR_o (by omega), ur_n (by omega)]
    refine al_0 dX9_undo_67 ?_
    refine g_X9_7 (337) dX9_undo_68 rfl tt336 (rr9_0 tt336) (by omega) ?_
    refine il_1 dX9_undo_71 ?_
    refine wp_iaload dX9_undo_72 tt337 (by omega) (by omega) ?_
    rw [sw_s, ex]
    refine is_2 dX9_undo_73 rfl (by decide) ?_
    refine wph ?_ (show _ = sw h (bgR (cpR (ur R 4 (R 4 - 1)) 8 (83 + 39 * (R 4 - 1) + 1) 13) (R (83 + 39 * (R 4 - 1))) (R (83 + 39 * (R 4 - 1)))) from by rw [bgR_0])
    refine wX9_undo_74 (nq := R 0) (by omega) e0 (by omega) (by omega) _ (R (83 + 39 * (R 4 - 1))) (Nat.lt_succ_self _) (by omega) (by omega) ?_
    refine ic_0 dX9_undo_95 ?_
    refine is_2 dX9_undo_96 rfl (by decide) ?_
    refine wph ?_ (show _ = sw h (cpR (bgR (cpR (ur R 4 (R 4 - 1)) 8 (83 + 39 * (R 4 - 1) + 1) 13) (R (83 + 39 * (R 4 - 1))) (R 0)) 1253 (83 + 39 * (R 4 - 1) + 14) 0) from by rw [cpR_0])
    refine wX9_undo_97 (by omega) (by omega) (by omega) _ 0 (Nat.lt_succ_self _) (by omega) (by omega) ?_
    have er := back_row V (by omega) (rfl : 83 + 39 * (R 4 - 1) = _)
    rw [er]
    refine al_0 dX9_undo_132 ?_
    refine g_X9_7 (337) dX9_undo_133 rfl tt336 (rr9_0 tt336) (by omega) ?_
    refine ic_4 dX9_undo_136 ?_
    refine wp_iaload dX9_undo_137 tt337 (by omega) (by omega) ?_
    rw [sw_s, rBack_4]
    refine wp_ireti dX9_undo_138 rfl ?_
    exact hQ2 (by omega) _ (hE _) sw_s
  · refine ic_m1 dX9_undo_9 ?_
    refine wp_ireti dX9_undo_10 rfl ?_
    exact hQ (by omega)
