/-! the model's reader in its cells -/
section TKMS
variable {h h' hl hl' : Nat → Int → Int} {T : Int → Int} {N j : Int}
theorem TkM.w (M : TkM h hl T N j) {x : Int} (x0 : 0 ≤ x) (x1 : x < 29) (x8 : x ≠ 8) : (h 336 9 = 2 ∧ hl 336 11 = wcK x) ↔ kF T N j = x := M.2.2.2.2.2.1 x x0 x1 x8
theorem TkM.n0 (M : TkM h hl T N j) : h 336 9 = 0 ↔ kF T N j = 54 := M.2.2.1
theorem TkM.n1 (M : TkM h hl T N j) : h 336 9 = 1 ↔ kF T N j = 40 := M.2.2.2.1
theorem TkM.num (M : TkM h hl T N j) : kF T N j = 40 → (0 ≤ h 336 10 ∧ h 336 10 ≤ 999999) ∧ vF T N j = min (h 336 10) 10000 := M.2.2.2.2.1
theorem TkM.sg (M : TkM h hl T N j) {x : Int} (x0 : 41 ≤ x) (x1 : x ≤ 53) : h 336 9 = tsg x ↔ kF T N j = x := M.2.2.2.2.2.2.2 x x0 x1
theorem TkM.c (M : TkM h hl T N j) (e7 : h' 336 7 = h 336 7) (e8 : h' 336 8 = h 336 8) (e9 : h' 336 9 = h 336 9) (e10 : h' 336 10 = h 336 10) (el : hl' 336 11 = hl 336 11) : TkM h' hl' T N j := by
  unfold TkM
  rw [e7, e8, e9, e10, el]; exact M
end TKMS
def Wt (h : Nat → Int → Int) (c0 : Int) (W : MCd) : Prop := h 336 13 = W.length ∧ hasM (fun k => h 339 (c0 + k)) 0 W
def PsI (T : Int → Int) (N c0 : Int) (h hl : Nat → Int → Int) (t : MSt) : Prop := TkM h hl T N t.1 ∧ h 336 16 = t.2.1.length ∧ SR (h 341) t.2.1 ∧ h 336 17 = t.2.2.1 ∧ Wt h c0 t.2.2.2.1 ∧ h 336 18 = (if t.2.2.2.2 = true then 1 else 0)
def psK (k : Int) : Prop := k = 7 ∨ k = 8 ∨ k = 9 ∨ k = 10 ∨ k = 13 ∨ k = 16 ∨ k = 17 ∨ k = 18
def PsE (c0 : Int) (h h' : Nat → Int → Int) : Prop := eqX [336, 339, 341] h h' ∧ (∀ k : Int, ¬ psK k → h' 336 k = h 336 k) ∧ ∀ k : Int, (k < c0 ∨ c0 + 608 ≤ k) → h' 339 k = h 339 k
def PsB (T : Int → Int) (N c0 s : Int) (h : Nat → Int → Int) : Prop := (h 336 4 = N ∧ h 340 = T ∧ h 336 12 = c0 - 97 ∧ h 336 14 = s) ∧ (97 ≤ c0 ∧ c0 + 608 ≤ 2820) ∧ BY T N ∧ (s = 0 ∨ s = 1)
section PSS
variable {h h' h'' hl : Nat → Int → Int} {T : Int → Int} {N c0 s : Int}
theorem PsE.rf : PsE c0 h h := ⟨eqX.rf, fun _ _ => rfl, fun _ _ => rfl⟩
theorem PsE.tr (a : PsE c0 h h') (c : PsE c0 h' h'') : PsE c0 h h'' := ⟨a.1.tr c.1, fun k e => (c.2.1 k e).trans (a.2.1 k e), fun k e => (c.2.2 k e).trans (a.2.2 k e)⟩
theorem PsE.u6 (a : PsE c0 h h') {k x : Int} (e : psK k) : PsE c0 h (up h' 336 k x) := ⟨a.1.up (by decide), fun j ej => by rw [up_k (fun z => ej (by rw [z]; exact e))]; exact a.2.1 j ej, fun j ej => by rw [up_o (by decide)]; exact a.2.2 j ej⟩
theorem PsE.u1 (a : PsE c0 h h') {k x : Int} : PsE c0 h (up h' 341 k x) := ⟨a.1.up (by decide), fun j ej => by rw [up_o (by decide)]; exact a.2.1 j ej, fun j ej => by rw [up_o (by decide)]; exact a.2.2 j ej⟩
theorem PsE.u9 (a : PsE c0 h h') {k x : Int} (e0 : c0 ≤ k) (e1 : k < c0 + 608) : PsE c0 h (up h' 339 k x) := ⟨a.1.up (by decide), fun j ej => by rw [up_o (by decide)]; exact a.2.1 j ej, fun j ej => by rw [up_k (by omega)]; exact a.2.2 j ej⟩
theorem PsE.tk (a : PsE c0 h h') (c : eqTk h' h'') : PsE c0 h h'' := ⟨a.1.tr (c.1.mono (by decide)), fun k e => (c.2 k (fun z => e (Or.inl z)) (fun z => e (Or.inr (Or.inl z))) (fun z => e (Or.inr (Or.inr (Or.inl z)))) (fun z => e (Or.inr (Or.inr (Or.inr (Or.inl z)))))).trans (a.2.1 k e), fun k e => by rw [c.1 339 (by decide)]; exact a.2.2 k e⟩
theorem PsB.c (b : PsB T N c0 s h) (e : PsE c0 h h') : PsB T N c0 s h' := by
  obtain ⟨⟨b1, b2, b3, b4⟩, b5⟩ := b
  refine ⟨⟨?_, ?_, ?_, ?_⟩, b5⟩
  · rw [e.2.1 4 (by unfold psK; omega)]; exact b1
  · rw [e.1 340 (by decide)]; exact b2
  · rw [e.2.1 12 (by unfold psK; omega)]; exact b3
  · rw [e.2.1 14 (by unfold psK; omega)]; exact b4
theorem hasM_c {A A' : Int → Int} : ∀ (M : MCd) (w : Int), (∀ k, 2 * w ≤ k → k < 2 * (w + M.length) → A' k = A k) → hasM A w M → hasM A' w M
  | [], _, _, _ => trivial
  | c :: M, w, e, hm => by
    rw [List.length_cons] at e
    obtain ⟨⟨a, b⟩, r⟩ := hm
    refine ⟨⟨?_, ?_⟩, hasM_c M (w + 1) (fun k k0 k1 => e k (by omega) (by omega)) r⟩
    · rw [e (2 * w) (by omega) (by omega)]; exact a
    · rw [e (2 * w + 1) (by omega) (by omega)]; exact b
theorem Wt.c {W : MCd} (w : Wt h c0 W) (e : h' 336 13 = h 336 13) (e9 : ∀ k : Int, c0 ≤ k → k < c0 + 2 * W.length → h' 339 k = h 339 k) : Wt h' c0 W := by
  refine ⟨by rw [e]; exact w.1, hasM_c W 0 (fun k k0 k1 => ?_) w.2⟩
  exact e9 (c0 + k) (by omega) (by omega)
theorem Wt.add {W : MCd} (w : Wt h c0 W) {o v : Int} (e : h' 336 13 = W.length + 1) (ea : h' 339 (c0 + 2 * W.length) = o) (eb : h' 339 (c0 + 2 * W.length + 1) = v) (e9 : ∀ k : Int, c0 ≤ k → k < c0 + 2 * W.length → h' 339 k = h 339 k) : Wt h' c0 (W ++ [(o, v)]) := by
  refine ⟨by rw [e]; simp, ?_⟩
  rw [hasM_app]
  refine ⟨hasM_c W 0 (fun k k0 k1 => e9 (c0 + k) (by omega) (by omega)) w.2, ⟨?_, ?_⟩, trivial⟩
  · show h' 339 (c0 + 2 * (0 + (W.length : Int))) = o
    rw [show c0 + 2 * (0 + (W.length : Int)) = c0 + 2 * W.length by omega]; exact ea
  · show h' 339 (c0 + (2 * (0 + (W.length : Int)) + 1)) = v
    rw [show c0 + (2 * (0 + (W.length : Int)) + 1) = c0 + 2 * W.length + 1 by omega]; exact eb
end PSS
/-- against -/
theorem ag_i {T : Int → Int} {p : Int} : mtB T p 7 8 = true ↔ T p = 97 ∧ T (p + 1) = 103 ∧ T (p + 2) = 97 ∧ T (p + 3) = 105 ∧ T (p + 4) = 110 ∧ T (p + 5) = 115 ∧ T (p + 6) = 116 := by
  have e : lnK 8 = 7 ∧ chK (stK 8 + ((0 : Nat) : Int)) = 97 ∧ chK (stK 8 + ((1 : Nat) : Int)) = 103 ∧ chK (stK 8 + ((2 : Nat) : Int)) = 97 ∧ chK (stK 8 + ((3 : Nat) : Int)) = 105 ∧ chK (stK 8 + ((4 : Nat) : Int)) = 110 ∧ chK (stK 8 + ((5 : Nat) : Int)) = 115 ∧ chK (stK 8 + ((6 : Nat) : Int)) = 116 := by decide +kernel
  obtain ⟨l, c0, c1, c2, c3, c4, c5, c6⟩ := e
  rw [mtB_i]
  constructor
  · rintro ⟨_, a⟩
    refine ⟨?_, ?_, ?_, ?_, ?_, ?_, ?_⟩
    · rw [show p = p + ((0 : Nat) : Int) by omega, a 0 (by decide) (by decide), c0]
    · rw [show p + 1 = p + ((1 : Nat) : Int) by omega, a 1 (by decide) (by decide), c1]
    · rw [show p + 2 = p + ((2 : Nat) : Int) by omega, a 2 (by decide) (by decide), c2]
    · rw [show p + 3 = p + ((3 : Nat) : Int) by omega, a 3 (by decide) (by decide), c3]
    · rw [show p + 4 = p + ((4 : Nat) : Int) by omega, a 4 (by decide) (by decide), c4]
    · rw [show p + 5 = p + ((5 : Nat) : Int) by omega, a 5 (by decide) (by decide), c5]
    · rw [show p + 6 = p + ((6 : Nat) : Int) by omega, a 6 (by decide) (by decide), c6]
  · rintro ⟨a0, a1, a2, a3, a4, a5, a6⟩
    refine ⟨l.symm, fun j j8 jl => ?_⟩
    rcases (show j = 0 ∨ j = 1 ∨ j = 2 ∨ j = 3 ∨ j = 4 ∨ j = 5 ∨ j = 6 by omega) with r | r | r | r | r | r | r
    · rw [r, c0, ← a0]; congr 1; omega
    · rw [r, c1, ← a1]; congr 1
    · rw [r, c2, ← a2]; congr 1
    · rw [r, c3, ← a3]; congr 1
    · rw [r, c4, ← a4]; congr 1
    · rw [r, c5, ← a5]; congr 1
    · rw [r, c6, ← a6]; congr 1
def opA : List Int → Int
  | [] => -1
  | x :: P => if 40 ≤ x then P.length else opA P
theorem opA_R : ∀ {P : List Int}, -1 ≤ opA P ∧ opA P < P.length ∧ (opA P < 0 → opnP P = -1)
  | [] => ⟨Int.le_refl _, by decide, fun _ => rfl⟩
  | x :: P => by
    obtain ⟨a, b, c⟩ := opA_R (P := P)
    unfold opA opnP
    rw [List.length_cons]
    split
    · exact ⟨by omega, by omega, fun z => by omega⟩
    · exact ⟨a, by omega, c⟩
theorem opA_at {f : Int → Int} : ∀ {P : List Int}, SR f P → 0 ≤ opA P → f (opA P) = opnP P
  | [], _, h => absurd h (by decide)
  | x :: P, s, h => by
    unfold opA opnP at *
    split
    · exact s.1
    · rename_i e
      rw [if_neg e] at h
      exact opA_at s.2 h
theorem SR_up {f g : Int → Int} {P : List Int} {x : Int} (s : SR f P) (e : ∀ k : Int, 0 ≤ k → k < P.length → g k = f k) (ex : g P.length = x) : SR g (x :: P) := ⟨ex, SR_c P (fun i a b => (e i a b).symm) s⟩
/-- what a step of the model's reader leaves -/
def PQ (T : Int → Int) (N c0 : Int) (h : Nat → Int → Int) (b : Bool × Bool) (Q : V → Hp → Prop) (r : MRs) : Prop := match r with
  | .inl e => ∀ h' hl' : Nat → Int → Int, PsE c0 h h' → h' 336 8 = pF T N e.2 → Q (vi e.1) (HS h' hl' b)
  | .inr t => ∀ h' hl' : Nat → Int → Int, PsE c0 h h' → PsI T N c0 h' hl' t → Q (vi 0) (HS h' hl' b)
theorem PQ.c {T : Int → Int} {N c0 : Int} {h h1 : Nat → Int → Int} {b : Bool × Bool} {Q : V → Hp → Prop} {r : MRs} (q : PQ T N c0 h b Q r) (e : PsE c0 h h1) : PQ T N c0 h1 b Q r := by
  rcases r with x | t
  · exact fun h' hl' a c => q h' hl' (e.tr a) c
  · exact fun h' hl' a c => q h' hl' (e.tr a) c

theorem wX9_w2 {G : GT} {δ : Nat} {h hl : Nat → Int → Int} {b : Bool × Bool} {Q : V → Hp → Prop} {x y : Int} (hδ : δ ≤ 1700) (x0 : 0 ≤ x) (x1 : x < 256) (y0 : 0 ≤ y) (y1 : y < 256) (hQ : Q (vl (x * 256 + y)) (HS h hl b)) : WP G δ 0 0 MX9_w2 0 [vi x, vi y] [] (HS h hl b) Q := by
  refine il_0 dX9_w2_0 ?_
  refine wp_i2l dX9_w2_1 ?_
  refine bi_8 dX9_w2_2 ?_
  refine wp_lshl dX9_w2_4 ?_
  rw [lshl8 (by omega) (by omega)]
  refine il_1 dX9_w2_5 ?_
  refine wp_i2l dX9_w2_6 ?_
  refine wp_lor dX9_w2_7 ?_
  rw [lbor8 (by omega) (by omega) (by omega) (by omega)]
  refine wp_lret dX9_w2_8 rfl ?_
  exact hQ

theorem wX9_w3 {G : GT} {δ : Nat} {h hl : Nat → Int → Int} {b : Bool × Bool} {Q : V → Hp → Prop} {x y z : Int} (hδ : δ ≤ 1680) (x0 : 0 ≤ x) (x1 : x < 256) (y0 : 0 ≤ y) (y1 : y < 256) (z0 : 0 ≤ z) (z1 : z < 256) (hQ : Q (vl ((x * 256 + y) * 256 + z)) (HS h hl b)) : WP G δ 0 0 MX9_w3 0 [vi x, vi y, vi z] [] (HS h hl b) Q := by
  refine il_0 dX9_w3_0 ?_
  refine il_1 dX9_w3_1 ?_
  refine c_X9_122 dX9_w3_2 rfl (Nat.le_of_ble_eq_true rfl) (by omega) ?_
  refine wX9_w2 (by omega) x0 x1 y0 y1 ?_
  refine pv_l ?_
  refine bi_8 dX9_w3_5 ?_
  refine wp_lshl dX9_w3_7 ?_
  rw [lshl8 (by omega) (by omega)]
  refine il_2 dX9_w3_8 ?_
  refine wp_i2l dX9_w3_9 ?_
  refine wp_lor dX9_w3_10 ?_
  rw [lbor8 (by omega) (by omega) (by omega) (by omega)]
  refine wp_lret dX9_w3_11 rfl ?_
  exact hQ

theorem wX9_w4 {G : GT} {δ : Nat} {h hl : Nat → Int → Int} {b : Bool × Bool} {Q : V → Hp → Prop} {x y z w : Int} (hδ : δ ≤ 1660) (x0 : 0 ≤ x) (x1 : x < 256) (y0 : 0 ≤ y) (y1 : y < 256) (z0 : 0 ≤ z) (z1 : z < 256) (w0 : 0 ≤ w) (w1 : w < 256) (hQ : Q (vl (((x * 256 + y) * 256 + z) * 256 + w)) (HS h hl b)) : WP G δ 0 0 MX9_w4 0 [vi x, vi y, vi z, vi w] [] (HS h hl b) Q := by
  refine il_0 dX9_w4_0 ?_
  refine il_1 dX9_w4_1 ?_
  refine il_2 dX9_w4_2 ?_
  refine c_X9_126 dX9_w4_3 rfl (Nat.le_of_ble_eq_true rfl) (by omega) ?_
  refine wX9_w3 (by omega) x0 x1 y0 y1 z0 z1 ?_
  refine pv_l ?_
  refine bi_8 dX9_w4_6 ?_
  refine wp_lshl dX9_w4_8 ?_
  rw [lshl8 (by omega) (by omega)]
  refine il_3 dX9_w4_9 ?_
  refine wp_i2l dX9_w4_10 ?_
  refine wp_lor dX9_w4_11 ?_
  rw [lbor8 (by omega) (by omega) (by omega) (by omega)]
  refine wp_lret dX9_w4_12 rfl ?_
  exact hQ

theorem wX9_w5 {G : GT} {δ : Nat} {h hl : Nat → Int → Int} {b : Bool × Bool} {Q : V → Hp → Prop} {x y z w v : Int} (hδ : δ ≤ 1640) (x0 : 0 ≤ x) (x1 : x < 256) (y0 : 0 ≤ y) (y1 : y < 256) (z0 : 0 ≤ z) (z1 : z < 256) (w0 : 0 ≤ w) (w1 : w < 256) (v0 : 0 ≤ v) (v1 : v < 256) (hQ : Q (vl ((((x * 256 + y) * 256 + z) * 256 + w) * 256 + v)) (HS h hl b)) : WP G δ 0 0 MX9_w5 0 [vi x, vi y, vi z, vi w, vi v] [] (HS h hl b) Q := by
  refine il_0 dX9_w5_0 ?_
  refine il_1 dX9_w5_1 ?_
  refine il_2 dX9_w5_2 ?_
  refine il_3 dX9_w5_3 ?_
  refine c_X9_130 dX9_w5_4 rfl (Nat.le_of_ble_eq_true rfl) (by omega) ?_
  refine wX9_w4 (by omega) x0 x1 y0 y1 z0 z1 w0 w1 ?_
  refine pv_l ?_
  refine bi_8 dX9_w5_7 ?_
  refine wp_lshl dX9_w5_9 ?_
  rw [lshl8 (by omega) (by omega)]
  refine il_4 dX9_w5_10 ?_
  refine wp_i2l dX9_w5_12 ?_
  refine wp_lor dX9_w5_13 ?_
  rw [lbor8 (by omega) (by omega) (by omega) (by omega)]
  refine wp_lret dX9_w5_14 rfl ?_
  exact hQ

theorem wX9_w6 {G : GT} {δ : Nat} {h hl : Nat → Int → Int} {b : Bool × Bool} {Q : V → Hp → Prop} {x y z w v u : Int} (hδ : δ ≤ 1620) (x0 : 0 ≤ x) (x1 : x < 256) (y0 : 0 ≤ y) (y1 : y < 256) (z0 : 0 ≤ z) (z1 : z < 256) (w0 : 0 ≤ w) (w1 : w < 256) (v0 : 0 ≤ v) (v1 : v < 256) (u0 : 0 ≤ u) (u1 : u < 256) (hQ : Q (vl (((((x * 256 + y) * 256 + z) * 256 + w) * 256 + v) * 256 + u)) (HS h hl b)) : WP G δ 0 0 MX9_w6 0 [vi x, vi y, vi z, vi w, vi v, vi u] [] (HS h hl b) Q := by
  refine il_0 dX9_w6_0 ?_
  refine il_1 dX9_w6_1 ?_
  refine il_2 dX9_w6_2 ?_
  refine il_3 dX9_w6_3 ?_
  refine il_4 dX9_w6_4 ?_
  refine c_X9_134 dX9_w6_6 rfl (Nat.le_of_ble_eq_true rfl) (by omega) ?_
  refine wX9_w5 (by omega) x0 x1 y0 y1 z0 z1 w0 w1 v0 v1 ?_
  refine pv_l ?_
  refine bi_8 dX9_w6_9 ?_
  refine wp_lshl dX9_w6_11 ?_
  rw [lshl8 (by omega) (by omega)]
  refine il_5 dX9_w6_12 ?_
  refine wp_i2l dX9_w6_14 ?_
  refine wp_lor dX9_w6_15 ?_
  rw [lbor8 (by omega) (by omega) (by omega) (by omega)]
  refine wp_lret dX9_w6_16 rfl ?_
  exact hQ

theorem wX9_nextTokenM {G : GT} {δ : Nat} {h hl : Nat → Int → Int} {b : Bool × Bool} {Q : V → Hp → Prop} {j N : Int} {T : Int → Int} (hδ : δ ≤ 1600) (hN : h 336 4 = N) (hT : h 340 = T) (B : BY T N) (j0 : -1 ≤ j) (h7 : h 336 7 = aF T N (j + 1).toNat) (hQ : ∀ h' hl' : Nat → Int → Int, eqTk h h' → TkM h' hl' T N (j + 1) → Q vn (HS h' hl' b)) : WP G δ 0 0 MX9_nextToken 0 [vr 336, vn] [] (HS h hl b) Q := by
  have r := aF_R (T := T) B.1 (j + 1).toNat
  refine wX9_nextToken (a := aF T N (j + 1).toNat) hδ r.1 r.2 h7 hN hT B (fun h' hl' E e1 e2 e3 => hQ h' hl' E ⟨?_, e2, e3⟩)
  rw [e1, show (j + 1 + 1).toNat = (j + 1).toNat + 1 by omega]
  rfl

theorem wX9_isWord {G : GT} {δ : Nat} {h hl : Nat → Int → Int} {b : Bool × Bool} {Q : V → Hp → Prop} {w x j N : Int} {T : Int → Int} (hδ : δ ≤ 1700) (M : TkM h hl T N j) (x0 : 0 ≤ x) (x1 : x < 29) (x8 : x ≠ 8) (hw : w = wcK x) (hQ : Q (vi (b2i (kF T N j = x))) (HS h hl b)) : WP G δ 0 0 MX9_isWord 0 [vr (336), vl w, vn] [] (HS h hl b) Q := by
  have K := M.w x0 x1 x8
  rw [← hw] at K
  refine al_0 dX9_isWord_0 ?_
  refine g_X9_100 dX9_isWord_1 rfl tt336 ?_
  refine ic_2 dX9_isWord_4 ?_
  refine wp_icmp_ne 21 dX9_isWord_5 rfl (fun c5 => ?_) (fun c5 => ?_)
  · refine ic_0 dX9_isWord_21 ?_
    refine wp_iretz dX9_isWord_22 rfl (by omega) ?_
    first
      | exact qv hQ (b2i_t (K.mp ⟨by omega, by omega⟩))
      | exact qv hQ (b2i_f (fun z => by have := K.mpr z; omega))
  · refine al_0 dX9_isWord_8 ?_
    refine g_X9_113 dX9_isWord_9 rfl tt336 ?_
    refine ll_1 dX9_isWord_12 ?_
    refine wp_lcmp dX9_isWord_13 ?_
    refine wp_if_ne 21 dX9_isWord_14 rfl (fun c14 => ?_) (fun c14 => ?_)
    · rw [lcmp_z] at c14
      refine ic_0 dX9_isWord_21 ?_
      refine wp_iretz dX9_isWord_22 rfl (by omega) ?_
      first
        | exact qv hQ (b2i_t (K.mp ⟨by omega, by omega⟩))
        | exact qv hQ (b2i_f (fun z => by have := K.mpr z; omega))
    · rw [lcmp_z] at c14
      refine ic_1 dX9_isWord_17 ?_
      refine wp_goto 22 dX9_isWord_18 rfl ?_
      refine wp_iretz dX9_isWord_22 rfl (by omega) ?_
      first
        | exact qv hQ (b2i_t (K.mp ⟨by omega, by omega⟩))
        | exact qv hQ (b2i_f (fun z => by have := K.mpr z; omega))

theorem wX9_isAgainst {G : GT} {δ : Nat} {h hl : Nat → Int → Int} {b : Bool × Bool} {Q : V → Hp → Prop} {i N c0 s : Int} {T : Int → Int} (hδ : δ ≤ 1600) (Pb : PsB T N c0 s h) (M : TkM h hl T N i) (i0 : 0 ≤ i) (hQ : Q (vi (b2i (kF T N i = 8))) (HS h hl b)) : WP G δ 0 0 MX9_isAgainst 0 [vr (336)] [] (HS h hl b) Q := by
  obtain ⟨⟨hN, hT, h12, h14⟩, hc, B, s01⟩ := Pb
  have B1 := B.2.1
  obtain ⟨p0, p1, p2⟩ := pF_R (T := T) B.1 i
  obtain ⟨p, hp⟩ : ∃ p, p = pF T N i := ⟨_, rfl⟩
  have ae : aF T N (i + 1).toNat = (tkF T N p).2.2 := by
    rw [show (i + 1).toNat = i.toNat + 1 by omega, hp]; rfl
  have te := tkF_e (T := T) (N := N) (p := pF T N i) p1
  have K : (h 336 9 = 2 ∧ mtB T (pF T N i) ((tkF T N (pF T N i)).2.2 - pF T N i) 8 = true) ↔ kF T N i = 8 := M.2.2.2.2.2.2.1
  have e8 := M.2.1
  rw [← hp] at K te p0 p1 e8
  have e7 : h 336 7 = (tkF T N p).2.2 := M.1.trans ae
  obtain ⟨e, he⟩ : ∃ e, e = (tkF T N p).2.2 := ⟨_, rfl⟩
  rw [← he] at K te e7
  have BB : e - p = 7 → ∀ k : Int, 0 ≤ k → k < 7 → bA T N (p + k) = T (p + k) ∧ 0 ≤ T (p + k) ∧ T (p + k) < 256 := fun z k k0 k1 => by
    have := B.2.2 (p + k) (by omega) (by omega)
    exact ⟨bA_i (by omega), by omega, by omega⟩
  
  refine al_0 dX9_isAgainst_0 ?_
  refine g_X9_100 dX9_isAgainst_1 rfl tt336 ?_
  refine ic_2 dX9_isAgainst_4 ?_
  refine wp_icmp_ne 129 dX9_isAgainst_5 rfl (fun c5 => ?_) (fun c5 => ?_)
  · refine ic_0 dX9_isAgainst_129 ?_
    refine wp_iretz dX9_isAgainst_130 rfl (by omega) ?_
    first
      | (refine qv hQ (b2i_f (fun z => ?_))
         have k := K.mpr z
         first
           | omega
           | (have k2 := k.2
              have k3 := (mtB_i.mp k2).1
              rw [show lnK 8 = 7 by decide] at k3
              omega)
           | (have k2 := k.2
              rw [c19, ag_i] at k2
              omega))
      | exact qv hQ (b2i_t (K.mp ⟨by omega, by rw [c19, ag_i]; omega⟩))
  · refine al_0 dX9_isAgainst_8 ?_
    refine g_X9_91 dX9_isAgainst_9 rfl tt336 ?_
    rw [e7]
    refine al_0 dX9_isAgainst_12 ?_
    refine g_X9_97 dX9_isAgainst_13 rfl tt336 ?_
    rw [e8]
    refine wp_isub dX9_isAgainst_16 (r32 (by omega) (by omega)) ?_
    refine bi_7 dX9_isAgainst_17 ?_
    refine wp_icmp_ne 129 dX9_isAgainst_19 rfl (fun c19 => ?_) (fun c19 => ?_)
    · refine ic_0 dX9_isAgainst_129 ?_
      refine wp_iretz dX9_isAgainst_130 rfl (by omega) ?_
      first
        | (refine qv hQ (b2i_f (fun z => ?_))
           have k := K.mpr z
           first
             | omega
             | (have k2 := k.2
                have k3 := (mtB_i.mp k2).1
                rw [show lnK 8 = 7 by decide] at k3
                omega)
             | (have k2 := k.2
                rw [c19, ag_i] at k2
                omega))
        | exact qv hQ (b2i_t (K.mp ⟨by omega, by rw [c19, ag_i]; omega⟩))
    · have c19 : e - p = 7 := by omega
      have BB := BB c19
      obtain ⟨b0, b0a, b0b⟩ := BB 0 (by decide) (by decide)
      obtain ⟨b1, b1a, b1b⟩ := BB 1 (by decide) (by decide)
      obtain ⟨b2, b2a, b2b⟩ := BB 2 (by decide) (by decide)
      obtain ⟨b3, b3a, b3b⟩ := BB 3 (by decide) (by decide)
      obtain ⟨b4, b4a, b4b⟩ := BB 4 (by decide) (by decide)
      obtain ⟨b5, b5a, b5b⟩ := BB 5 (by decide) (by decide)
      obtain ⟨b6, b6a, b6b⟩ := BB 6 (by decide) (by decide)
      rw [Int.add_zero] at b0 b0a b0b
      refine al_0 dX9_isAgainst_22 ?_
      refine al_0 dX9_isAgainst_23 ?_
      refine g_X9_97 dX9_isAgainst_24 rfl tt336 ?_
      rw [e8]
      refine c_X9_94 dX9_isAgainst_27 rfl tt336 (Nat.le_of_ble_eq_true rfl) (by omega) ?_
      refine wX9_byteAt (N := N) (T := T) (by omega) (by omega) hN hT B ?_
      rw [b0]
      refine pv_i ?_
      refine al_0 dX9_isAgainst_30 ?_
      refine al_0 dX9_isAgainst_31 ?_
      refine g_X9_97 dX9_isAgainst_32 rfl tt336 ?_
      rw [e8]
      refine ic_1 dX9_isAgainst_35 ?_
      refine wp_iadd dX9_isAgainst_36 (r32 (by omega) (by omega)) ?_
      refine c_X9_94 dX9_isAgainst_37 rfl tt336 (Nat.le_of_ble_eq_true rfl) (by omega) ?_
      refine wX9_byteAt (N := N) (T := T) (by omega) (by omega) hN hT B ?_
      rw [b1]
      refine pv_i ?_
      refine al_0 dX9_isAgainst_40 ?_
      refine al_0 dX9_isAgainst_41 ?_
      refine g_X9_97 dX9_isAgainst_42 rfl tt336 ?_
      rw [e8]
      refine ic_2 dX9_isAgainst_45 ?_
      refine wp_iadd dX9_isAgainst_46 (r32 (by omega) (by omega)) ?_
      refine c_X9_94 dX9_isAgainst_47 rfl tt336 (Nat.le_of_ble_eq_true rfl) (by omega) ?_
      refine wX9_byteAt (N := N) (T := T) (by omega) (by omega) hN hT B ?_
      rw [b2]
      refine pv_i ?_
      refine al_0 dX9_isAgainst_50 ?_
      refine al_0 dX9_isAgainst_51 ?_
      refine g_X9_97 dX9_isAgainst_52 rfl tt336 ?_
      rw [e8]
      refine ic_3 dX9_isAgainst_55 ?_
      refine wp_iadd dX9_isAgainst_56 (r32 (by omega) (by omega)) ?_
      refine c_X9_94 dX9_isAgainst_57 rfl tt336 (Nat.le_of_ble_eq_true rfl) (by omega) ?_
      refine wX9_byteAt (N := N) (T := T) (by omega) (by omega) hN hT B ?_
      rw [b3]
      refine pv_i ?_
      refine c_X9_130 dX9_isAgainst_60 rfl (Nat.le_of_ble_eq_true rfl) (by omega) ?_
      refine wX9_w4 (by omega) b0a b0b b1a b1b b2a b2b b3a b3b ?_
      refine pv_l ?_
      refine bi_97 dX9_isAgainst_63 ?_
      refine bi_103 dX9_isAgainst_65 ?_
      refine bi_97 dX9_isAgainst_67 ?_
      refine bi_105 dX9_isAgainst_69 ?_
      refine c_X9_130 dX9_isAgainst_71 rfl (Nat.le_of_ble_eq_true rfl) (by omega) ?_
      refine wX9_w4 (by omega) (by decide) (by decide) (by decide) (by decide) (by decide) (by decide) (by decide) (by decide) ?_
      refine pv_l ?_
      refine wp_lcmp dX9_isAgainst_74 ?_
      refine wp_if_ne 129 dX9_isAgainst_75 rfl (fun c75 => ?_) (fun c75 => ?_)
      · rw [lcmp_z] at c75
        refine ic_0 dX9_isAgainst_129 ?_
        refine wp_iretz dX9_isAgainst_130 rfl (by omega) ?_
        first
          | (refine qv hQ (b2i_f (fun z => ?_))
             have k := K.mpr z
             first
               | omega
               | (have k2 := k.2
                  have k3 := (mtB_i.mp k2).1
                  rw [show lnK 8 = 7 by decide] at k3
                  omega)
               | (have k2 := k.2
                  rw [c19, ag_i] at k2
                  omega))
          | exact qv hQ (b2i_t (K.mp ⟨by omega, by rw [c19, ag_i]; omega⟩))
      · rw [lcmp_z] at c75
        refine al_0 dX9_isAgainst_78 ?_
        refine al_0 dX9_isAgainst_79 ?_
        refine g_X9_97 dX9_isAgainst_80 rfl tt336 ?_
        rw [e8]
        refine ic_4 dX9_isAgainst_83 ?_
        refine wp_iadd dX9_isAgainst_84 (r32 (by omega) (by omega)) ?_
        refine c_X9_94 dX9_isAgainst_85 rfl tt336 (Nat.le_of_ble_eq_true rfl) (by omega) ?_
        refine wX9_byteAt (N := N) (T := T) (by omega) (by omega) hN hT B ?_
        rw [b4]
        refine pv_i ?_
        refine al_0 dX9_isAgainst_88 ?_
        refine al_0 dX9_isAgainst_89 ?_
        refine g_X9_97 dX9_isAgainst_90 rfl tt336 ?_
        rw [e8]
        refine ic_5 dX9_isAgainst_93 ?_
        refine wp_iadd dX9_isAgainst_94 (r32 (by omega) (by omega)) ?_
        refine c_X9_94 dX9_isAgainst_95 rfl tt336 (Nat.le_of_ble_eq_true rfl) (by omega) ?_
        refine wX9_byteAt (N := N) (T := T) (by omega) (by omega) hN hT B ?_
        rw [b5]
        refine pv_i ?_
        refine al_0 dX9_isAgainst_98 ?_
        refine al_0 dX9_isAgainst_99 ?_
        refine g_X9_97 dX9_isAgainst_100 rfl tt336 ?_
        rw [e8]
        refine bi_6 dX9_isAgainst_103 ?_
        refine wp_iadd dX9_isAgainst_105 (r32 (by omega) (by omega)) ?_
        refine c_X9_94 dX9_isAgainst_106 rfl tt336 (Nat.le_of_ble_eq_true rfl) (by omega) ?_
        refine wX9_byteAt (N := N) (T := T) (by omega) (by omega) hN hT B ?_
        rw [b6]
        refine pv_i ?_
        refine c_X9_126 dX9_isAgainst_109 rfl (Nat.le_of_ble_eq_true rfl) (by omega) ?_
        refine wX9_w3 (by omega) b4a b4b b5a b5b b6a b6b ?_
        refine pv_l ?_
        refine bi_110 dX9_isAgainst_112 ?_
        refine bi_115 dX9_isAgainst_114 ?_
        refine bi_116 dX9_isAgainst_116 ?_
        refine c_X9_126 dX9_isAgainst_118 rfl (Nat.le_of_ble_eq_true rfl) (by omega) ?_
        refine wX9_w3 (by omega) (by decide) (by decide) (by decide) (by decide) (by decide) (by decide) ?_
        refine pv_l ?_
        refine wp_lcmp dX9_isAgainst_121 ?_
        refine wp_if_ne 129 dX9_isAgainst_122 rfl (fun c122 => ?_) (fun c122 => ?_)
        · rw [lcmp_z] at c122
          refine ic_0 dX9_isAgainst_129 ?_
          refine wp_iretz dX9_isAgainst_130 rfl (by omega) ?_
          first
            | (refine qv hQ (b2i_f (fun z => ?_))
               have k := K.mpr z
               first
                 | omega
                 | (have k2 := k.2
                    have k3 := (mtB_i.mp k2).1
                    rw [show lnK 8 = 7 by decide] at k3
                    omega)
                 | (have k2 := k.2
                    rw [c19, ag_i] at k2
                    omega))
            | exact qv hQ (b2i_t (K.mp ⟨by omega, by rw [c19, ag_i]; omega⟩))
        · rw [lcmp_z] at c122
          refine ic_1 dX9_isAgainst_125 ?_
          refine wp_goto 130 dX9_isAgainst_126 rfl ?_
          refine wp_iretz dX9_isAgainst_130 rfl (by omega) ?_
          first
            | (refine qv hQ (b2i_f (fun z => ?_))
               have k := K.mpr z
               first
                 | omega
                 | (have k2 := k.2
                    have k3 := (mtB_i.mp k2).1
                    rw [show lnK 8 = 7 by decide] at k3
                    omega)
                 | (have k2 := k.2
                    rw [c19, ag_i] at k2
                    omega))
            | exact qv hQ (b2i_t (K.mp ⟨by omega, by rw [c19, ag_i]; omega⟩))

theorem kF_R {T : Int → Int} {N : Int} (i : Int) : 0 ≤ kF T N i ∧ kF T N i ≤ 55 := by
  unfold kF tkF
  have a := wdF_R (T := T) (p := pF T N i) (len := run ltrB T N (pF T N i) - pF T N i)
  have c := sgF_R (c := T (pF T N i))
  split
  · show (0 : Int) ≤ 54 ∧ (54 : Int) ≤ 55; omega
  split
  · dsimp only; omega
  split
  · show (0 : Int) ≤ 40 ∧ (40 : Int) ≤ 55; omega
  split
  · rename_i q
    have := sgF_v q.1
    dsimp only; omega
  · dsimp only; omega
theorem vF_R {T : Int → Int} {N : Int} (n0 : 0 ≤ N) (i : Int) : 0 ≤ vF T N i := by
  obtain ⟨p0, p1, -⟩ := pF_R (T := T) n0 i
  unfold vF tkF
  split
  · exact Int.le_refl _
  split
  · exact Int.le_refl _
  split
  · have rs := runS (f := figB) (T := T) (N := N) (p := pF T N i) figB_o p1
    exact (nvC_R (T := T) (p := pF T N i) _ (fun j hj => figB_i.mp (rs.2.2.1 _ (by omega) (by omega)).2)).1
  split
  · exact Int.le_refl _
  · exact Int.le_refl _
theorem m2c_R {k : Int} (k0 : 0 ≤ k) (k1 : k < 10) : 0 ≤ m2c k ∧ m2c k ≤ 9 ∧ (k < 7 → m2c k < 7) ∧ (7 ≤ k → m2c k = k) := by
  unfold m2c
  split
  · omega
  split <;> omega

theorem wX9_nameOf {G : GT} {δ : Nat} {h hl : Nat → Int → Int} {b : Bool × Bool} {Q : V → Hp → Prop} {i N c0 s : Int} {T : Int → Int} (hδ : δ ≤ 1580) (Pb : PsB T N c0 s h) (M : TkM h hl T N i) (i0 : 0 ≤ i) (hQ : Q (vi (if kF T N i < 10 then m2c (kF T N i) else -1)) (HS h hl b)) : WP G δ 0 0 MX9_nameOf 0 [vr (336)] [] (HS h hl b) Q := by
  have k0 := M.w (x := 0) (by decide) (by decide) (by decide)
  rw [show wcK 0 = 474214787188 by decide] at k0
  have k1 := M.w (x := 1) (by decide) (by decide) (by decide)
  rw [show wcK 1 = 1936484720 by decide] at k1
  have k2 := M.w (x := 2) (by decide) (by decide) (by decide)
  rw [show wcK 2 = 7104884 by decide] at k2
  have k3 := M.w (x := 3) (by decide) (by decide) (by decide)
  rw [show wcK 3 = 121450625394034 by decide] at k3
  have k4 := M.w (x := 4) (by decide) (by decide) (by decide)
  rw [show wcK 4 = 1936292453 by decide] at k4
  have k5 := M.w (x := 5) (by decide) (by decide) (by decide)
  rw [show wcK 5 = 7301484 by decide] at k5
  have k6 := M.w (x := 6) (by decide) (by decide) (by decide)
  rw [show wcK 6 = 513021013607 by decide] at k6
  have k7 := M.w (x := 7) (by decide) (by decide) (by decide)
  rw [show wcK 7 = 478694368626 by decide] at k7
  have k9 := M.w (x := 9) (by decide) (by decide) (by decide)
  rw [show wcK 9 = 7825519 by decide] at k9
  have k8 : (h 336 9 = 2 ∧ mtB T (pF T N i) ((tkF T N (pF T N i)).2.2 - pF T N i) 8 = true) ↔ kF T N i = 8 := M.2.2.2.2.2.2.1
  refine al_0 dX9_nameOf_0 ?_
  refine g_X9_100 dX9_nameOf_1 rfl tt336 ?_
  refine ic_2 dX9_nameOf_4 ?_
  refine wp_icmp_eq 10 dX9_nameOf_5 rfl (fun c5 => ?_) (fun c5 => ?_)
  · refine al_0 dX9_nameOf_10 ?_
    refine g_X9_113 dX9_nameOf_11 rfl tt336 ?_
    refine bi_110 dX9_nameOf_14 ?_
    refine bi_105 dX9_nameOf_16 ?_
    refine bi_103 dX9_nameOf_18 ?_
    refine bi_104 dX9_nameOf_20 ?_
    refine bi_116 dX9_nameOf_22 ?_
    refine c_X9_134 dX9_nameOf_24 rfl (Nat.le_of_ble_eq_true rfl) (by omega) ?_
    refine wX9_w5 (by omega) (by decide) (by decide) (by decide) (by decide) (by decide) (by decide) (by decide) (by decide) (by decide) (by decide) ?_
    refine pv_l ?_
    refine wp_lcmp dX9_nameOf_27 ?_
    refine wp_if_ne 33 dX9_nameOf_28 rfl (fun c28 => ?_) (fun c28 => ?_)
    · rw [lcmp_z] at c28
      have n0 : ¬ kF T N i = 0 := fun z => by have := k0.mpr z; omega
      refine al_0 dX9_nameOf_33 ?_
      refine g_X9_113 dX9_nameOf_34 rfl tt336 ?_
      refine bi_108 dX9_nameOf_37 ?_
      refine bi_105 dX9_nameOf_39 ?_
      refine bi_116 dX9_nameOf_41 ?_
      refine c_X9_126 dX9_nameOf_43 rfl (Nat.le_of_ble_eq_true rfl) (by omega) ?_
      refine wX9_w3 (by omega) (by decide) (by decide) (by decide) (by decide) (by decide) (by decide) ?_
      refine pv_l ?_
      refine wp_lcmp dX9_nameOf_46 ?_
      refine wp_if_ne 52 dX9_nameOf_47 rfl (fun c47 => ?_) (fun c47 => ?_)
      · rw [lcmp_z] at c47
        have n2 : ¬ kF T N i = 2 := fun z => by have := k2.mpr z; omega
        refine al_0 dX9_nameOf_52 ?_
        refine g_X9_113 dX9_nameOf_53 rfl tt336 ?_
        refine bi_110 dX9_nameOf_56 ?_
        refine bi_117 dX9_nameOf_58 ?_
        refine bi_109 dX9_nameOf_60 ?_
        refine bi_98 dX9_nameOf_62 ?_
        refine bi_101 dX9_nameOf_64 ?_
        refine bi_114 dX9_nameOf_66 ?_
        refine c_X9_144 dX9_nameOf_68 rfl (Nat.le_of_ble_eq_true rfl) (by omega) ?_
        refine wX9_w6 (by omega) (by decide) (by decide) (by decide) (by decide) (by decide) (by decide) (by decide) (by decide) (by decide) (by decide) (by decide) (by decide) ?_
        refine pv_l ?_
        refine wp_lcmp dX9_nameOf_71 ?_
        refine wp_if_ne 77 dX9_nameOf_72 rfl (fun c72 => ?_) (fun c72 => ?_)
        · rw [lcmp_z] at c72
          have n3 : ¬ kF T N i = 3 := fun z => by have := k3.mpr z; omega
          refine al_0 dX9_nameOf_77 ?_
          refine g_X9_113 dX9_nameOf_78 rfl tt336 ?_
          refine bi_115 dX9_nameOf_81 ?_
          refine bi_105 dX9_nameOf_83 ?_
          refine bi_122 dX9_nameOf_85 ?_
          refine bi_101 dX9_nameOf_87 ?_
          refine c_X9_130 dX9_nameOf_89 rfl (Nat.le_of_ble_eq_true rfl) (by omega) ?_
          refine wX9_w4 (by omega) (by decide) (by decide) (by decide) (by decide) (by decide) (by decide) (by decide) (by decide) ?_
          refine pv_l ?_
          refine wp_lcmp dX9_nameOf_92 ?_
          refine wp_if_ne 98 dX9_nameOf_93 rfl (fun c93 => ?_) (fun c93 => ?_)
          · rw [lcmp_z] at c93
            have n4 : ¬ kF T N i = 4 := fun z => by have := k4.mpr z; omega
            refine al_0 dX9_nameOf_98 ?_
            refine g_X9_113 dX9_nameOf_99 rfl tt336 ?_
            refine bi_111 dX9_nameOf_102 ?_
            refine bi_105 dX9_nameOf_104 ?_
            refine bi_108 dX9_nameOf_106 ?_
            refine c_X9_126 dX9_nameOf_108 rfl (Nat.le_of_ble_eq_true rfl) (by omega) ?_
            refine wX9_w3 (by omega) (by decide) (by decide) (by decide) (by decide) (by decide) (by decide) ?_
            refine pv_l ?_
            refine wp_lcmp dX9_nameOf_111 ?_
            refine wp_if_ne 117 dX9_nameOf_112 rfl (fun c112 => ?_) (fun c112 => ?_)
            · rw [lcmp_z] at c112
              have n5 : ¬ kF T N i = 5 := fun z => by have := k5.mpr z; omega
              refine al_0 dX9_nameOf_117 ?_
              refine g_X9_113 dX9_nameOf_118 rfl tt336 ?_
              refine bi_115 dX9_nameOf_121 ?_
              refine bi_108 dX9_nameOf_123 ?_
              refine bi_105 dX9_nameOf_125 ?_
              refine bi_112 dX9_nameOf_127 ?_
              refine c_X9_130 dX9_nameOf_129 rfl (Nat.le_of_ble_eq_true rfl) (by omega) ?_
              refine wX9_w4 (by omega) (by decide) (by decide) (by decide) (by decide) (by decide) (by decide) (by decide) (by decide) ?_
              refine pv_l ?_
              refine wp_lcmp dX9_nameOf_132 ?_
              refine wp_if_ne 138 dX9_nameOf_133 rfl (fun c133 => ?_) (fun c133 => ?_)
              · rw [lcmp_z] at c133
                have n1 : ¬ kF T N i = 1 := fun z => by have := k1.mpr z; omega
                refine al_0 dX9_nameOf_138 ?_
                refine g_X9_113 dX9_nameOf_139 rfl tt336 ?_
                refine bi_119 dX9_nameOf_142 ?_
                refine bi_114 dX9_nameOf_144 ?_
                refine bi_111 dX9_nameOf_146 ?_
                refine bi_110 dX9_nameOf_148 ?_
                refine bi_103 dX9_nameOf_150 ?_
                refine c_X9_134 dX9_nameOf_152 rfl (Nat.le_of_ble_eq_true rfl) (by omega) ?_
                refine wX9_w5 (by omega) (by decide) (by decide) (by decide) (by decide) (by decide) (by decide) (by decide) (by decide) (by decide) (by decide) ?_
                refine pv_l ?_
                refine wp_lcmp dX9_nameOf_155 ?_
                refine wp_if_ne 162 dX9_nameOf_156 rfl (fun c156 => ?_) (fun c156 => ?_)
                · rw [lcmp_z] at c156
                  have n6 : ¬ kF T N i = 6 := fun z => by have := k6.mpr z; omega
                  refine al_0 dX9_nameOf_162 ?_
                  refine g_X9_113 dX9_nameOf_163 rfl tt336 ?_
                  refine bi_111 dX9_nameOf_166 ?_
                  refine bi_116 dX9_nameOf_168 ?_
                  refine bi_104 dX9_nameOf_170 ?_
                  refine bi_101 dX9_nameOf_172 ?_
                  refine bi_114 dX9_nameOf_174 ?_
                  refine c_X9_134 dX9_nameOf_176 rfl (Nat.le_of_ble_eq_true rfl) (by omega) ?_
                  refine wX9_w5 (by omega) (by decide) (by decide) (by decide) (by decide) (by decide) (by decide) (by decide) (by decide) (by decide) (by decide) ?_
                  refine pv_l ?_
                  refine wp_lcmp dX9_nameOf_179 ?_
                  refine wp_if_ne 186 dX9_nameOf_180 rfl (fun c180 => ?_) (fun c180 => ?_)
                  · rw [lcmp_z] at c180
                    have n7 : ¬ kF T N i = 7 := fun z => by have := k7.mpr z; omega
                    refine al_0 dX9_nameOf_186 ?_
                    refine c_X9_148 dX9_nameOf_187 rfl tt336 (Nat.le_of_ble_eq_true rfl) (by omega) ?_
                    refine wX9_isAgainst (by omega) Pb M i0 ?_
                    refine pv_i ?_
                    refine wp_if_eq 198 dX9_nameOf_190 rfl (fun c190 => ?_) (fun c190 => ?_)
                    · rw [b2i_0] at c190
                      refine al_0 dX9_nameOf_198 ?_
                      refine g_X9_113 dX9_nameOf_199 rfl tt336 ?_
                      refine bi_119 dX9_nameOf_202 ?_
                      refine bi_104 dX9_nameOf_204 ?_
                      refine bi_111 dX9_nameOf_206 ?_
                      refine c_X9_126 dX9_nameOf_208 rfl (Nat.le_of_ble_eq_true rfl) (by omega) ?_
                      refine wX9_w3 (by omega) (by decide) (by decide) (by decide) (by decide) (by decide) (by decide) ?_
                      refine pv_l ?_
                      refine wp_lcmp dX9_nameOf_211 ?_
                      refine wp_if_ne 220 dX9_nameOf_212 rfl (fun c212 => ?_) (fun c212 => ?_)
                      · rw [lcmp_z] at c212
                        refine ic_m1 dX9_nameOf_220 ?_
                        refine wp_ireti dX9_nameOf_221 rfl ?_
                        have kr := kF_R (T := T) (N := N) i
                        first
                          | (have e : kF T N i = 8 := c190
                             refine qv hQ ?_
                             rw [e]; decide)
                          | (have e : kF T N i = 9 := k9.mp ⟨by omega, by omega⟩
                             refine qv hQ ?_
                             rw [e]; decide)
                          | (have n8 : ¬ kF T N i = 8 := c190
                             have n9 : ¬ kF T N i = 9 := fun z => by have := k9.mpr z; omega
                             refine qv hQ ?_
                             rw [if_neg (by omega)])
                      · rw [lcmp_z] at c212
                        refine bi_9 dX9_nameOf_215 ?_
                        refine wp_goto 221 dX9_nameOf_217 rfl ?_
                        refine wp_ireti dX9_nameOf_221 rfl ?_
                        have kr := kF_R (T := T) (N := N) i
                        first
                          | (have e : kF T N i = 8 := c190
                             refine qv hQ ?_
                             rw [e]; decide)
                          | (have e : kF T N i = 9 := k9.mp ⟨by omega, by omega⟩
                             refine qv hQ ?_
                             rw [e]; decide)
                          | (have n8 : ¬ kF T N i = 8 := c190
                             have n9 : ¬ kF T N i = 9 := fun z => by have := k9.mpr z; omega
                             refine qv hQ ?_
                             rw [if_neg (by omega)])
                    · rw [b2i_n0] at c190
                      refine bi_8 dX9_nameOf_193 ?_
                      refine wp_goto 221 dX9_nameOf_195 rfl ?_
                      refine wp_ireti dX9_nameOf_221 rfl ?_
                      have kr := kF_R (T := T) (N := N) i
                      first
                        | (have e : kF T N i = 8 := c190
                           refine qv hQ ?_
                           rw [e]; decide)
                        | (have e : kF T N i = 9 := k9.mp ⟨by omega, by omega⟩
                           refine qv hQ ?_
                           rw [e]; decide)
                        | (have n8 : ¬ kF T N i = 8 := c190
                           have n9 : ¬ kF T N i = 9 := fun z => by have := k9.mpr z; omega
                           refine qv hQ ?_
                           rw [if_neg (by omega)])
                  · rw [lcmp_z] at c180
                    refine bi_7 dX9_nameOf_183 ?_
                    refine wp_ireti dX9_nameOf_185 rfl ?_
                    have e : kF T N i = 7 := k7.mp ⟨by omega, by omega⟩
                    refine qv hQ ?_
                    rw [e]; decide
                · rw [lcmp_z] at c156
                  refine bi_6 dX9_nameOf_159 ?_
                  refine wp_ireti dX9_nameOf_161 rfl ?_
                  have e : kF T N i = 6 := k6.mp ⟨by omega, by omega⟩
                  refine qv hQ ?_
                  rw [e]; decide
              · rw [lcmp_z] at c133
                refine ic_5 dX9_nameOf_136 ?_
                refine wp_ireti dX9_nameOf_137 rfl ?_
                have e : kF T N i = 1 := k1.mp ⟨by omega, by omega⟩
                refine qv hQ ?_
                rw [e]; decide
            · rw [lcmp_z] at c112
              refine ic_4 dX9_nameOf_115 ?_
              refine wp_ireti dX9_nameOf_116 rfl ?_
              have e : kF T N i = 5 := k5.mp ⟨by omega, by omega⟩
              refine qv hQ ?_
              rw [e]; decide
          · rw [lcmp_z] at c93
            refine ic_3 dX9_nameOf_96 ?_
            refine wp_ireti dX9_nameOf_97 rfl ?_
            have e : kF T N i = 4 := k4.mp ⟨by omega, by omega⟩
            refine qv hQ ?_
            rw [e]; decide
        · rw [lcmp_z] at c72
          refine ic_2 dX9_nameOf_75 ?_
          refine wp_ireti dX9_nameOf_76 rfl ?_
          have e : kF T N i = 3 := k3.mp ⟨by omega, by omega⟩
          refine qv hQ ?_
          rw [e]; decide
      · rw [lcmp_z] at c47
        refine ic_1 dX9_nameOf_50 ?_
        refine wp_ireti dX9_nameOf_51 rfl ?_
        have e : kF T N i = 2 := k2.mp ⟨by omega, by omega⟩
        refine qv hQ ?_
        rw [e]; decide
    · rw [lcmp_z] at c28
      refine ic_0 dX9_nameOf_31 ?_
      refine wp_ireti dX9_nameOf_32 rfl ?_
      have e : kF T N i = 0 := k0.mp ⟨by omega, by omega⟩
      refine qv hQ ?_
      rw [e]; decide
  · refine ic_m1 dX9_nameOf_8 ?_
    refine wp_ireti dX9_nameOf_9 rfl ?_
    refine qv hQ ?_
    rw [if_neg (fun z => ?_)]
    have kr := kF_R (T := T) (N := N) i
    rcases (show kF T N i = 0 ∨ kF T N i = 1 ∨ kF T N i = 2 ∨ kF T N i = 3 ∨ kF T N i = 4 ∨ kF T N i = 5 ∨ kF T N i = 6 ∨ kF T N i = 7 ∨ kF T N i = 8 ∨ kF T N i = 9 by omega) with q | q | q | q | q | q | q | q | q | q
    · have := k0.mpr q; omega
    · have := k1.mpr q; omega
    · have := k2.mpr q; omega
    · have := k3.mpr q; omega
    · have := k4.mpr q; omega
    · have := k5.mpr q; omega
    · have := k6.mpr q; omega
    · have := k7.mpr q; omega
    · have := (k8.mpr q).1; omega
    · have := k9.mpr q; omega

theorem wX9_isOf {G : GT} {δ : Nat} {h hl : Nat → Int → Int} {b : Bool × Bool} {Q : V → Hp → Prop} {x s : Int} (hδ : δ ≤ 1700) (hs : h 336 14 = s) (s01 : s = 0 ∨ s = 1) (hQ : Q (vi (b2i (x < 7 ∨ (x < 9 ∧ s = 0) ∨ (9 ≤ x ∧ s = 1)))) (HS h hl b)) : WP G δ 0 0 MX9_isOf 0 [vr (336), vi x] [] (HS h hl b) Q := by
  refine il_1 dX9_isOf_0 ?_
  refine bi_7 dX9_isOf_1 ?_
  refine wp_icmp_lt 30 dX9_isOf_3 rfl (fun c3 => ?_) (fun c3 => ?_)
  · refine ic_1 dX9_isOf_30 ?_
    refine wp_goto 35 dX9_isOf_31 rfl ?_
    refine wp_iretz dX9_isOf_35 rfl (by omega) ?_
    first | exact qv hQ (b2i_t (by omega)) | exact qv hQ (b2i_f (by omega))
  · refine il_1 dX9_isOf_6 ?_
    refine bi_9 dX9_isOf_7 ?_
    refine wp_icmp_ge 22 dX9_isOf_9 rfl (fun c9 => ?_) (fun c9 => ?_)
    · refine al_0 dX9_isOf_22 ?_
      refine g_X9_152 dX9_isOf_23 rfl tt336 ?_
      rw [hs]
      refine ic_1 dX9_isOf_26 ?_
      refine wp_icmp_ne 34 dX9_isOf_27 rfl (fun c27 => ?_) (fun c27 => ?_)
      · refine ic_0 dX9_isOf_34 ?_
        refine wp_iretz dX9_isOf_35 rfl (by omega) ?_
        first | exact qv hQ (b2i_t (by omega)) | exact qv hQ (b2i_f (by omega))
      · refine ic_1 dX9_isOf_30 ?_
        refine wp_goto 35 dX9_isOf_31 rfl ?_
        refine wp_iretz dX9_isOf_35 rfl (by omega) ?_
        first | exact qv hQ (b2i_t (by omega)) | exact qv hQ (b2i_f (by omega))
    · refine al_0 dX9_isOf_12 ?_
      refine g_X9_152 dX9_isOf_13 rfl tt336 ?_
      rw [hs]
      refine wp_if_ne 34 dX9_isOf_16 rfl (fun c16 => ?_) (fun c16 => ?_)
      · refine ic_0 dX9_isOf_34 ?_
        refine wp_iretz dX9_isOf_35 rfl (by omega) ?_
        first | exact qv hQ (b2i_t (by omega)) | exact qv hQ (b2i_f (by omega))
      · refine wp_goto 30 dX9_isOf_19 rfl ?_
        refine ic_1 dX9_isOf_30 ?_
        refine wp_goto 35 dX9_isOf_31 rfl ?_
        refine wp_iretz dX9_isOf_35 rfl (by omega) ?_
        first | exact qv hQ (b2i_t (by omega)) | exact qv hQ (b2i_f (by omega))

theorem wX9_bindOf {G : GT} {δ : Nat} {h hl : Nat → Int → Int} {b : Bool × Bool} {Q : V → Hp → Prop} {o : Int} (hδ : δ ≤ 1700)  (hQ : Q (vi (bnd o)) (HS h hl b)) : WP G δ 0 0 MX9_bindOf 0 [vi o] [] (HS h hl b) Q := by
  refine il_0 dX9_bindOf_0 ?_
  refine bi_40 dX9_bindOf_1 ?_
  refine wp_icmp_lt 10 dX9_bindOf_3 rfl (fun c3 => ?_) (fun c3 => ?_)
  · refine il_0 dX9_bindOf_10 ?_
    refine bi_22 dX9_bindOf_11 ?_
    refine wp_icmp_ne 20 dX9_bindOf_13 rfl (fun c13 => ?_) (fun c13 => ?_)
    · refine il_0 dX9_bindOf_20 ?_
      refine bi_21 dX9_bindOf_21 ?_
      refine wp_icmp_ne 30 dX9_bindOf_23 rfl (fun c23 => ?_) (fun c23 => ?_)
      · refine il_0 dX9_bindOf_30 ?_
        refine bi_20 dX9_bindOf_31 ?_
        refine wp_icmp_ne 40 dX9_bindOf_33 rfl (fun c33 => ?_) (fun c33 => ?_)
        · refine il_0 dX9_bindOf_40 ?_
          refine bi_10 dX9_bindOf_41 ?_
          refine wp_icmp_lt 50 dX9_bindOf_43 rfl (fun c43 => ?_) (fun c43 => ?_)
          · refine il_0 dX9_bindOf_50 ?_
            refine ic_5 dX9_bindOf_51 ?_
            refine wp_icmp_eq 65 dX9_bindOf_52 rfl (fun c52 => ?_) (fun c52 => ?_)
            · refine bi_7 dX9_bindOf_65 ?_
              refine wp_goto 82 dX9_bindOf_67 rfl ?_
              refine wp_ireti dX9_bindOf_82 rfl ?_
              refine qv hQ ?_
              unfold bnd
              repeat first | rw [if_pos (by omega)] | rw [if_neg (by omega)]
            · refine il_0 dX9_bindOf_55 ?_
              refine ic_2 dX9_bindOf_56 ?_
              refine wp_icmp_eq 65 dX9_bindOf_57 rfl (fun c57 => ?_) (fun c57 => ?_)
              · refine bi_7 dX9_bindOf_65 ?_
                refine wp_goto 82 dX9_bindOf_67 rfl ?_
                refine wp_ireti dX9_bindOf_82 rfl ?_
                refine qv hQ ?_
                unfold bnd
                repeat first | rw [if_pos (by omega)] | rw [if_neg (by omega)]
              · refine il_0 dX9_bindOf_60 ?_
                refine ic_4 dX9_bindOf_61 ?_
                refine wp_icmp_ne 70 dX9_bindOf_62 rfl (fun c62 => ?_) (fun c62 => ?_)
                · refine il_0 dX9_bindOf_70 ?_
                  refine bi_8 dX9_bindOf_71 ?_
                  refine wp_icmp_lt 81 dX9_bindOf_73 rfl (fun c73 => ?_) (fun c73 => ?_)
                  · refine ic_5 dX9_bindOf_81 ?_
                    refine wp_ireti dX9_bindOf_82 rfl ?_
                    refine qv hQ ?_
                    unfold bnd
                    repeat first | rw [if_pos (by omega)] | rw [if_neg (by omega)]
                  · refine bi_6 dX9_bindOf_76 ?_
                    refine wp_goto 82 dX9_bindOf_78 rfl ?_
                    refine wp_ireti dX9_bindOf_82 rfl ?_
                    refine qv hQ ?_
                    unfold bnd
                    repeat first | rw [if_pos (by omega)] | rw [if_neg (by omega)]
                · refine bi_7 dX9_bindOf_65 ?_
                  refine wp_goto 82 dX9_bindOf_67 rfl ?_
                  refine wp_ireti dX9_bindOf_82 rfl ?_
                  refine qv hQ ?_
                  unfold bnd
                  repeat first | rw [if_pos (by omega)] | rw [if_neg (by omega)]
          · refine ic_4 dX9_bindOf_46 ?_
            refine wp_goto 82 dX9_bindOf_47 rfl ?_
            refine wp_ireti dX9_bindOf_82 rfl ?_
            refine qv hQ ?_
            unfold bnd
            repeat first | rw [if_pos (by omega)] | rw [if_neg (by omega)]
        · refine ic_3 dX9_bindOf_36 ?_
          refine wp_goto 82 dX9_bindOf_37 rfl ?_
          refine wp_ireti dX9_bindOf_82 rfl ?_
          refine qv hQ ?_
          unfold bnd
          repeat first | rw [if_pos (by omega)] | rw [if_neg (by omega)]
      · refine ic_2 dX9_bindOf_26 ?_
        refine wp_goto 82 dX9_bindOf_27 rfl ?_
        refine wp_ireti dX9_bindOf_82 rfl ?_
        refine qv hQ ?_
        unfold bnd
        repeat first | rw [if_pos (by omega)] | rw [if_neg (by omega)]
    · refine ic_1 dX9_bindOf_16 ?_
      refine wp_goto 82 dX9_bindOf_17 rfl ?_
      refine wp_ireti dX9_bindOf_82 rfl ?_
      refine qv hQ ?_
      unfold bnd
      repeat first | rw [if_pos (by omega)] | rw [if_neg (by omega)]
  · refine ic_0 dX9_bindOf_6 ?_
    refine wp_goto 82 dX9_bindOf_7 rfl ?_
    refine wp_ireti dX9_bindOf_82 rfl ?_
    refine qv hQ ?_
    unfold bnd
    repeat first | rw [if_pos (by omega)] | rw [if_neg (by omega)]

theorem wX9_emit {G : GT} {δ : Nat} {h hl : Nat → Int → Int} {b : Bool × Bool} {Q : V → Hp → Prop} {o v c0 : Int} {W : MCd} (hδ : δ ≤ 1700) (h12 : h 336 12 = c0 - 97) (hc : 97 ≤ c0 ∧ c0 + 608 ≤ 2820) (hW : Wt h c0 W) (wl : W.length < 304) (hQ : ∀ h' : Nat → Int → Int, eqX [336, 339] h h' → (∀ k : Int, k ≠ 13 → h' 336 k = h 336 k) → (∀ k : Int, (k < c0 ∨ c0 + 608 ≤ k) → h' 339 k = h 339 k) → Wt h' c0 (W ++ [(o, v)]) → Q vn (HS h' hl b)) : WP G δ 0 0 MX9_emit 0 [vr (336), vi o, vi v] [] (HS h hl b) Q := by
  refine al_0 dX9_emit_0 ?_
  refine g_X9_16 (339) dX9_emit_1 rfl tt336 (rr9_2 tt336) (by omega) ?_
  refine al_0 dX9_emit_4 ?_
  refine g_X9_138 dX9_emit_5 rfl tt336 ?_
  rw [h12]
  refine bi_97 dX9_emit_8 ?_
  refine wp_iadd dX9_emit_10 (r32 (by omega) (by omega)) ?_
  refine ic_2 dX9_emit_11 ?_
  refine al_0 dX9_emit_12 ?_
  refine g_X9_141 dX9_emit_13 rfl tt336 ?_
  rw [hW.1]
  refine wp_imul dX9_emit_16 (r32 (by omega) (by omega)) ?_
  refine wp_iadd dX9_emit_17 (r32 (by omega) (by omega)) ?_
  refine il_1 dX9_emit_18 ?_
  refine wp_iastore dX9_emit_19 tt339 (by omega) (by omega) ?_
  refine al_0 dX9_emit_20 ?_
  refine g_X9_16 (339) dX9_emit_21 rfl tt336 (rr9_2 tt336) (by omega) ?_
  refine al_0 dX9_emit_24 ?_
  refine g_X9_138 dX9_emit_25 rfl tt336 ?_
  rw [up_o (o := 339) (q := 336) (by decide)]
  rw [h12]
  refine bi_97 dX9_emit_28 ?_
  refine wp_iadd dX9_emit_30 (r32 (by omega) (by omega)) ?_
  refine ic_2 dX9_emit_31 ?_
  refine al_0 dX9_emit_32 ?_
  refine g_X9_141 dX9_emit_33 rfl tt336 ?_
  rw [up_o (o := 339) (q := 336) (by decide)]
  rw [hW.1]
  refine wp_imul dX9_emit_36 (r32 (by omega) (by omega)) ?_
  refine wp_iadd dX9_emit_37 (r32 (by omega) (by omega)) ?_
  refine ic_1 dX9_emit_38 ?_
  refine wp_iadd dX9_emit_39 (r32 (by omega) (by omega)) ?_
  refine il_2 dX9_emit_40 ?_
  refine wp_iastore dX9_emit_41 tt339 (by omega) (by omega) ?_
  refine al_0 dX9_emit_42 ?_
  refine wp_dup dX9_emit_43 rfl ?_
  refine g_X9_141 dX9_emit_44 rfl tt336 ?_
  rw [up_o (o := 339) (q := 336) (by decide)]
  rw [up_o (o := 339) (q := 336) (by decide)]
  rw [hW.1]
  refine ic_1 dX9_emit_47 ?_
  refine wp_iadd dX9_emit_48 (r32 (by omega) (by omega)) ?_
  refine p_X9_141 dX9_emit_49 rfl tt336 ?_
  refine wp_vret dX9_emit_52 rfl ?_
  refine hQ _ (((eqX.rf.up (by decide)).up (by decide)).up (by decide)) (fun k hk => by rw [up_k hk, up_o (by decide), up_o (by decide)]) (fun k hk => by rw [up_o (by decide), up_k (by omega), up_k (by omega)]) (hW.add (by rw [up_s]) ?_ ?_ (fun k k0 k1 => by rw [up_o (by decide), up_k (by omega), up_k (by omega)]))
  · rw [up_o (by decide), up_k (by omega), show c0 + 2 * (W.length : Int) = c0 - 97 + 97 + 2 * W.length by omega, up_s]
  · rw [up_o (by decide), show c0 + 2 * (W.length : Int) + 1 = c0 - 97 + 97 + 2 * W.length + 1 by omega, up_s]

theorem wX9_settle_0 {G : GT} {δ : Nat} {hl : Nat → Int → Int} {b : Bool × Bool} {Q : V → Hp → Prop} {l c0 : Int} {R : List Int × Int × MCd} {h0 : Nat → Int → Int} (hδ : δ ≤ 1680) (h12 : h0 336 12 = c0 - 97) (hc : 97 ≤ c0 ∧ c0 + 608 ≤ 2820) : ∀ (n : Nat) (P : List Int) (o : Int) (W : MCd) (h : Nat → Int → Int), (P.length) < n → (P.length ≤ 160) → (W.length + P.length ≤ 303) → (-1000 ≤ o - P.length ∧ o ≤ 1000) → (h 336 16 = P.length) → (SR (h 341) P) → (h 336 17 = o) → (Wt h c0 W) → (PsE c0 h0 h ∧ ∀ k : Int, k ≠ 13 → k ≠ 16 → k ≠ 17 → h 336 k = h0 336 k) → (setP l P o W = R) → (∀ h' : Nat → Int → Int, PsE c0 h0 h' → (∀ k : Int, k ≠ 13 → k ≠ 16 → k ≠ 17 → h' 336 k = h0 336 k) → h' 336 16 = R.1.length → SR (h' 341) R.1 → h' 336 17 = R.2.1 → Wt h' c0 R.2.2 → Q vn (HS h' hl b)) → WP G δ 0 0 MX9_settle 0 [vr (336), vi l] [] (HS h hl b) Q := by
  intro n
  induction n with
  | zero => intro P o W h hlt; exact absurd hlt (Nat.not_lt_zero _)
  | succ n ih =>
    intro P o W h hlt pl wp ol h16 hS h17 hW E hR hQ
    refine al_0 dX9_settle_0 ?_
    refine g_X9_155 dX9_settle_1 rfl tt336 ?_
    rw [h16]
    refine wp_if_le 93 dX9_settle_4 rfl (fun c4 => ?_) (fun c4 => ?_)
    · have e : P = [] := List.eq_nil_of_length_eq_zero (by omega)
      have se : setP l P o W = (P, o, W) := setP_st (Or.inl e)
      refine wp_vret dX9_settle_93 rfl ?_
      rw [se] at hR
      subst hR
      exact hQ h E.1 E.2 h16 hS h17 hW
    · obtain ⟨x, P', rfl⟩ := ne1 (st := P) (by omega)
      have lc : ((x :: P').length : Int) = P'.length + 1 := by rw [List.length_cons]; omega
      have lc' : (x :: P').length = P'.length + 1 := List.length_cons
      refine al_0 dX9_settle_7 ?_
      refine g_X9_29 (341) dX9_settle_8 rfl tt336 (rr9_15 tt336) (by omega) ?_
      refine al_0 dX9_settle_11 ?_
      refine g_X9_155 dX9_settle_12 rfl tt336 ?_
      rw [h16]
      refine ic_1 dX9_settle_15 ?_
      refine wp_isub dX9_settle_16 (r32 (by omega) (by omega)) ?_
      refine wp_iaload dX9_settle_17 tt341 (by omega) (by omega) ?_
      rw [SR_top hS (by omega)]
      refine c_X9_158 dX9_settle_18 rfl (Nat.le_of_ble_eq_true rfl) (by omega) ?_
      refine wX9_bindOf (by omega) ?_
      refine pv_i ?_
      refine il_1 dX9_settle_21 ?_
      refine wp_icmp_lt 93 dX9_settle_22 rfl (fun c22 => ?_) (fun c22 => ?_)
      · have se : setP l (x :: P') o W = (x :: P', o, W) := setP_st (Or.inr c22)
        refine wp_vret dX9_settle_93 rfl ?_
        rw [se] at hR
        subst hR
        exact hQ h E.1 E.2 h16 hS h17 hW
      · refine al_0 dX9_settle_25 ?_
        refine wp_dup dX9_settle_26 rfl ?_
        refine g_X9_155 dX9_settle_27 rfl tt336 ?_
        rw [h16]
        refine ic_1 dX9_settle_30 ?_
        refine wp_isub dX9_settle_31 (r32 (by omega) (by omega)) ?_
        refine p_X9_155 dX9_settle_32 rfl tt336 ?_
        refine al_0 dX9_settle_35 ?_
        refine al_0 dX9_settle_36 ?_
        refine g_X9_29 (341) dX9_settle_37 rfl tt336 (rr9_15 tt336) (by omega) ?_
        refine al_0 dX9_settle_40 ?_
        refine g_X9_155 dX9_settle_41 rfl tt336 ?_
        rw [up_s]
        refine wp_iaload dX9_settle_44 tt341 (by omega) (by omega) ?_
        rw [up_o (o := 336) (q := 341) (by decide)]
        rw [SR_top hS (by omega)]
        refine ic_0 dX9_settle_45 ?_
        refine c_X9_161 dX9_settle_46 rfl tt336 (Nat.le_of_ble_eq_true rfl) (by omega) ?_
        refine wX9_emit (c0 := c0) (W := W) (by omega) (by rw [up_k (by decide), E.2 12 (by decide) (by decide) (by decide)]; exact h12) hc (hW.c (by rw [up_k (by decide)]) (fun k _ _ => by rw [up_o (by decide)])) (by omega) (fun h1 E1 F1 G1 W1 => ?_)
        have e16 : h1 336 16 = P'.length := by rw [F1 16 (by decide), up_s, List.length_cons]; omega
        have e17 : h1 336 17 = o := by rw [F1 17 (by decide), up_k (by decide)]; exact h17
        have s1 : SR (h1 341) (x :: P') := SR_c _ (fun i _ _ => by rw [E1 341 (by decide), up_o (by decide)]) hS
        have Ea : PsE c0 h0 h1 := E.1.tr ((PsE.rf.u6 (k := 16) (by unfold psK; omega)).tr ⟨E1.mono (by decide), fun k hk => F1 k (fun z => hk (by unfold psK; omega)), G1⟩)
        have Eb : ∀ k : Int, k ≠ 13 → k ≠ 16 → k ≠ 17 → h1 336 k = h0 336 k := fun k k3 k6 k7 => by rw [F1 k k3, up_k k6]; exact E.2 k k3 k6 k7
        refine pv_n ?_
        refine al_0 dX9_settle_49 ?_
        refine g_X9_29 (341) dX9_settle_50 rfl tt336 (rr9_15 tt336) (by omega) ?_
        refine al_0 dX9_settle_53 ?_
        refine g_X9_155 dX9_settle_54 rfl tt336 ?_
        rw [e16]
        refine wp_iaload dX9_settle_57 tt341 (by omega) (by omega) ?_
        rw [SR_top s1 rfl]
        refine c_X9_158 dX9_settle_58 rfl (Nat.le_of_ble_eq_true rfl) (by omega) ?_
        refine wX9_bindOf (by omega) ?_
        refine pv_i ?_
        refine bi_7 dX9_settle_61 ?_
        refine wp_icmp_eq 80 dX9_settle_63 rfl (fun c63 => ?_) (fun c63 => ?_)
        · refine al_0 dX9_settle_80 ?_
          refine wp_dup dX9_settle_81 rfl ?_
          refine g_X9_165 dX9_settle_82 rfl tt336 ?_
          rw [e17]
          refine ic_1 dX9_settle_85 ?_
          refine wp_isub dX9_settle_86 (r32 (by omega) (by omega)) ?_
          refine p_X9_165 dX9_settle_87 rfl tt336 ?_
          refine wp_goto 0 dX9_settle_90 rfl ?_
          have sx : setP l (x :: P') o W = setP l P' (if bnd x = 7 ∨ x = 20 then o - 1 else o) (W ++ [(x, 0)]) := by
            show (if l ≤ bnd x then _ else _) = _
            rw [if_pos (by omega)]
          rw [sx] at hR
          have wl1 : (W ++ [(x, (0 : Int))]).length = W.length + 1 := by simp
          first
            | (have q : ¬ x = 20 := c77
               rw [if_neg (by omega)] at hR
               exact ih P' o (W ++ [(x, 0)]) h1 (by omega) (by omega) (by omega) (by omega) e16 s1.2 e17 W1 ⟨Ea, Eb⟩ hR hQ)
            | (rw [if_pos (by omega)] at hR
               refine ih P' (o - 1) (W ++ [(x, 0)]) _ (by omega) (by omega) (by omega) (by omega) (by rw [up_k (by decide)]; exact e16) (SR_c _ (fun i _ _ => (up_o (by decide)).symm) s1.2) up_s (W1.c (by rw [up_k (by decide)]) (fun k _ _ => by rw [up_o (by decide)])) ⟨Ea.u6 (by unfold psK; omega), fun k k3 k6 k7 => by rw [up_k k7]; exact Eb k k3 k6 k7⟩ hR hQ)
        · refine al_0 dX9_settle_66 ?_
          refine g_X9_29 (341) dX9_settle_67 rfl tt336 (rr9_15 tt336) (by omega) ?_
          refine al_0 dX9_settle_70 ?_
          refine g_X9_155 dX9_settle_71 rfl tt336 ?_
          rw [e16]
          refine wp_iaload dX9_settle_74 tt341 (by omega) (by omega) ?_
          rw [SR_top s1 rfl]
          refine bi_20 dX9_settle_75 ?_
          refine wp_icmp_ne 0 dX9_settle_77 rfl (fun c77 => ?_) (fun c77 => ?_)
          · have sx : setP l (x :: P') o W = setP l P' (if bnd x = 7 ∨ x = 20 then o - 1 else o) (W ++ [(x, 0)]) := by
              show (if l ≤ bnd x then _ else _) = _
              rw [if_pos (by omega)]
            rw [sx] at hR
            have wl1 : (W ++ [(x, (0 : Int))]).length = W.length + 1 := by simp
            first
              | (have q : ¬ x = 20 := c77
                 rw [if_neg (by omega)] at hR
                 exact ih P' o (W ++ [(x, 0)]) h1 (by omega) (by omega) (by omega) (by omega) e16 s1.2 e17 W1 ⟨Ea, Eb⟩ hR hQ)
              | (rw [if_pos (by omega)] at hR
                 refine ih P' (o - 1) (W ++ [(x, 0)]) _ (by omega) (by omega) (by omega) (by omega) (by rw [up_k (by decide)]; exact e16) (SR_c _ (fun i _ _ => (up_o (by decide)).symm) s1.2) up_s (W1.c (by rw [up_k (by decide)]) (fun k _ _ => by rw [up_o (by decide)])) ⟨Ea.u6 (by unfold psK; omega), fun k k3 k6 k7 => by rw [up_k k7]; exact Eb k k3 k6 k7⟩ hR hQ)
          · refine al_0 dX9_settle_80 ?_
            refine wp_dup dX9_settle_81 rfl ?_
            refine g_X9_165 dX9_settle_82 rfl tt336 ?_
            rw [e17]
            refine ic_1 dX9_settle_85 ?_
            refine wp_isub dX9_settle_86 (r32 (by omega) (by omega)) ?_
            refine p_X9_165 dX9_settle_87 rfl tt336 ?_
            refine wp_goto 0 dX9_settle_90 rfl ?_
            have sx : setP l (x :: P') o W = setP l P' (if bnd x = 7 ∨ x = 20 then o - 1 else o) (W ++ [(x, 0)]) := by
              show (if l ≤ bnd x then _ else _) = _
              rw [if_pos (by omega)]
            rw [sx] at hR
            have wl1 : (W ++ [(x, (0 : Int))]).length = W.length + 1 := by simp
            first
              | (have q : ¬ x = 20 := c77
                 rw [if_neg (by omega)] at hR
                 exact ih P' o (W ++ [(x, 0)]) h1 (by omega) (by omega) (by omega) (by omega) e16 s1.2 e17 W1 ⟨Ea, Eb⟩ hR hQ)
              | (rw [if_pos (by omega)] at hR
                 refine ih P' (o - 1) (W ++ [(x, 0)]) _ (by omega) (by omega) (by omega) (by omega) (by rw [up_k (by decide)]; exact e16) (SR_c _ (fun i _ _ => (up_o (by decide)).symm) s1.2) up_s (W1.c (by rw [up_k (by decide)]) (fun k _ _ => by rw [up_o (by decide)])) ⟨Ea.u6 (by unfold psK; omega), fun k k3 k6 k7 => by rw [up_k k7]; exact Eb k k3 k6 k7⟩ hR hQ)

theorem wX9_settle {G : GT} {δ : Nat} {h hl : Nat → Int → Int} {b : Bool × Bool} {Q : V → Hp → Prop} {l o c0 : Int} {P : List Int} {W : MCd} (hδ : δ ≤ 1680) (h12 : h 336 12 = c0 - 97) (hc : 97 ≤ c0 ∧ c0 + 608 ≤ 2820) (pl : P.length ≤ 160) (wp : W.length + P.length ≤ 303) (ol : -1000 ≤ o - P.length ∧ o ≤ 1000) (h16 : h 336 16 = P.length) (hS : SR (h 341) P) (h17 : h 336 17 = o) (hW : Wt h c0 W) (hQ : ∀ h' : Nat → Int → Int, PsE c0 h h' → (∀ k : Int, k ≠ 13 → k ≠ 16 → k ≠ 17 → h' 336 k = h 336 k) → h' 336 16 = (setP l P o W).1.length → SR (h' 341) (setP l P o W).1 → h' 336 17 = (setP l P o W).2.1 → Wt h' c0 (setP l P o W).2.2 → Q vn (HS h' hl b)) : WP G δ 0 0 MX9_settle 0 [vr (336), vi l] [] (HS h hl b) Q := by
  exact wX9_settle_0 (h0 := h) (by omega) h12 hc _ P o W h (Nat.lt_succ_self _) pl wp ol h16 hS h17 hW ⟨PsE.rf, fun _ _ _ _ => rfl⟩ rfl hQ

theorem wX9_openAt_7 {G : GT} {δ : Nat} {h hl : Nat → Int → Int} {b : Bool × Bool} {Q : V → Hp → Prop} {P : List Int} (hδ : δ ≤ 1700)  : ∀ (n : Nat) (S : List Int), (S.length) < n → (S.length ≤ 160) → (SR (h 341) S) → (opA S = opA P) → (Q (vi (opA P)) (HS h hl b)) → WP G δ 0 0 MX9_openAt 7 [vr (336), vi ((S.length : Int) - 1)] [] (HS h hl b) Q := by
  intro n
  induction n with
  | zero => intro S hlt; exact absurd hlt (Nat.not_lt_zero _)
  | succ n ih =>
    intro S hlt sl hS e hQ
    refine il_1 dX9_openAt_7 ?_
    refine wp_if_lt 28 dX9_openAt_8 rfl (fun c8 => ?_) (fun c8 => ?_)
    · have e0 : S = [] := List.eq_nil_of_length_eq_zero (by omega)
      refine il_1 dX9_openAt_28 ?_
      refine wp_ireti dX9_openAt_29 rfl ?_
      refine qv hQ ?_
      rw [← e]
      first
        | (rw [e0]; rfl)
        | (rw [ox, if_pos (by omega)]; omega)
    · obtain ⟨x, S', rfl⟩ := ne1 (st := S) (by omega)
      have lc : ((x :: S').length : Int) = S'.length + 1 := by rw [List.length_cons]; omega
      have lc' : (x :: S').length = S'.length + 1 := List.length_cons
      have ox : opA (x :: S') = if 40 ≤ x then (S'.length : Int) else opA S' := rfl
      refine al_0 dX9_openAt_11 ?_
      refine g_X9_29 (341) dX9_openAt_12 rfl tt336 (rr9_15 tt336) (by omega) ?_
      refine il_1 dX9_openAt_15 ?_
      refine wp_iaload dX9_openAt_16 tt341 (by omega) (by omega) ?_
      rw [SR_top hS (by omega)]
      refine bi_40 dX9_openAt_17 ?_
      refine wp_icmp_ge 28 dX9_openAt_19 rfl (fun c19 => ?_) (fun c19 => ?_)
      · refine il_1 dX9_openAt_28 ?_
        refine wp_ireti dX9_openAt_29 rfl ?_
        refine qv hQ ?_
        rw [← e]
        first
          | (rw [e0]; rfl)
          | (rw [ox, if_pos (by omega)]; omega)
      · refine ii_1 dX9_openAt_22 rfl (by decide) ⟨by decide, by decide⟩ (r32 (by omega) (by omega)) ?_
        refine wp_goto 7 dX9_openAt_25 rfl ?_
        rw [ox, if_neg (by omega)] at e
        exact (ih S' (by omega) (by omega) hS.2 e hQ).eq rfl (by show [vr 336, vi ((S'.length : Int) - 1)] = _; rw [show ((x :: S').length : Int) - 1 + -1 = (S'.length : Int) - 1 by omega])

theorem wX9_openAt {G : GT} {δ : Nat} {h hl : Nat → Int → Int} {b : Bool × Bool} {Q : V → Hp → Prop} {P : List Int} (hδ : δ ≤ 1700) (pl : P.length ≤ 160) (h16 : h 336 16 = P.length) (hS : SR (h 341) P) (hQ : Q (vi (opA P)) (HS h hl b)) : WP G δ 0 0 MX9_openAt 0 [vr (336), vn] [] (HS h hl b) Q := by
  refine al_0 dX9_openAt_0 ?_
  refine g_X9_155 dX9_openAt_1 rfl tt336 ?_
  rw [h16]
  refine ic_1 dX9_openAt_4 ?_
  refine wp_isub dX9_openAt_5 (r32 (by omega) (by omega)) ?_
  refine is_1 dX9_openAt_6 rfl (by decide) ?_
  exact wX9_openAt_7 (P := P) (by omega) _ P (Nat.lt_succ_self _) pl hS rfl hQ

theorem wX9_openNow {G : GT} {δ : Nat} {h hl : Nat → Int → Int} {b : Bool × Bool} {Q : V → Hp → Prop} {P : List Int} (hδ : δ ≤ 1680) (pl : P.length ≤ 160) (h16 : h 336 16 = P.length) (hS : SR (h 341) P) (hQ : Q (vi (opnP P)) (HS h hl b)) : WP G δ 0 0 MX9_openNow 0 [vr (336)] [] (HS h hl b) Q := by
  have oR := opA_R (P := P)
  refine al_0 dX9_openNow_0 ?_
  refine c_X9_168 dX9_openNow_1 rfl tt336 (Nat.le_of_ble_eq_true rfl) (by omega) ?_
  refine wX9_openAt (by omega) pl h16 hS ?_
  refine pv_i ?_
  refine wp_if_ge 11 dX9_openNow_4 rfl (fun c4 => ?_) (fun c4 => ?_)
  · refine al_0 dX9_openNow_11 ?_
    refine g_X9_29 (341) dX9_openNow_12 rfl tt336 (rr9_15 tt336) (by omega) ?_
    refine al_0 dX9_openNow_15 ?_
    refine c_X9_168 dX9_openNow_16 rfl tt336 (Nat.le_of_ble_eq_true rfl) (by omega) ?_
    refine wX9_openAt (by omega) pl h16 hS ?_
    refine pv_i ?_
    refine wp_iaload dX9_openNow_19 tt341 (by omega) (by omega) ?_
    rw [opA_at hS (by omega)]
    refine wp_ireti dX9_openNow_20 rfl ?_
    first
      | exact hQ
      | exact qv hQ (oR.2.2 (by omega))
  · refine ic_m1 dX9_openNow_7 ?_
    refine wp_goto 20 dX9_openNow_8 rfl ?_
    refine wp_ireti dX9_openNow_20 rfl ?_
    first
      | exact hQ
      | exact qv hQ (oR.2.2 (by omega))

theorem wX9_isCompared_7 {G : GT} {δ : Nat} {h hl : Nat → Int → Int} {b : Bool × Bool} {Q : V → Hp → Prop} {P : List Int} (hδ : δ ≤ 1680)  : ∀ (n : Nat) (S : List Int), (S.length) < n → (S.length ≤ 160) → (SR (h 341) S) → (cmpB S = cmpB P) → (Q (vi (b2i (cmpB P = true))) (HS h hl b)) → WP G δ 0 0 MX9_isCompared 7 [vr (336), vi ((S.length : Int) - 1)] [] (HS h hl b) Q := by
  intro n
  induction n with
  | zero => intro S hlt; exact absurd hlt (Nat.not_lt_zero _)
  | succ n ih =>
    intro S hlt sl hS e hQ
    refine il_1 dX9_isCompared_7 ?_
    refine wp_if_lt 30 dX9_isCompared_8 rfl (fun c8 => ?_) (fun c8 => ?_)
    · have e0 : S = [] := List.eq_nil_of_length_eq_zero (by omega)
      refine il_1 dX9_isCompared_30 ?_
      refine wp_if_lt 51 dX9_isCompared_31 rfl (fun c31 => ?_) (fun c31 => ?_)
      · refine ic_0 dX9_isCompared_51 ?_
        refine wp_iretz dX9_isCompared_52 rfl (by omega) ?_
        rw [← e] at hQ
        first
          | (rw [e0] at hQ; exact qv hQ (b2i_f (by decide)))
          | (exfalso; omega)
          | (rw [ox, if_neg (by omega)] at hQ
             first
               | exact qv hQ (b2i_t (decide_eq_true (by omega)))
               | exact qv hQ (b2i_f (fun z => by have := of_decide_eq_true z; omega)))
      · refine al_0 dX9_isCompared_34 ?_
        refine g_X9_29 (341) dX9_isCompared_35 rfl tt336 (rr9_15 tt336) (by omega) ?_
        refine il_1 dX9_isCompared_38 ?_
        
        refine wp_iaload dX9_isCompared_39 tt341 (by omega) (by omega) ?_
        first
          | rw [SR_top hS (by omega)]
          | skip
        refine c_X9_158 dX9_isCompared_40 rfl (Nat.le_of_ble_eq_true rfl) (by omega) ?_
        refine wX9_bindOf (by omega) ?_
        refine pv_i ?_
        refine ic_4 dX9_isCompared_43 ?_
        refine wp_icmp_ne 51 dX9_isCompared_44 rfl (fun c44 => ?_) (fun c44 => ?_)
        · refine ic_0 dX9_isCompared_51 ?_
          refine wp_iretz dX9_isCompared_52 rfl (by omega) ?_
          rw [← e] at hQ
          first
            | (rw [e0] at hQ; exact qv hQ (b2i_f (by decide)))
            | (exfalso; omega)
            | (rw [ox, if_neg (by omega)] at hQ
               first
                 | exact qv hQ (b2i_t (decide_eq_true (by omega)))
                 | exact qv hQ (b2i_f (fun z => by have := of_decide_eq_true z; omega)))
        · refine ic_1 dX9_isCompared_47 ?_
          refine wp_goto 52 dX9_isCompared_48 rfl ?_
          refine wp_iretz dX9_isCompared_52 rfl (by omega) ?_
          rw [← e] at hQ
          first
            | (rw [e0] at hQ; exact qv hQ (b2i_f (by decide)))
            | (exfalso; omega)
            | (rw [ox, if_neg (by omega)] at hQ
               first
                 | exact qv hQ (b2i_t (decide_eq_true (by omega)))
                 | exact qv hQ (b2i_f (fun z => by have := of_decide_eq_true z; omega)))
    · obtain ⟨x, S', rfl⟩ := ne1 (st := S) (by omega)
      have lc : ((x :: S').length : Int) = S'.length + 1 := by rw [List.length_cons]; omega
      have lc' : (x :: S').length = S'.length + 1 := List.length_cons
      have ox : cmpB (x :: S') = if 4 < bnd x then cmpB S' else decide (bnd x = 4) := rfl
      refine al_0 dX9_isCompared_11 ?_
      refine g_X9_29 (341) dX9_isCompared_12 rfl tt336 (rr9_15 tt336) (by omega) ?_
      refine il_1 dX9_isCompared_15 ?_
      refine wp_iaload dX9_isCompared_16 tt341 (by omega) (by omega) ?_
      rw [SR_top hS (by omega)]
      refine c_X9_158 dX9_isCompared_17 rfl (Nat.le_of_ble_eq_true rfl) (by omega) ?_
      refine wX9_bindOf (by omega) ?_
      refine pv_i ?_
      refine ic_4 dX9_isCompared_20 ?_
      refine wp_icmp_le 30 dX9_isCompared_21 rfl (fun c21 => ?_) (fun c21 => ?_)
      · refine il_1 dX9_isCompared_30 ?_
        refine wp_if_lt 51 dX9_isCompared_31 rfl (fun c31 => ?_) (fun c31 => ?_)
        · refine ic_0 dX9_isCompared_51 ?_
          refine wp_iretz dX9_isCompared_52 rfl (by omega) ?_
          rw [← e] at hQ
          first
            | (rw [e0] at hQ; exact qv hQ (b2i_f (by decide)))
            | (exfalso; omega)
            | (rw [ox, if_neg (by omega)] at hQ
               first
                 | exact qv hQ (b2i_t (decide_eq_true (by omega)))
                 | exact qv hQ (b2i_f (fun z => by have := of_decide_eq_true z; omega)))
        · refine al_0 dX9_isCompared_34 ?_
          refine g_X9_29 (341) dX9_isCompared_35 rfl tt336 (rr9_15 tt336) (by omega) ?_
          refine il_1 dX9_isCompared_38 ?_
          
          refine wp_iaload dX9_isCompared_39 tt341 (by omega) (by omega) ?_
          first
            | rw [SR_top hS (by omega)]
            | skip
          refine c_X9_158 dX9_isCompared_40 rfl (Nat.le_of_ble_eq_true rfl) (by omega) ?_
          refine wX9_bindOf (by omega) ?_
          refine pv_i ?_
          refine ic_4 dX9_isCompared_43 ?_
          refine wp_icmp_ne 51 dX9_isCompared_44 rfl (fun c44 => ?_) (fun c44 => ?_)
          · refine ic_0 dX9_isCompared_51 ?_
            refine wp_iretz dX9_isCompared_52 rfl (by omega) ?_
            rw [← e] at hQ
            first
              | (rw [e0] at hQ; exact qv hQ (b2i_f (by decide)))
              | (exfalso; omega)
              | (rw [ox, if_neg (by omega)] at hQ
                 first
                   | exact qv hQ (b2i_t (decide_eq_true (by omega)))
                   | exact qv hQ (b2i_f (fun z => by have := of_decide_eq_true z; omega)))
          · refine ic_1 dX9_isCompared_47 ?_
            refine wp_goto 52 dX9_isCompared_48 rfl ?_
            refine wp_iretz dX9_isCompared_52 rfl (by omega) ?_
            rw [← e] at hQ
            first
              | (rw [e0] at hQ; exact qv hQ (b2i_f (by decide)))
              | (exfalso; omega)
              | (rw [ox, if_neg (by omega)] at hQ
                 first
                   | exact qv hQ (b2i_t (decide_eq_true (by omega)))
                   | exact qv hQ (b2i_f (fun z => by have := of_decide_eq_true z; omega)))
      · refine ii_1 dX9_isCompared_24 rfl (by decide) ⟨by decide, by decide⟩ (r32 (by omega) (by omega)) ?_
        refine wp_goto 7 dX9_isCompared_27 rfl ?_
        rw [ox, if_pos (by omega)] at e
        exact (ih S' (by omega) (by omega) hS.2 e hQ).eq rfl (by show [vr 336, vi ((S'.length : Int) - 1)] = _; rw [show ((x :: S').length : Int) - 1 + -1 = (S'.length : Int) - 1 by omega])

theorem wX9_isCompared {G : GT} {δ : Nat} {h hl : Nat → Int → Int} {b : Bool × Bool} {Q : V → Hp → Prop} {P : List Int} (hδ : δ ≤ 1680) (pl : P.length ≤ 160) (h16 : h 336 16 = P.length) (hS : SR (h 341) P) (hQ : Q (vi (b2i (cmpB P = true))) (HS h hl b)) : WP G δ 0 0 MX9_isCompared 0 [vr (336), vn] [] (HS h hl b) Q := by
  refine al_0 dX9_isCompared_0 ?_
  refine g_X9_155 dX9_isCompared_1 rfl tt336 ?_
  rw [h16]
  refine ic_1 dX9_isCompared_4 ?_
  refine wp_isub dX9_isCompared_5 (r32 (by omega) (by omega)) ?_
  refine is_1 dX9_isCompared_6 rfl (by decide) ?_
  exact wX9_isCompared_7 (P := P) (by omega) _ P (Nat.lt_succ_self _) pl hS rfl hQ

theorem wX9_isAskAhead {G : GT} {δ : Nat} {h hl : Nat → Int → Int} {b : Bool × Bool} {Q : V → Hp → Prop} {P : List Int} (hδ : δ ≤ 1660) (pl : P.length ≤ 160) (h16 : h 336 16 = P.length) (hS : SR (h 341) P) (hQ : Q (vi (b2i (ahdB P = true))) (HS h hl b)) : WP G δ 0 0 MX9_isAskAhead 0 [vr (336)] [] (HS h hl b) Q := by
  refine al_0 dX9_isAskAhead_0 ?_
  refine c_X9_172 dX9_isAskAhead_1 rfl tt336 (Nat.le_of_ble_eq_true rfl) (by omega) ?_
  refine wX9_openNow (by omega) pl h16 hS ?_
  refine pv_i ?_
  refine bi_42 dX9_isAskAhead_4 ?_
  refine wp_icmp_ne 51 dX9_isAskAhead_6 rfl (fun c6 => ?_) (fun c6 => ?_)
  · refine ic_0 dX9_isAskAhead_51 ?_
    refine wp_iretz dX9_isAskAhead_52 rfl (by omega) ?_
    first
      | exact qv hQ (b2i_t (decide_eq_true ⟨c6, by rw [hx]; omega⟩))
      | exact qv hQ (b2i_f (fun z => by have y := of_decide_eq_true z; first | omega | (rw [hx] at y; omega)))
  · have c6 : opnP P = 42 := by omega
    obtain ⟨x, P', rfl⟩ : ∃ x P', P = x :: P' := by
      cases P with
      | nil => exact absurd c6 (by decide)
      | cons x P' => exact ⟨x, P', rfl⟩
    have lc : ((x :: P').length : Int) = P'.length + 1 := by rw [List.length_cons]; omega
    have lc' : (x :: P').length = P'.length + 1 := List.length_cons
    have hx : hdP (x :: P') = x := rfl
    refine al_0 dX9_isAskAhead_9 ?_
    refine g_X9_29 (341) dX9_isAskAhead_10 rfl tt336 (rr9_15 tt336) (by omega) ?_
    refine al_0 dX9_isAskAhead_13 ?_
    refine g_X9_155 dX9_isAskAhead_14 rfl tt336 ?_
    rw [h16]
    refine ic_1 dX9_isAskAhead_17 ?_
    refine wp_isub dX9_isAskAhead_18 (r32 (by omega) (by omega)) ?_
    refine wp_iaload dX9_isAskAhead_19 tt341 (by omega) (by omega) ?_
    rw [SR_top hS (by omega)]
    refine bi_40 dX9_isAskAhead_20 ?_
    refine wp_icmp_ge 47 dX9_isAskAhead_22 rfl (fun c22 => ?_) (fun c22 => ?_)
    · refine ic_1 dX9_isAskAhead_47 ?_
      refine wp_goto 52 dX9_isAskAhead_48 rfl ?_
      refine wp_iretz dX9_isAskAhead_52 rfl (by omega) ?_
      first
        | exact qv hQ (b2i_t (decide_eq_true ⟨c6, by rw [hx]; omega⟩))
        | exact qv hQ (b2i_f (fun z => by have y := of_decide_eq_true z; first | omega | (rw [hx] at y; omega)))
    · refine al_0 dX9_isAskAhead_25 ?_
      refine g_X9_29 (341) dX9_isAskAhead_26 rfl tt336 (rr9_15 tt336) (by omega) ?_
      refine al_0 dX9_isAskAhead_29 ?_
      refine g_X9_155 dX9_isAskAhead_30 rfl tt336 ?_
      rw [h16]
      refine ic_1 dX9_isAskAhead_33 ?_
      refine wp_isub dX9_isAskAhead_34 (r32 (by omega) (by omega)) ?_
      refine wp_iaload dX9_isAskAhead_35 tt341 (by omega) (by omega) ?_
      rw [SR_top hS (by omega)]
      refine c_X9_158 dX9_isAskAhead_36 rfl (Nat.le_of_ble_eq_true rfl) (by omega) ?_
      refine wX9_bindOf (by omega) ?_
      refine pv_i ?_
      refine ic_1 dX9_isAskAhead_39 ?_
      refine ic_3 dX9_isAskAhead_40 ?_
      refine c_X9_69 dX9_isAskAhead_41 rfl (Nat.le_of_ble_eq_true rfl) (by omega) ?_
      refine wX9_isIn (by omega) ?_
      refine pv_i ?_
      refine wp_if_eq 51 dX9_isAskAhead_44 rfl (fun c44 => ?_) (fun c44 => ?_)
      · rw [b2i_0] at c44
        refine ic_0 dX9_isAskAhead_51 ?_
        refine wp_iretz dX9_isAskAhead_52 rfl (by omega) ?_
        first
          | exact qv hQ (b2i_t (decide_eq_true ⟨c6, by rw [hx]; omega⟩))
          | exact qv hQ (b2i_f (fun z => by have y := of_decide_eq_true z; first | omega | (rw [hx] at y; omega)))
      · rw [b2i_n0] at c44
        refine ic_1 dX9_isAskAhead_47 ?_
        refine wp_goto 52 dX9_isAskAhead_48 rfl ?_
        refine wp_iretz dX9_isAskAhead_52 rfl (by omega) ?_
        first
          | exact qv hQ (b2i_t (decide_eq_true ⟨c6, by rw [hx]; omega⟩))
          | exact qv hQ (b2i_f (fun z => by have y := of_decide_eq_true z; first | omega | (rw [hx] at y; omega)))
