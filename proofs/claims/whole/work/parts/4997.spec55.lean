/-! the model's clauses -/
def FgE (x : Int) (h h' : Nat → Int → Int) : Prop := eqX [336, 339] h h' ∧ (∀ k : Int, k ≠ 7 → k ≠ 8 → k ≠ 9 → k ≠ 10 → h' 336 k = h 336 k) ∧ ∀ k : Int, (k ≤ x ∨ x + 3 < k) → h' 339 k = h 339 k
def NumM (x : Int) (h : Nat → Int → Int) (a : List Int) : Prop := ∀ q : Nat, q < a.length → h 339 (x + 1 + q) = a.getD q 0
def FoM (T : Int → Int) (N x : Int) (h0 : Nat → Int → Int) (b : Bool × Bool) (Q : V → Hp → Prop) (f j : Int) : Prop := ∀ h' hl' : Nat → Int → Int, FgE x h0 h' → h' 336 8 = pF T N j → Q (vi f) (HS h' hl' b)
def SoM (T : Int → Int) (N x : Int) (h0 : Nat → Int → Int) (b : Bool × Bool) (Q : V → Hp → Prop) (j : Int) (a : List Int) : Prop := ∀ h' hl' : Nat → Int → Int, FgE x h0 h' → TkM h' hl' T N j → NumM x h' a → Q (vi 0) (HS h' hl' b)
section FGS
variable {h h' h'' h0 : Nat → Int → Int} {x : Int} {a : List Int} {T : Int → Int} {N : Int}
theorem FgE.rf : FgE x h h := ⟨eqX.rf, fun _ _ _ _ _ => rfl, fun _ _ => rfl⟩
theorem FgE.tr (p : FgE x h h') (q : FgE x h' h'') : FgE x h h'' := ⟨p.1.tr q.1, fun k a b c d => (q.2.1 k a b c d).trans (p.2.1 k a b c d), fun k e => (q.2.2 k e).trans (p.2.2 k e)⟩
theorem FgE.tk (p : FgE x h h') (q : eqTk h' h'') : FgE x h h'' := ⟨p.1.tr (q.1.mono (by decide)), fun k a b c d => (q.2 k a b c d).trans (p.2.1 k a b c d), fun k e => by rw [q.1 339 (by decide)]; exact p.2.2 k e⟩
theorem FgE.u9 (p : FgE x h h') {k v : Int} (k0 : x < k) (k1 : k ≤ x + 3) : FgE x h (up h' 339 k v) := ⟨p.1.up (by decide), fun j a b c d => by rw [up_o (by decide)]; exact p.2.1 j a b c d, fun j e => by rw [up_k (by omega)]; exact p.2.2 j e⟩
theorem NumM.tk (n : NumM x h a) (q : eqTk h h') : NumM x h' a := fun i hi => by rw [q.1 339 (by decide)]; exact n i hi
theorem NumM.add (n : NumM x h a) {v y : Int} (e : y = x + 1 + a.length) : NumM x (up h 339 y v) (a ++ [v]) := fun q hq => by
  rw [List.length_append, List.length_cons, List.length_nil] at hq
  subst e
  by_cases e : q = a.length
  · rw [e, up_s, List.getD_eq_getElem?_getD, List.getElem?_append_right (Nat.le_refl _)]; simp
  · rw [up_k (by omega), n q (by omega), List.getD_eq_getElem?_getD, List.getD_eq_getElem?_getD, List.getElem?_append_left (by omega)]
end FGS
theorem OQ_app {K V : Int → Int} {F F' : Int → Int → Prop} {S S' : Int → List Int → Prop} (hF : ∀ f j, F f j → F' f j) : ∀ (it it2 : List Itm) (i : Int) (a : List Int), (∀ j a, OQ K V F S it2 j a → S' j a) → OQ K V F S (it ++ it2) i a → OQ K V F' S' it i a
  | [], it2, i, a, g, h => g i a h
  | .inl r :: it, it2, i, a, g, h => by
    obtain ⟨h1, h2, h3⟩ := h
    exact ⟨fun e => hF _ _ (h1 e), fun e c => hF _ _ (h2 e c), fun e c d => OQ_app hF it it2 _ _ g (h3 e c d)⟩
  | .inr w :: it, it2, i, a, g, h => by
    obtain ⟨h1, h2⟩ := h
    exact ⟨fun e => hF _ _ (h1 e), fun e => OQ_app hF it it2 _ _ g (h2 e)⟩
/-- only what a law's clause changes -/
def LwE (x c0 : Int) (h h' : Nat → Int → Int) : Prop := eqX [336, 339, 341] h h' ∧ (∀ k : Int, ¬ psK k → h' 336 k = h 336 k) ∧ ∀ k : Int, (k ≤ x ∨ x + 3 < k) → (k < c0 ∨ c0 + 608 ≤ k) → h' 339 k = h 339 k
theorem LwE.p {x c0 : Int} {h h' : Nat → Int → Int} (p : PsE c0 h h') : LwE x c0 h h' := ⟨p.1, p.2.1, fun k _ e => p.2.2 k e⟩
theorem LwE.tr {x c0 : Int} {h h' h'' : Nat → Int → Int} (p : LwE x c0 h h') (q : LwE x c0 h' h'') : LwE x c0 h h'' := ⟨p.1.tr q.1, fun k e => (q.2.1 k e).trans (p.2.1 k e), fun k e f => (q.2.2 k e f).trans (p.2.2 k e f)⟩
theorem LwE.u9 {x c0 : Int} {h h' : Nat → Int → Int} (p : LwE x c0 h h') {k v : Int} (k0 : x < k) (k1 : k ≤ x + 3) : LwE x c0 h (up h' 339 k v) := ⟨p.1.up (by decide), fun j e => by rw [up_o (by decide)]; exact p.2.1 j e, fun j e f => by rw [up_k (by omega)]; exact p.2.2 j e f⟩
theorem wcK_v : wcK 1 = 1936484720 ∧ wcK 17 = 25209 ∧ wcK 18 = 29807 := by decide

theorem wX9_figure {G : GT} {δ : Nat} {h hl : Nat → Int → Int} {b : Bool × Bool} {Q : V → Hp → Prop} {y lo hi : Int} {x i N : Int} {T : Int → Int} {h0 : Nat → Int → Int} {a : List Int} (hδ : δ ≤ 1590) (hN : h 336 4 = N) (hT : h 340 = T) (B : BY T N) (M : TkM h hl T N i) (i0 : 0 ≤ i) (E : FgE x h0 h) (Na : NumM x h a) (x0 : 0 ≤ x) (x1 : x + 3 < 2820) (hy : y = x + 1 + a.length) (al : a.length < 3) (h99 : hi < 10000) (hQ : OQ (kF T N) (vF T N) (FoM T N x h0 b Q) (SoM T N x h0 b Q) [.inl (lo, hi)] i a) : WP G δ 0 0 MX9_figure 0 [vr (336), vi y, vi lo, vi hi] [] (HS h hl b) Q := by
  obtain ⟨q1, q2, q3⟩ := hQ
  have t1 := M.n1
  have hnum := M.num
  refine al_0 dX9_figure_0 ?_
  refine g_X9_100 dX9_figure_1 rfl tt336 ?_
  refine ic_1 dX9_figure_4 ?_
  refine wp_icmp_eq 10 dX9_figure_5 rfl (fun c5 => ?_) (fun c5 => ?_)
  · refine al_0 dX9_figure_10 ?_
    refine g_X9_106 dX9_figure_11 rfl tt336 ?_
    refine il_2 dX9_figure_14 ?_
    refine il_3 dX9_figure_15 ?_
    refine c_X9_69 dX9_figure_16 rfl (Nat.le_of_ble_eq_true rfl) (by omega) ?_
    refine wX9_isIn (by omega) ?_
    have k40 := t1.mp c5
    have hn := hnum k40
    refine pv_i ?_
    refine wp_if_ne 24 dX9_figure_19 rfl (fun c19 => ?_) (fun c19 => ?_)
    · rw [b2i_n0] at c19
      refine al_0 dX9_figure_24 ?_
      refine g_X9_16 (339) dX9_figure_25 rfl tt336 (rr9_2 tt336) (by omega) ?_
      refine il_1 dX9_figure_28 ?_
      refine al_0 dX9_figure_29 ?_
      refine g_X9_106 dX9_figure_30 rfl tt336 ?_
      refine wp_iastore dX9_figure_33 tt339 (by omega) (by omega) ?_
      refine al_0 dX9_figure_34 ?_
      refine c_X9_175 dX9_figure_35 rfl tt336 (Nat.le_of_ble_eq_true rfl) (by omega) ?_
      refine wX9_nextTokenM (T := T) (N := N) (j := i) (by omega) (by rw [up_o (by decide)]; exact hN) (by rw [up_o' (by decide)]; exact hT) B (by omega) (by rw [up_o (by decide)]; exact M.1) (fun h1 hl1 E1 M1 => ?_)
      refine pv_n ?_
      refine ic_0 dX9_figure_38 ?_
      refine wp_ireti dX9_figure_39 rfl ?_
      have ev : vF T N i = h 336 10 := by omega
      refine q3 k40 (by show lo ≤ vF T N i; omega) (by show vF T N i ≤ hi; omega) h1 hl1 ((E.u9 (by omega) (by omega)).tk E1) M1 ?_
      rw [ev]
      exact (Na.add hy).tk E1
    · rw [b2i_0] at c19
      refine ic_2 dX9_figure_22 ?_
      refine wp_ireti dX9_figure_23 rfl ?_
      exact q2 k40 (by show vF T N i < lo ∨ hi < vF T N i; omega) h hl E M.2.1
  · refine ic_1 dX9_figure_8 ?_
    refine wp_ireti dX9_figure_9 rfl ?_
    exact q1 (fun z => c5 (t1.mpr z)) h hl E M.2.1

theorem wX9_behind {G : GT} {δ : Nat} {h hl : Nat → Int → Int} {b : Bool × Bool} {Q : V → Hp → Prop} {y wd w top : Int} {x i N : Int} {T : Int → Int} {h0 : Nat → Int → Int} {a : List Int} (hδ : δ ≤ 1580) (hN : h 336 4 = N) (hT : h 340 = T) (B : BY T N) (M : TkM h hl T N i) (i0 : 0 ≤ i) (E : FgE x h0 h) (Na : NumM x h a) (x0 : 0 ≤ x) (x1 : x + 3 < 2820) (hy : y = x + 1 + a.length) (al : a.length < 3) (h99 : top < 10000) (hw : wd = wcK w) (w0 : 0 ≤ w) (w1 : w < 29) (w8 : w ≠ 8) (hQ : OQ (kF T N) (vF T N) (FoM T N x h0 b Q) (SoM T N x h0 b Q) [.inr w, .inl (0, top)] i a) : WP G δ 0 0 MX9_behind 0 [vr (336), vi y, vl wd, vn, vi top] [] (HS h hl b) Q := by
  obtain ⟨q1, q2⟩ := hQ
  refine al_0 dX9_behind_0 ?_
  refine ll_2 dX9_behind_1 ?_
  refine c_X9_190 dX9_behind_2 rfl tt336 (Nat.le_of_ble_eq_true rfl) (by omega) ?_
  refine wX9_isWord (T := T) (N := N) (j := i) (x := w) (by omega) M w0 w1 w8 hw ?_
  refine pv_i ?_
  refine wp_if_ne 10 dX9_behind_5 rfl (fun c5 => ?_) (fun c5 => ?_)
  · rw [b2i_n0] at c5
    refine al_0 dX9_behind_10 ?_
    refine c_X9_175 dX9_behind_11 rfl tt336 (Nat.le_of_ble_eq_true rfl) (by omega) ?_
    refine wX9_nextTokenM (T := T) (N := N) (j := i) (by omega) hN hT B (by omega) M.1 (fun h1 hl1 E1 M1 => ?_)
    refine pv_n ?_
    refine al_0 dX9_behind_14 ?_
    refine il_1 dX9_behind_15 ?_
    refine ic_0 dX9_behind_16 ?_
    refine il_4 dX9_behind_17 ?_
    refine c_X9_224 dX9_behind_19 rfl tt336 (Nat.le_of_ble_eq_true rfl) (by omega) ?_
    refine wX9_figure (x := x) (h0 := h0) (a := a) (lo := 0) (hi := top) (by omega) (by rw [E1.2 4 (by decide) (by decide) (by decide) (by decide)]; exact hN) (by rw [E1.1 340 (by decide)]; exact hT) B M1 (by omega) (E.tk E1) (Na.tk E1) x0 x1 hy al h99 ?_
    refine OQ_app (S := SoM T N x h0 b Q) (fun f j z h' hl' E' p => ?_) [.inl (0, top)] [] (i + 1) a (fun j a' z h' hl' E' M' N' => ?_) (q2 c5)
    · refine pv_i ?_
      exact wp_ireti dX9_behind_22 rfl (z h' hl' E' p)
    · refine pv_i ?_
      exact wp_ireti dX9_behind_22 rfl (z h' hl' E' M' N')
  · rw [b2i_0] at c5
    refine ic_1 dX9_behind_8 ?_
    refine wp_ireti dX9_behind_9 rfl ?_
    exact q1 c5 h hl E M.2.1

theorem wX9_pair {G : GT} {δ : Nat} {h hl : Nat → Int → Int} {b : Bool × Bool} {Q : V → Hp → Prop} {lo hi wd w tp x i N : Int} {T : Int → Int} {h0 : Nat → Int → Int} (hδ : δ ≤ 1560) (hN : h 336 4 = N) (hT : h 340 = T) (B : BY T N) (M : TkM h hl T N i) (i0 : 0 ≤ i) (E : FgE x h0 h) (x0 : 0 ≤ x) (x1 : x + 3 < 2820) (h99 : hi < 10000) (h99' : tp < 10000) (hw : wd = wcK w) (w0 : 0 ≤ w) (w1 : w < 29) (w8 : w ≠ 8) (hQ : OQ (kF T N) (vF T N) (FoM T N x h0 b Q) (SoM T N x h0 b Q) [.inl (lo, hi), .inr w, .inl (0, tp)] i []) : WP G δ 0 0 MX9_pair 0 [vr 336, vi x, vi lo, vi hi, vl wd, vn, vi tp, vn] [] (HS h hl b) Q := by
  have Na : NumM x h [] := fun q hq => absurd hq (Nat.not_lt_zero _)
  refine al_0 dX9_pair_0 ?_
  refine il_1 dX9_pair_1 ?_
  refine ic_1 dX9_pair_2 ?_
  refine wp_iadd dX9_pair_3 (r32 (by omega) (by omega)) ?_
  refine il_2 dX9_pair_4 ?_
  refine il_3 dX9_pair_5 ?_
  refine c_X9_224 dX9_pair_6 rfl tt336 (Nat.le_of_ble_eq_true rfl) (by omega) ?_
  refine wX9_figure (x := x) (h0 := h0) (a := []) (lo := lo) (hi := hi) (by omega) hN hT B M i0 E Na x0 x1 (by show x + 1 = x + 1 + ((0 : Nat) : Int); omega) (by show (0 : Nat) < 3; decide) h99 ?_
  refine ⟨fun e => ?_, fun e c => ?_, fun e c d => ?_⟩
  · intro h1 hl1 E1 p1
    refine pv_i ?_
    refine is_7 dX9_pair_9 rfl (by decide) ?_
    refine il_7 dX9_pair_11 ?_
    refine wp_if_eq 21 dX9_pair_13 rfl (fun c13 => ?_) (fun c13 => ?_)
    · exact absurd c13 (by decide)
    · refine il_7 dX9_pair_16 ?_
      refine wp_goto 32 dX9_pair_18 rfl ?_
      refine wp_ireti dX9_pair_32 rfl ?_
      exact hQ.1 e h1 hl1 E1 p1
  · intro h1 hl1 E1 p1
    refine pv_i ?_
    refine is_7 dX9_pair_9 rfl (by decide) ?_
    refine il_7 dX9_pair_11 ?_
    refine wp_if_eq 21 dX9_pair_13 rfl (fun c13 => ?_) (fun c13 => ?_)
    · exact absurd c13 (by decide)
    · refine il_7 dX9_pair_16 ?_
      refine wp_goto 32 dX9_pair_18 rfl ?_
      refine wp_ireti dX9_pair_32 rfl ?_
      exact hQ.2.1 e c h1 hl1 E1 p1
  · intro h1 hl1 E1 M1 N1
    refine pv_i ?_
    have hQ := hQ.2.2 e c d
    refine is_7 dX9_pair_9 rfl (by decide) ?_
    refine il_7 dX9_pair_11 ?_
    refine wp_if_eq 21 dX9_pair_13 rfl (fun c13 => ?_) (fun c13 => ?_)
    · refine al_0 dX9_pair_21 ?_
      refine il_1 dX9_pair_22 ?_
      refine ic_2 dX9_pair_23 ?_
      refine wp_iadd dX9_pair_24 (r32 (by omega) (by omega)) ?_
      refine ll_4 dX9_pair_25 ?_
      refine il_6 dX9_pair_27 ?_
      refine c_X9_228 dX9_pair_29 rfl tt336 (Nat.le_of_ble_eq_true rfl) (by omega) ?_
      have bs : h1 336 4 = h 336 4 ∧ h1 340 = h 340 := by
        have z := E1.2.1 4 (by decide) (by decide) (by decide) (by decide)
        have z' := E.2.1 4 (by decide) (by decide) (by decide) (by decide)
        exact ⟨z.trans z'.symm, (E1.1 340 (by decide)).trans (E.1 340 (by decide)).symm⟩
      refine wX9_behind (x := x) (h0 := h0) (a := [] ++ [vF T N i]) (w := w) (by omega) (by rw [bs.1]; exact hN) (by rw [bs.2]; exact hT) B M1 (by omega) E1 N1 x0 x1 (by show x + 2 = x + 1 + ((1 : Nat) : Int); omega) (by simp) h99' hw w0 w1 w8 ?_
      refine OQ_app (F := FoM T N x h0 b Q) (S := SoM T N x h0 b Q) (fun f j z h' hl' E' p => ?_) [.inr w, .inl (0, tp)] [] (i + 1) ([] ++ [vF T N i]) (fun j a' z h' hl' E' M' N' => ?_) hQ
      · refine pv_i ?_
        exact wp_ireti dX9_pair_32 rfl (z h' hl' E' p)
      · refine pv_i ?_
        exact wp_ireti dX9_pair_32 rfl (z h' hl' E' M' N')
    · exact absurd rfl c13

theorem wX9_argueClause {G : GT} {δ : Nat} {h hl : Nat → Int → Int} {b : Bool × Bool} {Q : V → Hp → Prop} {x i N : Int} {T : Int → Int} {h0 : Nat → Int → Int} (hδ : δ ≤ 1540) (hN : h 336 4 = N) (hT : h 340 = T) (B : BY T N) (M : TkM h hl T N i) (i0 : 0 ≤ i) (E : FgE x h0 h) (x0 : 0 ≤ x) (x1 : x + 3 < 2820) (hQ : OQ (kF T N) (vF T N) (FoM T N x h0 b Q) (SoM T N x h0 b Q) [.inl (0, 7), .inr 17, .inl (0, 3), .inr 18, .inl (0, 3)] i []) : WP G δ 0 0 MX9_argueClause 0 [vr 336, vi x, vn] [] (HS h hl b) Q := by
  refine al_0 dX9_argueClause_0 ?_
  refine il_1 dX9_argueClause_1 ?_
  refine ic_0 dX9_argueClause_2 ?_
  refine bi_7 dX9_argueClause_3 ?_
  refine bi_98 dX9_argueClause_5 ?_
  refine bi_121 dX9_argueClause_7 ?_
  refine c_X9_122 dX9_argueClause_9 rfl (Nat.le_of_ble_eq_true rfl) (by omega) ?_
  refine wX9_w2 (by omega) (by decide) (by decide) (by decide) (by decide) ?_
  refine pv_l ?_
  refine ic_3 dX9_argueClause_12 ?_
  refine c_X9_232 dX9_argueClause_13 rfl tt336 (Nat.le_of_ble_eq_true rfl) (by omega) ?_
  have hL : OQ (kF T N) (vF T N) (fun f j => f ≠ 0 ∧ FoM T N x h0 b Q f j) (fun j a => a.length = 2 ∧ i ≤ j ∧ OQ (kF T N) (vF T N) (FoM T N x h0 b Q) (SoM T N x h0 b Q) [.inr 18, .inl (0, 3)] j a) [.inl (0, 7), .inr 17, .inl (0, 3)] i [] := by
    obtain ⟨q1, q2, q3⟩ := hQ
    refine ⟨fun e => ⟨by decide, q1 e⟩, fun e c => ⟨by decide, q2 e c⟩, fun e c d => ?_⟩
    obtain ⟨r1, r2⟩ := q3 e c d
    refine ⟨fun e => ⟨by decide, r1 e⟩, fun e => ?_⟩
    obtain ⟨s1, s2, s3⟩ := r2 e
    exact ⟨fun e => ⟨by decide, s1 e⟩, fun e c => ⟨by decide, s2 e c⟩, fun e c d => ⟨by simp, by omega, s3 e c d⟩⟩
  refine wX9_pair (x := x) (h0 := h0) (w := 17) (by omega) hN hT B M i0 E x0 x1 (by omega) (by omega) (by decide) (by decide) (by decide) (by decide) ?_
  refine OQ_app (fun f j z h1 hl1 E1 p => ?_) [.inl (0, 7), .inr 17, .inl (0, 3)] [] i [] (fun j a' z h1 hl1 E1 M1 N1 => ?_) hL
  · refine pv_i ?_
    refine is_2 dX9_argueClause_16 rfl (by decide) ?_
    refine il_2 dX9_argueClause_17 ?_
    refine wp_if_eq 25 dX9_argueClause_18 rfl (fun c18 => ?_) (fun c18 => ?_)
    · exact absurd c18 z.1
    · refine il_2 dX9_argueClause_21 ?_
      refine wp_goto 40 dX9_argueClause_22 rfl ?_
      refine wp_ireti dX9_argueClause_40 rfl ?_
      exact z.2 h1 hl1 E1 p
  · refine pv_i ?_
    obtain ⟨la, ij, z⟩ := z
    refine is_2 dX9_argueClause_16 rfl (by decide) ?_
    refine il_2 dX9_argueClause_17 ?_
    refine wp_if_eq 25 dX9_argueClause_18 rfl (fun c18 => ?_) (fun c18 => ?_)
    · refine al_0 dX9_argueClause_25 ?_
      refine il_1 dX9_argueClause_26 ?_
      refine ic_3 dX9_argueClause_27 ?_
      refine wp_iadd dX9_argueClause_28 (r32 (by omega) (by omega)) ?_
      refine bi_116 dX9_argueClause_29 ?_
      refine bi_111 dX9_argueClause_31 ?_
      refine c_X9_122 dX9_argueClause_33 rfl (Nat.le_of_ble_eq_true rfl) (by omega) ?_
      refine wX9_w2 (by omega) (by decide) (by decide) (by decide) (by decide) ?_
      refine pv_l ?_
      refine ic_3 dX9_argueClause_36 ?_
      refine c_X9_228 dX9_argueClause_37 rfl tt336 (Nat.le_of_ble_eq_true rfl) (by omega) ?_
      have bs : h1 336 4 = h 336 4 ∧ h1 340 = h 340 := by
        have z := E1.2.1 4 (by decide) (by decide) (by decide) (by decide)
        have z' := E.2.1 4 (by decide) (by decide) (by decide) (by decide)
        exact ⟨z.trans z'.symm, (E1.1 340 (by decide)).trans (E.1 340 (by decide)).symm⟩
      refine wX9_behind (x := x) (h0 := h0) (a := a') (w := 18) (by omega) (by rw [bs.1]; exact hN) (by rw [bs.2]; exact hT) B M1 (by omega) E1 N1 x0 x1 (by omega) (by omega) (by omega) (by decide) (by decide) (by decide) (by decide) ?_
      refine OQ_app (F := FoM T N x h0 b Q) (S := SoM T N x h0 b Q) (fun f j z h' hl' E' p => ?_) [.inr 18, .inl (0, 3)] [] j a' (fun j a' z h' hl' E' M' N' => ?_) z
      · refine pv_i ?_
        exact wp_ireti dX9_argueClause_40 rfl (z h' hl' E' p)
      · refine pv_i ?_
        exact wp_ireti dX9_argueClause_40 rfl (z h' hl' E' M' N')
    · exact absurd rfl c18

theorem wX9_lawClause {G : GT} {δ : Nat} {h hl : Nat → Int → Int} {b : Bool × Bool} {Q : V → Hp → Prop} {n i u x N c0 s : Int} {T : Int → Int} {W : MCd} (hδ : δ ≤ 1530) (Pb : PsB T N c0 s h) (M : TkM h hl T N i) (i0 : 0 ≤ i) (i1 : i ≤ n - 1) (t : TkE (kF T N) n) (hW : Wt h c0 W) (wl : (W.length : Int) ≤ i) (x0 : 0 ≤ x) (x1 : x + 3 < c0) (hF : (∀ f j, (lvP (kF T N) (vF T N) s 8).1 i u = .inl (f, j) → ∀ h' hl' : Nat → Int → Int, LwE x c0 h h' → h' 336 8 = pF T N j → Q (vi f) (HS h' hl' b))) (hQ : ∀ j C Mm D, (lvP (kF T N) (vF T N) s 8).1 i u = .inr (j, C, Mm, D) → ∀ h' hl' : Nat → Int → Int, LwE x c0 h h' → TkM h' hl' T N j → Wt h' c0 (W ++ Mm) → h' 339 (x + 1) = W.length → h' 339 (x + 2) = W.length + Mm.length → Q (vi 0) (HS h' hl' b)) : WP G δ 0 0 MX9_lawClause 0 [vr (336), vi x, vn] [] (HS h hl b) Q := by
  have c28 := Pb.2.1
  refine al_0 dX9_lawClause_0 ?_
  refine g_X9_16 (339) dX9_lawClause_1 rfl tt336 (rr9_2 tt336) (by omega) ?_
  refine il_1 dX9_lawClause_4 ?_
  refine ic_1 dX9_lawClause_5 ?_
  refine wp_iadd dX9_lawClause_6 (r32 (by omega) (by omega)) ?_
  refine al_0 dX9_lawClause_7 ?_
  refine g_X9_141 dX9_lawClause_8 rfl tt336 ?_
  rw [hW.1]
  refine wp_iastore dX9_lawClause_11 tt339 (by omega) (by omega) ?_
  refine al_0 dX9_lawClause_12 ?_
  obtain ⟨h1, e1⟩ : ∃ h1, h1 = up h 339 (x + 1) W.length := ⟨_, rfl⟩
  rw [← e1]
  have L1 : LwE x c0 h h1 := by rw [e1]; exact (LwE.p PsE.rf).u9 (by omega) (by omega)
  have P1 : PsB T N c0 s h1 := by
    obtain ⟨⟨b1, b2, b3, b4⟩, b5⟩ := Pb
    exact ⟨⟨by rw [e1, up_o (by decide)]; exact b1, by rw [e1, up_o' (by decide)]; exact b2, by rw [e1, up_o (by decide)]; exact b3, by rw [e1, up_o (by decide)]; exact b4⟩, b5⟩
  have W1 : Wt h1 c0 W := hW.c (by rw [e1, up_o (by decide)]) (fun k k0 k1 => by rw [e1, up_k (by omega)])
  have M1 : TkM h1 hl T N i := M.c (by rw [e1, up_o (by decide)]) (by rw [e1, up_o (by decide)]) (by rw [e1, up_o (by decide)]) (by rw [e1, up_o (by decide)]) rfl
  have v1 : h1 339 (x + 1) = W.length := by rw [e1, up_s]
  refine c_X9_221 dX9_lawClause_13 rfl tt336 (Nat.le_of_ble_eq_true rfl) (by omega) ?_
  refine wX9_summed (n := n) (u := u) (by omega) P1 M1 i0 i1 t W1 wl ?_
  cases hr : (lvP (kF T N) (vF T N) s 8).1 i u with
  | inl e =>
    intro h2 hl2 E2 p2
    refine pv_i ?_
    refine is_2 dX9_lawClause_16 rfl (by decide) ?_
    refine al_0 dX9_lawClause_17 ?_
    refine g_X9_16 (339) dX9_lawClause_18 rfl tt336 (rr9_2 tt336) (by omega) ?_
    refine il_1 dX9_lawClause_21 ?_
    refine ic_2 dX9_lawClause_22 ?_
    refine wp_iadd dX9_lawClause_23 (r32 (by omega) (by omega)) ?_
    refine al_0 dX9_lawClause_24 ?_
    refine g_X9_141 dX9_lawClause_25 rfl tt336 ?_
    refine wp_iastore dX9_lawClause_28 tt339 (by omega) (by omega) ?_
    refine il_2 dX9_lawClause_29 ?_
    refine wp_ireti dX9_lawClause_30 rfl ?_
    exact hF _ _ hr _ hl2 ((L1.tr (LwE.p E2)).u9 (by omega) (by omega)) (by rw [up_o (by decide)]; exact p2)
  | inr r =>
    obtain ⟨j, C, Mm, D⟩ := r
    intro h2 hl2 E2 M2 W2
    refine pv_i ?_
    refine is_2 dX9_lawClause_16 rfl (by decide) ?_
    refine al_0 dX9_lawClause_17 ?_
    refine g_X9_16 (339) dX9_lawClause_18 rfl tt336 (rr9_2 tt336) (by omega) ?_
    refine il_1 dX9_lawClause_21 ?_
    refine ic_2 dX9_lawClause_22 ?_
    refine wp_iadd dX9_lawClause_23 (r32 (by omega) (by omega)) ?_
    refine al_0 dX9_lawClause_24 ?_
    refine g_X9_141 dX9_lawClause_25 rfl tt336 ?_
    rw [W2.1]
    refine wp_iastore dX9_lawClause_28 tt339 (by omega) (by omega) ?_
    refine il_2 dX9_lawClause_29 ?_
    refine wp_ireti dX9_lawClause_30 rfl ?_
    have lm : ((W ++ Mm).length : Int) = W.length + Mm.length := by rw [List.length_append]; omega
    refine hQ j C Mm D hr _ hl2 ((L1.tr (LwE.p E2)).u9 (by omega) (by omega)) (M2.c (by rw [up_o (by decide)]) (by rw [up_o (by decide)]) (by rw [up_o (by decide)]) (by rw [up_o (by decide)]) rfl) (W2.c (by rw [up_o (by decide)]) (fun k k0 k1 => by rw [up_k (by omega)])) ?_ ?_
    · rw [up_k (by omega), E2.2.2 _ (by omega)]; exact v1
    · rw [up_s]; exact lm

theorem wX9_sortOf {G : GT} {δ : Nat} {h hl : Nat → Int → Int} {b : Bool × Bool} {Q : V → Hp → Prop} {i N : Int} {T : Int → Int} (hδ : δ ≤ 1600) (M : TkM h hl T N i) (hQ : Q (vi (if kF T N i = 0 ∨ (10 ≤ kF T N i ∧ kF T N i ≤ 16) then msK (kF T N i) else -1)) (HS h hl b)) : WP G δ 0 0 MX9_sortOf 0 [vr (336)] [] (HS h hl b) Q := by
  refine al_0 dX9_sortOf_0 ?_
  refine bi_108 dX9_sortOf_1 ?_
  refine bi_111 dX9_sortOf_3 ?_
  refine bi_115 dX9_sortOf_5 ?_
  refine bi_101 dX9_sortOf_7 ?_
  refine bi_115 dX9_sortOf_9 ?_
  refine c_X9_134 dX9_sortOf_11 rfl (Nat.le_of_ble_eq_true rfl) (by omega) ?_
  refine wX9_w5 (by omega) (by decide) (by decide) (by decide) (by decide) (by decide) (by decide) (by decide) (by decide) (by decide) (by decide) ?_
  refine pv_l ?_
  refine c_X9_190 dX9_sortOf_14 rfl tt336 (Nat.le_of_ble_eq_true rfl) (by omega) ?_
  refine wX9_isWord (T := T) (N := N) (j := i) (x := 10) (by omega) M (by decide) (by decide) (by decide) (by decide) ?_
  refine pv_i ?_
  refine wp_if_eq 22 dX9_sortOf_17 rfl (fun c17 => ?_) (fun c17 => ?_)
  · rw [b2i_0] at c17
    refine al_0 dX9_sortOf_22 ?_
    refine bi_102 dX9_sortOf_23 ?_
    refine bi_105 dX9_sortOf_25 ?_
    refine bi_108 dX9_sortOf_27 ?_
    refine bi_108 dX9_sortOf_29 ?_
    refine bi_115 dX9_sortOf_31 ?_
    refine c_X9_134 dX9_sortOf_33 rfl (Nat.le_of_ble_eq_true rfl) (by omega) ?_
    refine wX9_w5 (by omega) (by decide) (by decide) (by decide) (by decide) (by decide) (by decide) (by decide) (by decide) (by decide) (by decide) ?_
    refine pv_l ?_
    refine c_X9_190 dX9_sortOf_36 rfl tt336 (Nat.le_of_ble_eq_true rfl) (by omega) ?_
    refine wX9_isWord (T := T) (N := N) (j := i) (x := 11) (by omega) M (by decide) (by decide) (by decide) (by decide) ?_
    refine pv_i ?_
    refine wp_if_eq 44 dX9_sortOf_39 rfl (fun c39 => ?_) (fun c39 => ?_)
    · rw [b2i_0] at c39
      refine al_0 dX9_sortOf_44 ?_
      refine bi_112 dX9_sortOf_45 ?_
      refine bi_101 dX9_sortOf_47 ?_
      refine bi_114 dX9_sortOf_49 ?_
      refine bi_115 dX9_sortOf_51 ?_
      refine bi_111 dX9_sortOf_53 ?_
      refine bi_110 dX9_sortOf_55 ?_
      refine c_X9_144 dX9_sortOf_57 rfl (Nat.le_of_ble_eq_true rfl) (by omega) ?_
      refine wX9_w6 (by omega) (by decide) (by decide) (by decide) (by decide) (by decide) (by decide) (by decide) (by decide) (by decide) (by decide) (by decide) (by decide) ?_
      refine pv_l ?_
      refine c_X9_190 dX9_sortOf_60 rfl tt336 (Nat.le_of_ble_eq_true rfl) (by omega) ?_
      refine wX9_isWord (T := T) (N := N) (j := i) (x := 12) (by omega) M (by decide) (by decide) (by decide) (by decide) ?_
      refine pv_i ?_
      refine wp_if_eq 68 dX9_sortOf_63 rfl (fun c63 => ?_) (fun c63 => ?_)
      · rw [b2i_0] at c63
        refine al_0 dX9_sortOf_68 ?_
        refine bi_116 dX9_sortOf_69 ?_
        refine bi_117 dX9_sortOf_71 ?_
        refine bi_114 dX9_sortOf_73 ?_
        refine bi_110 dX9_sortOf_75 ?_
        refine bi_115 dX9_sortOf_77 ?_
        refine c_X9_134 dX9_sortOf_79 rfl (Nat.le_of_ble_eq_true rfl) (by omega) ?_
        refine wX9_w5 (by omega) (by decide) (by decide) (by decide) (by decide) (by decide) (by decide) (by decide) (by decide) (by decide) (by decide) ?_
        refine pv_l ?_
        refine c_X9_190 dX9_sortOf_82 rfl tt336 (Nat.le_of_ble_eq_true rfl) (by omega) ?_
        refine wX9_isWord (T := T) (N := N) (j := i) (x := 13) (by omega) M (by decide) (by decide) (by decide) (by decide) ?_
        refine pv_i ?_
        refine wp_if_eq 90 dX9_sortOf_85 rfl (fun c85 => ?_) (fun c85 => ?_)
        · rw [b2i_0] at c85
          refine al_0 dX9_sortOf_90 ?_
          refine bi_97 dX9_sortOf_91 ?_
          refine bi_114 dX9_sortOf_93 ?_
          refine bi_103 dX9_sortOf_95 ?_
          refine bi_117 dX9_sortOf_97 ?_
          refine bi_101 dX9_sortOf_99 ?_
          refine c_X9_134 dX9_sortOf_101 rfl (Nat.le_of_ble_eq_true rfl) (by omega) ?_
          refine wX9_w5 (by omega) (by decide) (by decide) (by decide) (by decide) (by decide) (by decide) (by decide) (by decide) (by decide) (by decide) ?_
          refine pv_l ?_
          refine c_X9_190 dX9_sortOf_104 rfl tt336 (Nat.le_of_ble_eq_true rfl) (by omega) ?_
          refine wX9_isWord (T := T) (N := N) (j := i) (x := 14) (by omega) M (by decide) (by decide) (by decide) (by decide) ?_
          refine pv_i ?_
          refine wp_if_eq 112 dX9_sortOf_107 rfl (fun c107 => ?_) (fun c107 => ?_)
          · rw [b2i_0] at c107
            refine al_0 dX9_sortOf_112 ?_
            refine bi_112 dX9_sortOf_113 ?_
            refine bi_111 dX9_sortOf_115 ?_
            refine bi_117 dX9_sortOf_117 ?_
            refine bi_114 dX9_sortOf_119 ?_
            refine c_X9_130 dX9_sortOf_121 rfl (Nat.le_of_ble_eq_true rfl) (by omega) ?_
            refine wX9_w4 (by omega) (by decide) (by decide) (by decide) (by decide) (by decide) (by decide) (by decide) (by decide) ?_
            refine pv_l ?_
            refine c_X9_190 dX9_sortOf_124 rfl tt336 (Nat.le_of_ble_eq_true rfl) (by omega) ?_
            refine wX9_isWord (T := T) (N := N) (j := i) (x := 15) (by omega) M (by decide) (by decide) (by decide) (by decide) ?_
            refine pv_i ?_
            refine wp_if_eq 132 dX9_sortOf_127 rfl (fun c127 => ?_) (fun c127 => ?_)
            · rw [b2i_0] at c127
              refine al_0 dX9_sortOf_132 ?_
              refine bi_115 dX9_sortOf_133 ?_
              refine bi_110 dX9_sortOf_135 ?_
              refine bi_117 dX9_sortOf_137 ?_
              refine bi_102 dX9_sortOf_139 ?_
              refine bi_102 dX9_sortOf_141 ?_
              refine c_X9_134 dX9_sortOf_143 rfl (Nat.le_of_ble_eq_true rfl) (by omega) ?_
              refine wX9_w5 (by omega) (by decide) (by decide) (by decide) (by decide) (by decide) (by decide) (by decide) (by decide) (by decide) (by decide) ?_
              refine pv_l ?_
              refine c_X9_190 dX9_sortOf_146 rfl tt336 (Nat.le_of_ble_eq_true rfl) (by omega) ?_
              refine wX9_isWord (T := T) (N := N) (j := i) (x := 16) (by omega) M (by decide) (by decide) (by decide) (by decide) ?_
              refine pv_i ?_
              refine wp_if_eq 157 dX9_sortOf_149 rfl (fun c149 => ?_) (fun c149 => ?_)
              · rw [b2i_0] at c149
                refine al_0 dX9_sortOf_157 ?_
                refine bi_110 dX9_sortOf_158 ?_
                refine bi_105 dX9_sortOf_160 ?_
                refine bi_103 dX9_sortOf_162 ?_
                refine bi_104 dX9_sortOf_164 ?_
                refine bi_116 dX9_sortOf_166 ?_
                refine c_X9_134 dX9_sortOf_168 rfl (Nat.le_of_ble_eq_true rfl) (by omega) ?_
                refine wX9_w5 (by omega) (by decide) (by decide) (by decide) (by decide) (by decide) (by decide) (by decide) (by decide) (by decide) (by decide) ?_
                refine pv_l ?_
                refine c_X9_190 dX9_sortOf_171 rfl tt336 (Nat.le_of_ble_eq_true rfl) (by omega) ?_
                refine wX9_isWord (T := T) (N := N) (j := i) (x := 0) (by omega) M (by decide) (by decide) (by decide) (by decide) ?_
                refine pv_i ?_
                refine wp_if_eq 182 dX9_sortOf_174 rfl (fun c174 => ?_) (fun c174 => ?_)
                · rw [b2i_0] at c174
                  refine ic_m1 dX9_sortOf_182 ?_
                  refine wp_ireti dX9_sortOf_183 rfl ?_
                  first
                    | (have e : kF T N i = 16 := c149
                       refine qv hQ ?_
                       rw [e]; decide)
                    | (have e : kF T N i = 0 := c174
                       refine qv hQ ?_
                       rw [e]; decide)
                    | (refine qv hQ ?_
                       rw [if_neg (by omega)])
                · rw [b2i_n0] at c174
                  refine bi_7 dX9_sortOf_177 ?_
                  refine wp_goto 183 dX9_sortOf_179 rfl ?_
                  refine wp_ireti dX9_sortOf_183 rfl ?_
                  first
                    | (have e : kF T N i = 16 := c149
                       refine qv hQ ?_
                       rw [e]; decide)
                    | (have e : kF T N i = 0 := c174
                       refine qv hQ ?_
                       rw [e]; decide)
                    | (refine qv hQ ?_
                       rw [if_neg (by omega)])
              · rw [b2i_n0] at c149
                refine bi_6 dX9_sortOf_152 ?_
                refine wp_goto 183 dX9_sortOf_154 rfl ?_
                refine wp_ireti dX9_sortOf_183 rfl ?_
                first
                  | (have e : kF T N i = 16 := c149
                     refine qv hQ ?_
                     rw [e]; decide)
                  | (have e : kF T N i = 0 := c174
                     refine qv hQ ?_
                     rw [e]; decide)
                  | (refine qv hQ ?_
                     rw [if_neg (by omega)])
            · rw [b2i_n0] at c127
              refine ic_5 dX9_sortOf_130 ?_
              refine wp_ireti dX9_sortOf_131 rfl ?_
              have e : kF T N i = 15 := c127
              refine qv hQ ?_
              rw [e]; decide
          · rw [b2i_n0] at c107
            refine ic_4 dX9_sortOf_110 ?_
            refine wp_ireti dX9_sortOf_111 rfl ?_
            have e : kF T N i = 14 := c107
            refine qv hQ ?_
            rw [e]; decide
        · rw [b2i_n0] at c85
          refine ic_3 dX9_sortOf_88 ?_
          refine wp_ireti dX9_sortOf_89 rfl ?_
          have e : kF T N i = 13 := c85
          refine qv hQ ?_
          rw [e]; decide
      · rw [b2i_n0] at c63
        refine ic_2 dX9_sortOf_66 ?_
        refine wp_ireti dX9_sortOf_67 rfl ?_
        have e : kF T N i = 12 := c63
        refine qv hQ ?_
        rw [e]; decide
    · rw [b2i_n0] at c39
      refine ic_1 dX9_sortOf_42 ?_
      refine wp_ireti dX9_sortOf_43 rfl ?_
      have e : kF T N i = 11 := c39
      refine qv hQ ?_
      rw [e]; decide
  · rw [b2i_n0] at c17
    refine ic_0 dX9_sortOf_20 ?_
    refine wp_ireti dX9_sortOf_21 rfl ?_
    have e : kF T N i = 10 := c17
    refine qv hQ ?_
    rw [e]; decide

theorem wX9_bodyO {G : GT} {δ : Nat} {h hl : Nat → Int → Int} {b : Bool × Bool} {Q : V → Hp → Prop} {s x i N : Int} {T : Int → Int} {h0 : Nat → Int → Int} (hδ : δ ≤ 1520) (hN : h 336 4 = N) (hT : h 340 = T) (B : BY T N) (M : TkM h hl T N i) (i0 : 0 ≤ i) (E : FgE x h0 h) (x0 : 0 ≤ x) (x1 : x + 3 < 2820) (s2 : 2 ≤ s) (s7 : s ≤ 7) (hQ : OQ (kF T N) (vF T N) (FoM T N x h0 b Q) (SoM T N x h0 b Q) (itK (kmp s)) i []) : WP G δ 0 0 MX9_body 0 [vr 336, vi s, vi x] [] (HS h hl b) Q := by
  refine il_1 dX9_body_0 ?_
  rcases (show s = 2 ∨ s = 3 ∨ s = 4 ∨ s = 5 ∨ s = 6 ∨ s = 7 by omega) with e | e | e | e | e | e
  · refine wp_tsw 40 dX9_body_1 (by omega) (by omega) (39) (by rw [e]; rfl) rfl ?_
    rw [e] at hQ
    have hQ : OQ (kF T N) (vF T N) (FoM T N x h0 b Q) (SoM T N x h0 b Q) [.inl (0, 99), .inr 1, .inl (0, 10)] i [] := hQ
    refine al_0 dX9_body_40 ?_
    refine il_2 dX9_body_41 ?_
    refine ic_0 dX9_body_42 ?_
    refine bi_99 dX9_body_43 ?_
    refine bi_115 dX9_body_45 ?_
    refine bi_108 dX9_body_47 ?_
    refine bi_105 dX9_body_49 ?_
    refine bi_112 dX9_body_51 ?_
    refine c_X9_130 dX9_body_53 rfl (Nat.le_of_ble_eq_true rfl) (by omega) ?_
    refine wX9_w4 (by omega) (by decide) (by decide) (by decide) (by decide) (by decide) (by decide) (by decide) (by decide) ?_
    refine pv_l ?_
    refine bi_10 dX9_body_56 ?_
    refine c_X9_232 dX9_body_58 rfl tt336 (Nat.le_of_ble_eq_true rfl) (by omega) ?_
    refine wX9_pair (x := x) (h0 := h0) (w := 1) (by omega) hN hT B M i0 E x0 x1 (by omega) (by omega) (by decide) (by decide) (by decide) (by decide) ?_
    refine OQ_app (F := FoM T N x h0 b Q) (S := SoM T N x h0 b Q) (fun f j z h' hl' E' p => ?_) [.inl (0, 99), .inr 1, .inl (0, 10)] [] i [] (fun j a' z h' hl' E' M' N' => ?_) hQ
    · refine pv_i ?_
      exact wp_ireti dX9_body_61 rfl (z h' hl' E' p)
    · refine pv_i ?_
      exact wp_ireti dX9_body_61 rfl (z h' hl' E' M' N')
  · refine wp_tsw 62 dX9_body_1 (by omega) (by omega) (61) (by rw [e]; rfl) rfl ?_
    rw [e] at hQ
    have hQ : OQ (kF T N) (vF T N) (FoM T N x h0 b Q) (SoM T N x h0 b Q) [.inl (0, 9), .inr 17, .inl (0, 9)] i [] := hQ
    refine al_0 dX9_body_62 ?_
    refine il_2 dX9_body_63 ?_
    refine ic_0 dX9_body_64 ?_
    refine bi_9 dX9_body_65 ?_
    refine bi_98 dX9_body_67 ?_
    refine bi_121 dX9_body_69 ?_
    refine c_X9_122 dX9_body_71 rfl (Nat.le_of_ble_eq_true rfl) (by omega) ?_
    refine wX9_w2 (by omega) (by decide) (by decide) (by decide) (by decide) ?_
    refine pv_l ?_
    refine bi_9 dX9_body_74 ?_
    refine c_X9_232 dX9_body_76 rfl tt336 (Nat.le_of_ble_eq_true rfl) (by omega) ?_
    refine wX9_pair (x := x) (h0 := h0) (w := 17) (by omega) hN hT B M i0 E x0 x1 (by omega) (by omega) (by decide) (by decide) (by decide) (by decide) ?_
    refine OQ_app (F := FoM T N x h0 b Q) (S := SoM T N x h0 b Q) (fun f j z h' hl' E' p => ?_) [.inl (0, 9), .inr 17, .inl (0, 9)] [] i [] (fun j a' z h' hl' E' M' N' => ?_) hQ
    · refine pv_i ?_
      exact wp_ireti dX9_body_79 rfl (z h' hl' E' p)
    · refine pv_i ?_
      exact wp_ireti dX9_body_79 rfl (z h' hl' E' M' N')
  · refine wp_tsw 80 dX9_body_1 (by omega) (by omega) (79) (by rw [e]; rfl) rfl ?_
    rw [e] at hQ
    have hQ : OQ (kF T N) (vF T N) (FoM T N x h0 b Q) (SoM T N x h0 b Q) [.inl (0, 7), .inr 17, .inl (0, 3), .inr 18, .inl (0, 3)] i [] := hQ
    refine al_0 dX9_body_80 ?_
    refine il_2 dX9_body_81 ?_
    refine c_X9_236 dX9_body_82 rfl tt336 (Nat.le_of_ble_eq_true rfl) (by omega) ?_
    refine wX9_argueClause (x := x) (h0 := h0) (by omega) hN hT B M i0 E x0 x1 ?_
    refine OQ_app (F := FoM T N x h0 b Q) (S := SoM T N x h0 b Q) (fun f j z h' hl' E' p => ?_) [.inl (0, 7), .inr 17, .inl (0, 3), .inr 18, .inl (0, 3)] [] i [] (fun j a' z h' hl' E' M' N' => ?_) hQ
    · refine pv_i ?_
      exact wp_ireti dX9_body_85 rfl (z h' hl' E' p)
    · refine pv_i ?_
      exact wp_ireti dX9_body_85 rfl (z h' hl' E' M' N')
  · refine wp_tsw 86 dX9_body_1 (by omega) (by omega) (85) (by rw [e]; rfl) rfl ?_
    rw [e] at hQ
    have hQ : OQ (kF T N) (vF T N) (FoM T N x h0 b Q) (SoM T N x h0 b Q) [.inl (1, 99), .inr 17, .inl (0, 3)] i [] := hQ
    refine al_0 dX9_body_86 ?_
    refine il_2 dX9_body_87 ?_
    refine ic_1 dX9_body_88 ?_
    refine bi_99 dX9_body_89 ?_
    refine bi_98 dX9_body_91 ?_
    refine bi_121 dX9_body_93 ?_
    refine c_X9_122 dX9_body_95 rfl (Nat.le_of_ble_eq_true rfl) (by omega) ?_
    refine wX9_w2 (by omega) (by decide) (by decide) (by decide) (by decide) ?_
    refine pv_l ?_
    refine ic_3 dX9_body_98 ?_
    refine c_X9_232 dX9_body_99 rfl tt336 (Nat.le_of_ble_eq_true rfl) (by omega) ?_
    refine wX9_pair (x := x) (h0 := h0) (w := 17) (by omega) hN hT B M i0 E x0 x1 (by omega) (by omega) (by decide) (by decide) (by decide) (by decide) ?_
    refine OQ_app (F := FoM T N x h0 b Q) (S := SoM T N x h0 b Q) (fun f j z h' hl' E' p => ?_) [.inl (1, 99), .inr 17, .inl (0, 3)] [] i [] (fun j a' z h' hl' E' M' N' => ?_) hQ
    · refine pv_i ?_
      exact wp_ireti dX9_body_102 rfl (z h' hl' E' p)
    · refine pv_i ?_
      exact wp_ireti dX9_body_102 rfl (z h' hl' E' M' N')
  · refine wp_tsw 103 dX9_body_1 (by omega) (by omega) (102) (by rw [e]; rfl) rfl ?_
    rw [e] at hQ
    have hQ : OQ (kF T N) (vF T N) (FoM T N x h0 b Q) (SoM T N x h0 b Q) [.inl (0, 9)] i [] := hQ
    refine al_0 dX9_body_103 ?_
    refine il_2 dX9_body_104 ?_
    refine ic_1 dX9_body_105 ?_
    refine wp_iadd dX9_body_106 (r32 (by omega) (by omega)) ?_
    refine ic_0 dX9_body_107 ?_
    refine bi_9 dX9_body_108 ?_
    refine c_X9_224 dX9_body_110 rfl tt336 (Nat.le_of_ble_eq_true rfl) (by omega) ?_
    refine wX9_figure (x := x) (h0 := h0) (a := []) (by omega) hN hT B M i0 E (fun q hq => absurd hq (Nat.not_lt_zero _)) x0 x1 (by show x + 1 = x + 1 + ((0 : Nat) : Int); omega) (by show (0 : Nat) < 3; decide) (by omega) ?_
    refine OQ_app (F := FoM T N x h0 b Q) (S := SoM T N x h0 b Q) (fun f j z h' hl' E' p => ?_) [.inl (0, 9)] [] i [] (fun j a' z h' hl' E' M' N' => ?_) hQ
    · refine pv_i ?_
      exact wp_ireti dX9_body_113 rfl (z h' hl' E' p)
    · refine pv_i ?_
      exact wp_ireti dX9_body_113 rfl (z h' hl' E' M' N')
  · refine wp_tsw 114 dX9_body_1 (by omega) (by omega) (113) (by rw [e]; rfl) rfl ?_
    rw [e] at hQ
    have hQ : OQ (kF T N) (vF T N) (FoM T N x h0 b Q) (SoM T N x h0 b Q) [.inl (1, 60)] i [] := hQ
    refine al_0 dX9_body_114 ?_
    refine il_2 dX9_body_115 ?_
    refine ic_1 dX9_body_116 ?_
    refine wp_iadd dX9_body_117 (r32 (by omega) (by omega)) ?_
    refine ic_1 dX9_body_118 ?_
    refine bi_60 dX9_body_119 ?_
    refine c_X9_224 dX9_body_121 rfl tt336 (Nat.le_of_ble_eq_true rfl) (by omega) ?_
    refine wX9_figure (x := x) (h0 := h0) (a := []) (by omega) hN hT B M i0 E (fun q hq => absurd hq (Nat.not_lt_zero _)) x0 x1 (by show x + 1 = x + 1 + ((0 : Nat) : Int); omega) (by show (0 : Nat) < 3; decide) (by omega) ?_
    refine OQ_app (F := FoM T N x h0 b Q) (S := SoM T N x h0 b Q) (fun f j z h' hl' E' p => ?_) [.inl (1, 60)] [] i [] (fun j a' z h' hl' E' M' N' => ?_) hQ
    · refine pv_i ?_
      exact wp_ireti dX9_body_124 rfl (z h' hl' E' p)
    · refine pv_i ?_
      exact wp_ireti dX9_body_124 rfl (z h' hl' E' M' N')
