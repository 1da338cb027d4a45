/-! the tape -/
def byv (v s : Int) : Int := band (shr v s) 255
def tN (T : Int → Int) (n v : Int) : Nat → Int → Int
  | 0 => T
  | k + 1 => ur (tN T n v k) (n + k) (byv v (24 - 8 * (k : Int)))
theorem byv_R {v s : Int} : 0 ≤ byv v s ∧ byv v s ≤ 255 := by
  unfold byv band
  have h : (Int32.ofInt (shr v s) &&& Int32.ofInt 255).toBitVec.toNat ≤ 255 := by
    rw [Int32.toBitVec_and, BitVec.toNat_and]
    exact Nat.le_trans Nat.and_le_right (by decide)
  rw [show (Int32.ofInt (shr v s) &&& Int32.ofInt 255).toInt = (Int32.ofInt (shr v s) &&& Int32.ofInt 255).toBitVec.toInt from rfl, BitVec.toInt_eq_toNat_of_lt (by omega)]
  omega
theorem tN_c {T T' : Int → Int} {n v : Int} (n0 : 0 ≤ n) (e : ∀ k : Int, 0 ≤ k → k < n → T k = T' k) (r : ∀ k : Int, 0 ≤ k → k < n → 0 ≤ T k ∧ T k ≤ 255) : ∀ (m : Nat) (k : Int), 0 ≤ k → k < n + m → tN T n v m k = tN T' n v m k ∧ 0 ≤ tN T n v m k ∧ tN T n v m k ≤ 255
  | 0, k, k0, k1 => ⟨e k k0 (by omega), r k k0 (by omega)⟩
  | m + 1, k, k0, k1 => by
    unfold tN ur
    by_cases q : k = n + m
    · rw [if_pos q, if_pos q]; exact ⟨rfl, byv_R⟩
    · rw [if_neg q, if_neg q]; exact tN_c n0 e r m k k0 (by omega)
/-- one and the same tape -/
def TPE (h : Nat → Int → Int) : Prop := h 314 1 = h 336 4 ∧ 0 ≤ h 336 4 ∧ h 336 4 ≤ 300 ∧ ∀ k : Int, 0 ≤ k → k < h 336 4 → h 315 k = h 340 k ∧ 0 ≤ h 340 k ∧ h 340 k ≤ 255
def FPE (h : Nat → Int → Int) : Prop := (h 314 2 = 0 → h 336 5 = -1 ∧ h 336 6 = -1) ∧ (h 314 2 ≠ 0 → h 336 5 = h 314 3 ∧ h 336 6 = h 314 4)
def t5 (T : Int → Int) (n a c d e f : Int) : Int → Int := tN (tN (tN (tN (tN T n a 4) (n + 4) c 4) (n + 8) d 4) (n + 12) e 4) (n + 16) f 4
theorem t5_c {T T' : Int → Int} {n a c d x f : Int} (n0 : 0 ≤ n) (e : ∀ k : Int, 0 ≤ k → k < n → T k = T' k) (r : ∀ k : Int, 0 ≤ k → k < n → 0 ≤ T k ∧ T k ≤ 255) (k : Int) (k0 : 0 ≤ k) (k1 : k < n + 20) : t5 T n a c d x f k = t5 T' n a c d x f k ∧ 0 ≤ t5 T n a c d x f k ∧ t5 T n a c d x f k ≤ 255 := by
  have s1 := fun k (k0 : 0 ≤ k) (k1 : k < n + 4) => tN_c (v := a) n0 e r 4 k k0 k1
  have s2 := fun k (k0 : 0 ≤ k) (k1 : k < n + 4 + 4) => tN_c (v := c) (by omega) (fun k a b => (s1 k a b).1) (fun k a b => (s1 k a b).2) 4 k k0 k1
  have s3 := fun k (k0 : 0 ≤ k) (k1 : k < n + 8 + 4) => tN_c (v := d) (n := n + 8) (by omega) (fun k a b => (s2 k a (by omega)).1) (fun k a b => (s2 k a (by omega)).2) 4 k k0 k1
  have s4 := fun k (k0 : 0 ≤ k) (k1 : k < n + 12 + 4) => tN_c (v := x) (n := n + 12) (by omega) (fun k a b => (s3 k a (by omega)).1) (fun k a b => (s3 k a (by omega)).2) 4 k k0 k1
  exact tN_c (v := f) (n := n + 16) (by omega) (fun k a b => (s4 k a (by omega)).1) (fun k a b => (s4 k a (by omega)).2) 4 k k0 (by omega)
/-! copies -/
section CPS
variable {h h' : Nat → Int → Int} {R : Int → Int} {o q : Nat} {n a b : Int} {f : Int → Int}
theorem tdC_o {x : Nat} (e : x ≠ o) (e1 : x ≠ o + 1) : tdC h o q n x = h x := by
  funext k; unfold tdC; rw [if_neg (fun z => e z.1), if_neg (fun z => e1 z.1)]
theorem TD.cp (t : TD h q n f) : TD (tdC h o q n) o n f := by
  refine ⟨by unfold tdC; rw [if_pos ⟨rfl, rfl⟩], fun k k0 k1 => ?_⟩
  unfold tdC
  rw [if_neg (by omega), if_pos ⟨rfl, k0, k1⟩]
  exact t.2 k k0 k1
theorem SPR.cpG (P : SPR h q R a n b) (n5 : R (n + 4) ≤ 25) : SPR (stC h o q) o R a n b := by
  obtain ⟨q0, q1, q2, q3, q4, q5, q6, q7, q8⟩ := P
  refine ⟨?_, ?_, ?_, ?_, ?_, ?_, fun p p0 p1 => ?_, fun p p0 p1 => ?_, fun k k0 k1 => ?_⟩ <;> unfold stC stR
  · rw [if_pos ⟨rfl, rfl⟩]; exact q0
  · rw [if_neg (by omega), if_pos (by omega)]; exact q1
  · rw [if_neg (by omega), if_pos (by omega)]; exact q2
  · rw [if_neg (by omega), if_pos (by omega)]; exact q3
  · rw [if_neg (by omega), if_pos (by omega)]; exact q4
  · rw [if_neg (by omega), if_pos (by omega)]; exact q5
  · rw [if_neg (by omega), if_neg (by omega), if_pos (by omega)]; exact q6 p p0 p1
  · rw [if_neg (by omega), if_neg (by omega), if_neg (by omega), if_pos (by omega)]; exact q7 p p0 p1
  · rw [if_neg (by omega), if_neg (by omega), if_neg (by omega), if_neg (by omega), if_pos (by omega)]; exact q8 k k0 k1
/-- a script's rows are another's -/
def SCE (h h' : Nat → Int → Int) (o q : Nat) : Prop := (∀ k : Int, 0 ≤ k → k < 5 → h' o k = h q k) ∧ (∀ k : Int, 0 ≤ k → k < 24 → h' (o + 1) k = h (q + 1) k) ∧ (∀ k : Int, 0 ≤ k → k < 72 → h' (o + 2) k = h (q + 2) k) ∧ ∀ k : Int, 0 ≤ k → k < 600 → h' (o + 3) k = h (q + 3) k
theorem scC_E : SCE h (scC h o q) o q := by
  refine ⟨fun k k0 k1 => ?_, fun k k0 k1 => ?_, fun k k0 k1 => ?_, fun k k0 k1 => ?_⟩ <;> unfold scC
  · rw [if_pos (by omega)]
  · rw [if_neg (by omega), if_pos (by omega)]
  · rw [if_neg (by omega), if_neg (by omega), if_pos (by omega)]
  · rw [if_neg (by omega), if_neg (by omega), if_neg (by omega), if_pos (by omega)]
theorem scC_o {x : Nat} (e : x < o ∨ o + 3 < x) : scC h o q x = h x := by
  funext k; unfold scC
  rw [if_neg (by omega), if_neg (by omega), if_neg (by omega), if_neg (by omega)]
theorem stR_o {x : Nat} (e : x < o ∨ o + 3 < x) : stR h o q n x = h x := by
  funext k; unfold stR
  rw [if_neg (by omega), if_neg (by omega), if_neg (by omega), if_neg (by omega)]
theorem SCE.c {h1 h2 : Nat → Int → Int} (E : SCE h h1 o q) (e : ∀ x, o ≤ x → x ≤ o + 3 → h2 x = h1 x) : SCE h h2 o q := by
  unfold SCE at *
  rw [e o (by omega) (by omega), e (o + 1) (by omega) (by omega), e (o + 2) (by omega) (by omega), e (o + 3) (by omega) (by omega)]
  exact E
theorem SCE.s {h1 h2 : Nat → Int → Int} (E : SCE h1 h2 o q) (e : ∀ x, q ≤ x → x ≤ q + 3 → h1 x = h x) : SCE h h2 o q := by
  unfold SCE at *
  rw [e q (by omega) (by omega), e (q + 1) (by omega) (by omega), e (q + 2) (by omega) (by omega), e (q + 3) (by omega) (by omega)] at E
  exact E
theorem SCE.ety (E : SCE h h' o q) (u : h q 2 ≤ 600) : ety h' o = ety h q := by
  funext i
  show (if 0 ≤ i ∧ i < h' o 2 then h' (o + 3) i else 53) = if 0 ≤ i ∧ i < h q 2 then h (q + 3) i else 53
  rw [E.1 2 (by decide) (by decide)]
  by_cases c : 0 ≤ i ∧ i < h q 2
  · rw [if_pos c, if_pos c, E.2.2.2 i c.1 (by omega)]
  · rw [if_neg c, if_neg c]
end CPS
theorem rr173 {b : Bool × Bool} {i : Int} (h0 : 0 ≤ i) (h1 : i < 4) : RR b 173 i = 178 + 4 * i.toNat := by
  unfold RR; rw [tt173]; dsimp only; rw [if_pos rfl, if_pos ⟨h0, h1⟩]
theorem rr174 {b : Bool × Bool} {i : Int} (h0 : 0 ≤ i) (h1 : i < 30) : RR b 174 i = 194 + 4 * i.toNat := by
  unfold RR; rw [tt174]; dsimp only; rw [if_neg (by decide), if_pos rfl, if_pos ⟨h0, h1⟩]
/-- a clause's picture: the class's script at o, the model's row T of text i -/
def kmp (s : Int) : Int := if s = 7 then 0 else s + 10
def ClOK (s v w u : Int) : Prop := (s = 2 → (0 ≤ v ∧ v ≤ 99) ∧ 0 ≤ w ∧ w ≤ 10) ∧ (s = 3 → (0 ≤ v ∧ v ≤ 9) ∧ 0 ≤ w ∧ w ≤ 9) ∧ (s = 4 → (0 ≤ v ∧ v ≤ 7) ∧ (0 ≤ w ∧ w ≤ 3) ∧ 0 ≤ u ∧ u ≤ 3) ∧ (s = 5 → (1 ≤ v ∧ v ≤ 99) ∧ 0 ≤ w ∧ w ≤ 3) ∧ (s = 6 → 0 ≤ v ∧ v ≤ 9) ∧ (s = 7 → 1 ≤ v ∧ v ≤ 60)
def ClK (h : Nat → Int → Int) (o : Nat) (T : Int → Int) (i k : Int) : Prop :=
  (0 ≤ T (705 * i + 1 + 4 * k) ∧ T (705 * i + 1 + 4 * k) ≤ 7) ∧ h (o + 1) k = kmp (T (705 * i + 1 + 4 * k)) ∧
  ClOK (T (705 * i + 1 + 4 * k)) (h (o + 2) (k * 3 + 0)) (h (o + 2) (k * 3 + 1)) (h (o + 2) (k * 3 + 2)) ∧
  (2 ≤ T (705 * i + 1 + 4 * k) → h (o + 2) (k * 3 + 0) = T (705 * i + 1 + 4 * k + 1)) ∧ (2 ≤ T (705 * i + 1 + 4 * k) → T (705 * i + 1 + 4 * k) ≤ 5 → h (o + 2) (k * 3 + 1) = T (705 * i + 1 + 4 * k + 2)) ∧ (T (705 * i + 1 + 4 * k) = 4 → h (o + 2) (k * 3 + 2) = T (705 * i + 1 + 4 * k + 3))
def ClS (h : Nat → Int → Int) (o : Nat) (T : Int → Int) (i : Int) : Prop := h o 0 = T (705 * i) ∧ (0 ≤ T (705 * i) ∧ T (705 * i) ≤ 24) ∧ ∀ k : Int, 0 ≤ k → k < T (705 * i) → ClK h o T i k
/-- all clauses of the town's texts -/
def ClT (h : Nat → Int → Int) (t : Nat) (T : Int → Int) (n : Int) : Prop := ∀ i : Int, 0 ≤ i → i < n → ClS h (t + 20 + 4 * i.toNat) T i
theorem SCE.cl {h h' : Nat → Int → Int} {o q : Nat} {T : Int → Int} {i : Int} (E : SCE h h' o q) (C : ClS h q T i) : ClS h' o T i := by
  obtain ⟨a, b, c⟩ := C
  refine ⟨by rw [E.1 0 (by decide) (by decide)]; exact a, b, fun k k0 k1 => ?_⟩
  have z := c k k0 k1
  unfold ClK at *
  rw [E.2.1 k k0 (by omega), E.2.2.1 (k * 3 + 0) (by omega) (by omega), E.2.2.1 (k * 3 + 1) (by omega) (by omega), E.2.2.1 (k * 3 + 2) (by omega) (by omega)]
  exact z
theorem ClS.c {h h' : Nat → Int → Int} {o : Nat} {T : Int → Int} {i : Int} (C : ClS h o T i) (e : ∀ x, o ≤ x → x ≤ o + 2 → h' x = h x) : ClS h' o T i := by
  unfold ClS ClK at *
  rw [e o (by omega) (by omega), e (o + 1) (by omega) (by omega), e (o + 2) (by omega) (by omega)]
  exact C
theorem ClT.c {h h' : Nat → Int → Int} {t : Nat} {T : Int → Int} {n : Int} (C : ClT h t T n) (n4 : n ≤ 4) (e : ∀ x, t + 20 ≤ x → x ≤ t + 35 → h' x = h x) : ClT h' t T n := fun i i0 i1 => (C i i0 i1).c (fun x x0 x1 => e x (by omega) (by omega))

theorem wX2_append_3 {G : GT} {δ : Nat} {hl : Nat → Int → Int} {b : Bool × Bool} {Q : V → Hp → Prop} {h0 : Nat → Int → Int} {v n0 : Int} (hδ : δ ≤ 1700) (n0p : 0 ≤ n0) (n1p : n0 ≤ 296) : ∀ (n : Nat) (s : Int) (k : Nat) (h : Nat → Int → Int), ((4 - k)) < n → (k ≤ 4) → (s = 24 - 8 * (k : Int)) → (h 314 1 = n0 + k) → (h 315 = tN (h0 315) n0 v k) → ((∀ o, o ≠ 314 → o ≠ 315 → h o = h0 o) ∧ ∀ j : Int, j ≠ 1 → h 314 j = h0 314 j) → (∀ h' : Nat → Int → Int, (((∀ o, o ≠ 314 → o ≠ 315 → h' o = h0 o) ∧ ∀ j : Int, j ≠ 1 → h' 314 j = h0 314 j)) → h' 314 1 = n0 + 4 → h' 315 = tN (h0 315) n0 v 4 → Q vn (HS h' hl b)) → WP G δ 0 0 MX2_append 3 [vr (314), vi v, vi s] [] (HS h hl b) Q := by
  intro n
  induction n with
  | zero => intro s k h hlt; exact absurd hlt (Nat.not_lt_zero _)
  | succ n ih =>
    intro s k h hlt k4 hs hn hr E hQ
    refine il_2 dX2_append_3 ?_
    refine wp_if_lt 49 dX2_append_4 rfl (fun c4 => ?_) (fun c4 => ?_)
    · have e : k = 4 := by omega
      subst e
      refine wp_vret dX2_append_49 rfl ?_
      exact hQ h E hn hr
    · have k3 : k < 4 := by omega
      refine al_0 dX2_append_7 ?_
      refine g_X2_35 dX2_append_8 rfl tt314 ?_
      rw [hn]
      refine si_300 dX2_append_11 ?_
      refine wp_icmp_ge 49 dX2_append_14 rfl (fun c14 => ?_) (fun c14 => ?_)
      · omega
      · refine al_0 dX2_append_17 ?_
        refine g_X2_9 (315) dX2_append_18 rfl tt314 (rr2_0 tt314) (by omega) ?_
        refine al_0 dX2_append_21 ?_
        refine g_X2_35 dX2_append_22 rfl tt314 ?_
        rw [hn]
        refine il_1 dX2_append_25 ?_
        refine il_2 dX2_append_26 ?_
        refine wp_ishr dX2_append_27 ?_
        refine si_255 dX2_append_28 ?_
        refine wp_iand dX2_append_31 ?_
        refine wp_iastore dX2_append_32 tt315 (by omega) (by omega) ?_
        refine al_0 dX2_append_33 ?_
        refine wp_dup dX2_append_34 rfl ?_
        refine g_X2_35 dX2_append_35 rfl tt314 ?_
        rw [up_o (by decide), hn]
        refine ic_1 dX2_append_38 ?_
        refine wp_iadd dX2_append_39 (r32 (by omega) (by omega)) ?_
        refine p_X2_35 dX2_append_40 rfl tt314 ?_
        refine ii_2 dX2_append_43 rfl (by decide) ⟨by decide, by decide⟩ (r32 (by omega) (by omega)) ?_
        refine wp_goto 3 dX2_append_46 rfl ?_
        refine ih (s + -8) (k + 1) _ (by omega) (by omega) (by omega) ?_ ?_ ⟨fun x x0 x1 => ?_, fun j j0 => ?_⟩ hQ
        · rw [up_s]; omega
        · rw [show (up (up h 315 (n0 + k) (band (shr v s) 255)) 314 1 (n0 + k + 1)) 315 = up h 315 (n0 + k) (band (shr v s) 255) 315 from by funext j; exact up_o (by decide), up_ur, hr]
          subst hs; rfl
        · rw [show (up (up h 315 (n0 + k) (band (shr v s) 255)) 314 1 (n0 + k + 1)) x = h x from by funext j; rw [up_o x0, up_o x1]]; exact E.1 x x0 x1
        · rw [up_k j0, up_o (by decide)]; exact E.2 j j0

theorem wX2_append {G : GT} {δ : Nat} {h hl : Nat → Int → Int} {b : Bool × Bool} {Q : V → Hp → Prop} {v n0 : Int} (hδ : δ ≤ 1700) (hn : h 314 1 = n0) (n0p : 0 ≤ n0) (n1p : n0 ≤ 296) (hQ : ∀ h' : Nat → Int → Int, (((∀ o, o ≠ 314 → o ≠ 315 → h' o = h o) ∧ ∀ j : Int, j ≠ 1 → h' 314 j = h 314 j)) → h' 314 1 = n0 + 4 → h' 315 = tN (h 315) n0 v 4 → Q vn (HS h' hl b)) : WP G δ 0 0 MX2_append 0 [vr (314), vi v, vn] [] (HS h hl b) Q := by
  refine bi_24 dX2_append_0 ?_
  refine is_2 dX2_append_2 rfl (by decide) ?_
  exact wX2_append_3 (h0 := h) (by omega) n0p n1p _ 24 0 h (Nat.lt_succ_self _) (by omega) (by omega) (by rw [hn]; omega) rfl ⟨fun _ _ _ => rfl, fun _ _ => rfl⟩ hQ

theorem wX9_four_3 {G : GT} {δ : Nat} {hl : Nat → Int → Int} {b : Bool × Bool} {Q : V → Hp → Prop} {h0 : Nat → Int → Int} {v n0 : Int} (hδ : δ ≤ 1700) (n0p : 0 ≤ n0) (n1p : n0 ≤ 296) : ∀ (n : Nat) (s : Int) (k : Nat) (h : Nat → Int → Int), ((4 - k)) < n → (k ≤ 4) → (s = 24 - 8 * (k : Int)) → (h 336 4 = n0 + k) → (h 340 = tN (h0 340) n0 v k) → ((∀ o, o ≠ 336 → o ≠ 340 → h o = h0 o) ∧ ∀ j : Int, j ≠ 4 → h 336 j = h0 336 j) → (∀ h' : Nat → Int → Int, (((∀ o, o ≠ 336 → o ≠ 340 → h' o = h0 o) ∧ ∀ j : Int, j ≠ 4 → h' 336 j = h0 336 j)) → h' 336 4 = n0 + 4 → h' 340 = tN (h0 340) n0 v 4 → Q vn (HS h' hl b)) → WP G δ 0 0 MX9_four 3 [vr (336), vi v, vi s] [] (HS h hl b) Q := by
  intro n
  induction n with
  | zero => intro s k h hlt; exact absurd hlt (Nat.not_lt_zero _)
  | succ n ih =>
    intro s k h hlt k4 hs hn hr E hQ
    refine il_2 dX9_four_3 ?_
    refine wp_if_lt 39 dX9_four_4 rfl (fun c4 => ?_) (fun c4 => ?_)
    · have e : k = 4 := by omega
      subst e
      refine wp_vret dX9_four_39 rfl ?_
      exact hQ h E hn hr
    · have k3 : k < 4 := by omega
      refine al_0 dX9_four_7 ?_
      refine g_X9_19 (340) dX9_four_8 rfl tt336 (rr9_3 tt336) (by omega) ?_
      refine al_0 dX9_four_11 ?_
      refine g_X9_85 dX9_four_12 rfl tt336 ?_
      rw [hn]
      refine il_1 dX9_four_15 ?_
      refine il_2 dX9_four_16 ?_
      refine wp_ishr dX9_four_17 ?_
      refine si_255 dX9_four_18 ?_
      refine wp_iand dX9_four_21 ?_
      refine wp_iastore dX9_four_22 tt340 (by omega) (by omega) ?_
      refine al_0 dX9_four_23 ?_
      refine wp_dup dX9_four_24 rfl ?_
      refine g_X9_85 dX9_four_25 rfl tt336 ?_
      rw [up_o (by decide), hn]
      refine ic_1 dX9_four_28 ?_
      refine wp_iadd dX9_four_29 (r32 (by omega) (by omega)) ?_
      refine p_X9_85 dX9_four_30 rfl tt336 ?_
      refine ii_2 dX9_four_33 rfl (by decide) ⟨by decide, by decide⟩ (r32 (by omega) (by omega)) ?_
      refine wp_goto 3 dX9_four_36 rfl ?_
      refine ih (s + -8) (k + 1) _ (by omega) (by omega) (by omega) ?_ ?_ ⟨fun x x0 x1 => ?_, fun j j0 => ?_⟩ hQ
      · rw [up_s]; omega
      · rw [show (up (up h 340 (n0 + k) (band (shr v s) 255)) 336 4 (n0 + k + 1)) 340 = up h 340 (n0 + k) (band (shr v s) 255) 340 from by funext j; exact up_o (by decide), up_ur, hr]
        subst hs; rfl
      · rw [show (up (up h 340 (n0 + k) (band (shr v s) 255)) 336 4 (n0 + k + 1)) x = h x from by funext j; rw [up_o x0, up_o x1]]; exact E.1 x x0 x1
      · rw [up_k j0, up_o (by decide)]; exact E.2 j j0

theorem wX9_four {G : GT} {δ : Nat} {h hl : Nat → Int → Int} {b : Bool × Bool} {Q : V → Hp → Prop} {v n0 : Int} (hδ : δ ≤ 1700) (hn : h 336 4 = n0) (n0p : 0 ≤ n0) (n1p : n0 ≤ 296) (hQ : ∀ h' : Nat → Int → Int, (((∀ o, o ≠ 336 → o ≠ 340 → h' o = h o) ∧ ∀ j : Int, j ≠ 4 → h' 336 j = h 336 j)) → h' 336 4 = n0 + 4 → h' 340 = tN (h 340) n0 v 4 → Q vn (HS h' hl b)) : WP G δ 0 0 MX9_four 0 [vr (336), vi v, vn] [] (HS h hl b) Q := by
  refine bi_24 dX9_four_0 ?_
  refine is_2 dX9_four_2 rfl (by decide) ?_
  exact wX9_four_3 (h0 := h) (by omega) n0p n1p _ 24 0 h (Nat.lt_succ_self _) (by omega) (by omega) (by rw [hn]; omega) rfl ⟨fun _ _ _ => rfl, fun _ _ => rfl⟩ hQ

theorem wX8_feed {G : GT} {δ : Nat} {h hl : Nat → Int → Int} {b : Bool × Bool} {Q : V → Hp → Prop} {a c d e f n0 : Int} (hδ : δ ≤ 1680) (hn : h 314 1 = n0) (n0p : 0 ≤ n0) (n1p : n0 ≤ 300) (hN : 280 < n0 → Q (vi (-1)) (HS h hl b)) (hQ : n0 ≤ 280 → ∀ h' : Nat → Int → Int, (∀ o, o ≠ 314 → o ≠ 315 → h' o = h o) → (∀ j : Int, j ≠ 1 → h' 314 j = h 314 j) → h' 314 1 = n0 + 20 → h' 315 = t5 (h 315) n0 a c d e f → Q (vi (n0 + 20)) (HS h' hl b)) : WP G δ 0 0 MX8_feed 0 [vr (1), vi a, vi c, vi d, vi e, vi f] [] (HS h hl b) Q := by
  refine al_0 dX8_feed_0 ?_
  refine g_X8_22 (314) dX8_feed_1 rfl tt1 (rr8_2 tt1) (by omega) ?_
  refine g_X8_55 dX8_feed_4 rfl tt314 ?_
  rw [hn]
  refine bi_20 dX8_feed_7 ?_
  refine wp_iadd dX8_feed_9 (r32 (by omega) (by omega)) ?_
  refine si_300 dX8_feed_10 ?_
  refine wp_icmp_le 18 dX8_feed_13 rfl (fun c13 => ?_) (fun c13 => ?_)
  · refine al_0 dX8_feed_18 ?_
    refine g_X8_22 (314) dX8_feed_19 rfl tt1 (rr8_2 tt1) (by omega) ?_
    refine il_1 dX8_feed_22 ?_
    refine c_X8_59 dX8_feed_23 rfl tt314 (Nat.le_of_ble_eq_true rfl) (by omega) ?_
    refine wX2_append (n0 := n0) (by omega) hn (by omega) (by omega) (fun h1 E1 z1 r1 => ?_)
    refine pv_n ?_
    refine al_0 dX8_feed_26 ?_
    refine g_X8_22 (314) dX8_feed_27 rfl tt1 (rr8_2 tt1) (by omega) ?_
    refine il_2 dX8_feed_30 ?_
    refine c_X8_59 dX8_feed_31 rfl tt314 (Nat.le_of_ble_eq_true rfl) (by omega) ?_
    refine wX2_append (n0 := n0 + 4) (by omega) (by omega) (by omega) (by omega) (fun h2 E2 z2 r2 => ?_)
    refine pv_n ?_
    refine al_0 dX8_feed_34 ?_
    refine g_X8_22 (314) dX8_feed_35 rfl tt1 (rr8_2 tt1) (by omega) ?_
    refine il_3 dX8_feed_38 ?_
    refine c_X8_59 dX8_feed_39 rfl tt314 (Nat.le_of_ble_eq_true rfl) (by omega) ?_
    refine wX2_append (n0 := n0 + 8) (by omega) (by omega) (by omega) (by omega) (fun h3 E3 z3 r3 => ?_)
    refine pv_n ?_
    refine al_0 dX8_feed_42 ?_
    refine g_X8_22 (314) dX8_feed_43 rfl tt1 (rr8_2 tt1) (by omega) ?_
    refine il_4 dX8_feed_46 ?_
    refine c_X8_59 dX8_feed_48 rfl tt314 (Nat.le_of_ble_eq_true rfl) (by omega) ?_
    refine wX2_append (n0 := n0 + 12) (by omega) (by omega) (by omega) (by omega) (fun h4 E4 z4 r4 => ?_)
    refine pv_n ?_
    refine al_0 dX8_feed_51 ?_
    refine g_X8_22 (314) dX8_feed_52 rfl tt1 (rr8_2 tt1) (by omega) ?_
    refine il_5 dX8_feed_55 ?_
    refine c_X8_59 dX8_feed_57 rfl tt314 (Nat.le_of_ble_eq_true rfl) (by omega) ?_
    refine wX2_append (n0 := n0 + 16) (by omega) (by omega) (by omega) (by omega) (fun h5 E5 z5 r5 => ?_)
    refine pv_n ?_
    refine al_0 dX8_feed_60 ?_
    refine g_X8_22 (314) dX8_feed_61 rfl tt1 (rr8_2 tt1) (by omega) ?_
    refine g_X8_55 dX8_feed_64 rfl tt314 ?_
    rw [z5]
    refine wp_ireti dX8_feed_67 rfl ?_
    refine qv (hQ (by omega) h5 (fun o o0 o1 => ?_) (fun j j0 => ?_) (by rw [z5]; omega) ?_) (by omega)
    · rw [E5.1 o o0 o1, E4.1 o o0 o1, E3.1 o o0 o1, E2.1 o o0 o1, E1.1 o o0 o1]
    · rw [E5.2 j j0, E4.2 j j0, E3.2 j j0, E2.2 j j0, E1.2 j j0]
    · rw [r5, r4, r3, r2, r1]; rfl
  · refine ic_m1 dX8_feed_16 ?_
    refine wp_ireti dX8_feed_17 rfl ?_
    exact hN (by omega)

theorem wX9_feed {G : GT} {δ : Nat} {h hl : Nat → Int → Int} {b : Bool × Bool} {Q : V → Hp → Prop} {a c d e f n0 : Int} (hδ : δ ≤ 1680) (hn : h 336 4 = n0) (n0p : 0 ≤ n0) (n1p : n0 ≤ 300) (hN : 280 < n0 → Q (vi (-1)) (HS h hl b)) (hQ : n0 ≤ 280 → ∀ h' : Nat → Int → Int, (∀ o, o ≠ 336 → o ≠ 340 → h' o = h o) → (∀ j : Int, j ≠ 4 → h' 336 j = h 336 j) → h' 336 4 = n0 + 20 → h' 340 = t5 (h 340) n0 a c d e f → Q (vi (n0 + 20)) (HS h' hl b)) : WP G δ 0 0 MX9_feed 0 [vr (336), vi a, vi c, vi d, vi e, vi f] [] (HS h hl b) Q := by
  refine al_0 dX9_feed_0 ?_
  refine g_X9_85 dX9_feed_1 rfl tt336 ?_
  rw [hn]
  refine bi_20 dX9_feed_4 ?_
  refine wp_iadd dX9_feed_6 (r32 (by omega) (by omega)) ?_
  refine si_300 dX9_feed_7 ?_
  refine wp_icmp_le 15 dX9_feed_10 rfl (fun c10 => ?_) (fun c10 => ?_)
  · refine al_0 dX9_feed_15 ?_
    refine il_1 dX9_feed_16 ?_
    refine c_X9_88 dX9_feed_17 rfl tt336 (Nat.le_of_ble_eq_true rfl) (by omega) ?_
    refine wX9_four (n0 := n0) (by omega) hn (by omega) (by omega) (fun h1 E1 z1 r1 => ?_)
    refine pv_n ?_
    refine al_0 dX9_feed_20 ?_
    refine il_2 dX9_feed_21 ?_
    refine c_X9_88 dX9_feed_22 rfl tt336 (Nat.le_of_ble_eq_true rfl) (by omega) ?_
    refine wX9_four (n0 := n0 + 4) (by omega) (by omega) (by omega) (by omega) (fun h2 E2 z2 r2 => ?_)
    refine pv_n ?_
    refine al_0 dX9_feed_25 ?_
    refine il_3 dX9_feed_26 ?_
    refine c_X9_88 dX9_feed_27 rfl tt336 (Nat.le_of_ble_eq_true rfl) (by omega) ?_
    refine wX9_four (n0 := n0 + 8) (by omega) (by omega) (by omega) (by omega) (fun h3 E3 z3 r3 => ?_)
    refine pv_n ?_
    refine al_0 dX9_feed_30 ?_
    refine il_4 dX9_feed_31 ?_
    refine c_X9_88 dX9_feed_33 rfl tt336 (Nat.le_of_ble_eq_true rfl) (by omega) ?_
    refine wX9_four (n0 := n0 + 12) (by omega) (by omega) (by omega) (by omega) (fun h4 E4 z4 r4 => ?_)
    refine pv_n ?_
    refine al_0 dX9_feed_36 ?_
    refine il_5 dX9_feed_37 ?_
    refine c_X9_88 dX9_feed_39 rfl tt336 (Nat.le_of_ble_eq_true rfl) (by omega) ?_
    refine wX9_four (n0 := n0 + 16) (by omega) (by omega) (by omega) (by omega) (fun h5 E5 z5 r5 => ?_)
    refine pv_n ?_
    refine al_0 dX9_feed_42 ?_
    refine g_X9_85 dX9_feed_43 rfl tt336 ?_
    rw [z5]
    refine wp_ireti dX9_feed_46 rfl ?_
    refine qv (hQ (by omega) h5 (fun o o0 o1 => ?_) (fun j j0 => ?_) (by rw [z5]; omega) ?_) (by omega)
    · rw [E5.1 o o0 o1, E4.1 o o0 o1, E3.1 o o0 o1, E2.1 o o0 o1, E1.1 o o0 o1]
    · rw [E5.2 j j0, E4.2 j j0, E3.2 j j0, E2.2 j j0, E1.2 j j0]
    · rw [r5, r4, r3, r2, r1]; rfl
  · refine ic_m1 dX9_feed_13 ?_
    refine wp_ireti dX9_feed_14 rfl ?_
    exact hN (by omega)

theorem wX8_end {G : GT} {δ : Nat} {h hl : Nat → Int → Int} {b : Bool × Bool} {Q : V → Hp → Prop} {n n0 : Int} (hδ : δ ≤ 1700) (hn : h 314 1 = n0) (hN : ¬ (0 ≤ n ∧ n ≤ n0) → Q (vi (-1)) (HS h hl b)) (hQ : 0 ≤ n ∧ n ≤ n0 → Q (vi n) (HS (up h 314 1 n) hl b)) : WP G δ 0 0 MX8_end 0 [vr (1), vi n] [] (HS h hl b) Q := by
  refine il_1 dX8_end_0 ?_
  refine wp_if_lt 15 dX8_end_1 rfl (fun c1 => ?_) (fun c1 => ?_)
  · refine ic_m1 dX8_end_15 ?_
    refine wp_ireti dX8_end_16 rfl ?_
    exact hN (by omega)
  · refine il_1 dX8_end_4 ?_
    refine al_0 dX8_end_5 ?_
    refine g_X8_22 (314) dX8_end_6 rfl tt1 (rr8_2 tt1) (by omega) ?_
    refine g_X8_55 dX8_end_9 rfl tt314 ?_
    rw [hn]
    refine wp_icmp_le 17 dX8_end_12 rfl (fun c12 => ?_) (fun c12 => ?_)
    · refine al_0 dX8_end_17 ?_
      refine g_X8_22 (314) dX8_end_18 rfl tt1 (rr8_2 tt1) (by omega) ?_
      refine il_1 dX8_end_21 ?_
      refine p_X8_55 dX8_end_22 rfl tt314 ?_
      refine il_1 dX8_end_25 ?_
      refine wp_ireti dX8_end_26 rfl ?_
      exact hQ (by omega)
    · refine ic_m1 dX8_end_15 ?_
      refine wp_ireti dX8_end_16 rfl ?_
      exact hN (by omega)

theorem wX9_end {G : GT} {δ : Nat} {h hl : Nat → Int → Int} {b : Bool × Bool} {Q : V → Hp → Prop} {n n0 : Int} (hδ : δ ≤ 1680) (hn : h 336 4 = n0) (hN : ¬ (0 ≤ n ∧ n ≤ n0) → Q (vi (-1)) (HS h hl b)) (hQ : 0 ≤ n ∧ n ≤ n0 → Q (vi n) (HS (up h 336 4 n) hl b)) : WP G δ 0 0 MX9_end 0 [vr (336), vi n] [] (HS h hl b) Q := by
  refine il_1 dX9_end_0 ?_
  refine ic_0 dX9_end_1 ?_
  refine al_0 dX9_end_2 ?_
  refine g_X9_85 dX9_end_3 rfl tt336 ?_
  rw [hn]
  refine c_X9_69 dX9_end_6 rfl (Nat.le_of_ble_eq_true rfl) (by omega) ?_
  refine wX9_isIn (by omega) ?_
  refine pv_i ?_
  refine wp_if_ne 14 dX9_end_9 rfl (fun c9 => ?_) (fun c9 => ?_)
  · rw [b2i_n0] at c9
    refine al_0 dX9_end_14 ?_
    refine il_1 dX9_end_15 ?_
    refine p_X9_85 dX9_end_16 rfl tt336 ?_
    refine il_1 dX9_end_19 ?_
    refine wp_ireti dX9_end_20 rfl ?_
    exact hQ (by omega)
  · rw [b2i_0] at c9
    refine ic_m1 dX9_end_12 ?_
    refine wp_ireti dX9_end_13 rfl ?_
    exact hN (by omega)

theorem wX9_fault {G : GT} {δ : Nat} {h hl : Nat → Int → Int} {b : Bool × Bool} {Q : V → Hp → Prop} {w : Int} (hδ : δ ≤ 1700)  (hQ : Q (vi (if w = 0 then h 336 5 else if w = 1 then h 336 6 else -1)) (HS h hl b)) : WP G δ 0 0 MX9_fault 0 [vr (336), vi w] [] (HS h hl b) Q := by
  refine il_1 dX9_fault_0 ?_
  refine wp_if_ne 11 dX9_fault_1 rfl (fun c1 => ?_) (fun c1 => ?_)
  · refine il_1 dX9_fault_11 ?_
    refine ic_1 dX9_fault_12 ?_
    refine wp_icmp_ne 23 dX9_fault_13 rfl (fun c13 => ?_) (fun c13 => ?_)
    · refine ic_m1 dX9_fault_23 ?_
      refine wp_ireti dX9_fault_24 rfl ?_
      refine qv hQ ?_
      repeat first | rw [if_pos (by omega)] | rw [if_neg (by omega)]
    · refine al_0 dX9_fault_16 ?_
      refine g_X9_26 dX9_fault_17 rfl tt336 ?_
      refine wp_goto 24 dX9_fault_20 rfl ?_
      refine wp_ireti dX9_fault_24 rfl ?_
      refine qv hQ ?_
      repeat first | rw [if_pos (by omega)] | rw [if_neg (by omega)]
  · refine al_0 dX9_fault_4 ?_
    refine g_X9_22 dX9_fault_5 rfl tt336 ?_
    refine wp_goto 24 dX9_fault_8 rfl ?_
    refine wp_ireti dX9_fault_24 rfl ?_
    refine qv hQ ?_
    repeat first | rw [if_pos (by omega)] | rw [if_neg (by omega)]

theorem wX8_fault {G : GT} {δ : Nat} {h hl : Nat → Int → Int} {b : Bool × Bool} {Q : V → Hp → Prop} {w : Int} (hδ : δ ≤ 1700) (F : FPE h) (hQ : Q (vi (if w = 0 then h 336 5 else if w = 1 then h 336 6 else -1)) (HS h hl b)) : WP G δ 0 0 MX8_fault 0 [vr (1), vi w] [] (HS h hl b) Q := by
  obtain ⟨F0, F1⟩ := F
  refine al_0 dX8_fault_0 ?_
  refine g_X8_22 (314) dX8_fault_1 rfl tt1 (rr8_2 tt1) (by omega) ?_
  refine g_X8_84 dX8_fault_4 rfl tt314 ?_
  refine wp_if_ne 12 dX8_fault_7 rfl (fun c7 => ?_) (fun c7 => ?_)
  · refine il_1 dX8_fault_12 ?_
    rcases (show ((w) = 0) ∨ ((w) = 1) ∨ ((w) ≠ 0 ∧ (w) ≠ 1) by omega) with c13 | c13 | c13
    · refine wp_lsw 40 (27) dX8_fault_13 (by decide) (by rw [c13]; rfl) rfl ?_
      refine al_0 dX8_fault_40 ?_
      refine g_X8_22 (314) dX8_fault_41 rfl tt1 (rr8_2 tt1) (by omega) ?_
      refine g_X8_88 dX8_fault_44 rfl tt314 ?_
      refine wp_ireti dX8_fault_47 rfl ?_
      refine qv hQ ?_
      rw [if_pos (by omega)]; exact (F1 c7).1
    · refine wp_lsw 48 (35) dX8_fault_13 (by decide) (by rw [c13]; rfl) rfl ?_
      refine al_0 dX8_fault_48 ?_
      refine g_X8_22 (314) dX8_fault_49 rfl tt1 (rr8_2 tt1) (by omega) ?_
      refine g_X8_91 dX8_fault_52 rfl tt314 ?_
      refine wp_ireti dX8_fault_55 rfl ?_
      refine qv hQ ?_
      rw [if_neg (by omega), if_pos (by omega)]; exact (F1 c7).2
    · refine wp_lsw 56 (43) dX8_fault_13 (by decide) (by simp [Op.lookupswitch.offset, Ne.symm c13.1, Ne.symm c13.2]) rfl ?_
      refine ic_m1 dX8_fault_56 ?_
      refine wp_ireti dX8_fault_57 rfl ?_
      refine qv hQ ?_
      rw [if_neg (by omega), if_neg (by omega)]
  · refine ic_m1 dX8_fault_10 ?_
    refine wp_ireti dX8_fault_11 rfl ?_
    obtain ⟨f5, f6⟩ := F0 c7
    refine qv hQ ?_
    rw [f5, f6]
    split
    · rfl
    · split <;> rfl

theorem wX5_restoreW_2 {G : GT} {δ : Nat} {h hl : Nat → Int → Int} {b : Bool × Bool} {Q : V → Hp → Prop} {o q : Nat} (hδ : δ ≤ 1700) (ho : ty TT o = some (.inl 5)) (hq : ty TT q = some (.inl 5)) (hn : o ≠ q) : ∀ (n : Nat) (p : Int), ((4 - p).toNat) < n → (0 ≤ p) → (p ≤ 4) → (0 ≤ h q 0 → p ≤ h q 0) → (∀ pp : Int, (0 ≤ h q 0 → h q 0 ≤ 4 → pp = h q 0) → Q vn (HS (stR h o q pp) hl b)) → WP G δ 0 0 MX5_restore 2 [vr (o), vr (q), vi p] [] (HS (stL h o q p) hl b) Q := by
  intro n
  induction n with
  | zero => intro p hlt; exact absurd hlt (Nat.not_lt_zero _)
  | succ n ih =>
    intro p hlt p0 p1 p2 hQ
    obtain ⟨m1, m2, m3, m4, m5, m6, m7, m8, m9, m10, m11, m12, m13, m14, m15, m16⟩ := st_ap ho hq hn
    have e0 : stL h o q p q 0 = h q 0 := by unfold stL; rw [if_neg (fun z => m2 z.1), if_neg (fun z => m3 z.1)]
    refine il_2 dX5_restore_2 ?_
    refine al_1 dX5_restore_3 ?_
    refine g_X5_25 dX5_restore_4 rfl hq ?_
    rw [e0]
    refine wp_icmp_ge 45 dX5_restore_7 rfl (fun c7 => ?_) (fun c7 => ?_)
    · refine al_0 dX5_restore_45 ?_
      refine al_1 dX5_restore_46 ?_
      refine g_X5_32 dX5_restore_47 rfl hq ?_
      refine p_X5_32 dX5_restore_50 rfl ho ?_
      refine al_0 dX5_restore_53 ?_
      refine al_1 dX5_restore_54 ?_
      refine g_X5_35 dX5_restore_55 rfl hq ?_
      refine p_X5_35 dX5_restore_58 rfl ho ?_
      refine al_0 dX5_restore_61 ?_
      refine al_1 dX5_restore_62 ?_
      refine g_X5_38 dX5_restore_63 rfl hq ?_
      refine p_X5_38 dX5_restore_66 rfl ho ?_
      refine al_0 dX5_restore_69 ?_
      refine al_1 dX5_restore_70 ?_
      refine g_X5_9 dX5_restore_71 rfl hq ?_
      refine p_X5_9 dX5_restore_74 rfl ho ?_
      refine al_0 dX5_restore_77 ?_
      refine al_1 dX5_restore_78 ?_
      refine g_X5_41 dX5_restore_79 rfl hq ?_
      refine p_X5_41 dX5_restore_82 rfl ho ?_
      refine al_1 dX5_restore_85 ?_
      refine g_X5_22 (q + 3) dX5_restore_86 rfl hq (rr5_8 hq) (by omega) ?_
      refine ic_0 dX5_restore_89 ?_
      refine al_0 dX5_restore_90 ?_
      refine g_X5_22 (o + 3) dX5_restore_91 rfl ho (rr5_8 ho) (by omega) ?_
      refine ic_0 dX5_restore_94 ?_
      refine bi_25 dX5_restore_95 ?_
      refine c_X5_44 dX5_restore_97 rfl (pt5_3 _ (tt_lt hq) hq) (pt5_3 _ (tt_lt ho) ho) (by omega) (by omega) (by omega) (by omega) (by omega) (by simp) (by omega) ?_
      refine wp_vret dX5_restore_100 rfl ?_
      refine qh (hQ p (by omega)) ?_
      clear ih hQ
      funext x k
      grind (splits := 40) [up, stL, stR, cpy]
    · refine il_2 dX5_restore_10 ?_
      refine ic_4 dX5_restore_11 ?_
      refine wp_icmp_ge 45 dX5_restore_12 rfl (fun c12 => ?_) (fun c12 => ?_)
      · refine al_0 dX5_restore_45 ?_
        refine al_1 dX5_restore_46 ?_
        refine g_X5_32 dX5_restore_47 rfl hq ?_
        refine p_X5_32 dX5_restore_50 rfl ho ?_
        refine al_0 dX5_restore_53 ?_
        refine al_1 dX5_restore_54 ?_
        refine g_X5_35 dX5_restore_55 rfl hq ?_
        refine p_X5_35 dX5_restore_58 rfl ho ?_
        refine al_0 dX5_restore_61 ?_
        refine al_1 dX5_restore_62 ?_
        refine g_X5_38 dX5_restore_63 rfl hq ?_
        refine p_X5_38 dX5_restore_66 rfl ho ?_
        refine al_0 dX5_restore_69 ?_
        refine al_1 dX5_restore_70 ?_
        refine g_X5_9 dX5_restore_71 rfl hq ?_
        refine p_X5_9 dX5_restore_74 rfl ho ?_
        refine al_0 dX5_restore_77 ?_
        refine al_1 dX5_restore_78 ?_
        refine g_X5_41 dX5_restore_79 rfl hq ?_
        refine p_X5_41 dX5_restore_82 rfl ho ?_
        refine al_1 dX5_restore_85 ?_
        refine g_X5_22 (q + 3) dX5_restore_86 rfl hq (rr5_8 hq) (by omega) ?_
        refine ic_0 dX5_restore_89 ?_
        refine al_0 dX5_restore_90 ?_
        refine g_X5_22 (o + 3) dX5_restore_91 rfl ho (rr5_8 ho) (by omega) ?_
        refine ic_0 dX5_restore_94 ?_
        refine bi_25 dX5_restore_95 ?_
        refine c_X5_44 dX5_restore_97 rfl (pt5_3 _ (tt_lt hq) hq) (pt5_3 _ (tt_lt ho) ho) (by omega) (by omega) (by omega) (by omega) (by omega) (by simp) (by omega) ?_
        refine wp_vret dX5_restore_100 rfl ?_
        refine qh (hQ p (by omega)) ?_
        clear ih hQ
        funext x k
        grind (splits := 40) [up, stL, stR, cpy]
      · refine al_0 dX5_restore_15 ?_
        refine g_X5_15 (o + 1) dX5_restore_16 rfl ho (rr5_6 ho) (by omega) ?_
        refine il_2 dX5_restore_19 ?_
        refine al_1 dX5_restore_20 ?_
        refine g_X5_15 (q + 1) dX5_restore_21 rfl hq (rr5_6 hq) (by omega) ?_
        refine il_2 dX5_restore_24 ?_
        refine wp_iaload dX5_restore_25 (pt5_1 _ (tt_lt hq) hq) (by omega) (by omega) ?_
        refine wp_iastore dX5_restore_26 (pt5_1 _ (tt_lt ho) ho) (by omega) (by omega) ?_
        refine al_0 dX5_restore_27 ?_
        refine g_X5_19 (o + 2) dX5_restore_28 rfl ho (rr5_7 ho) (by omega) ?_
        refine il_2 dX5_restore_31 ?_
        refine al_1 dX5_restore_32 ?_
        refine g_X5_19 (q + 2) dX5_restore_33 rfl hq (rr5_7 hq) (by omega) ?_
        refine il_2 dX5_restore_36 ?_
        refine wp_iaload dX5_restore_37 (pt5_2 _ (tt_lt hq) hq) (by omega) (by omega) ?_
        refine wp_iastore dX5_restore_38 (pt5_2 _ (tt_lt ho) ho) (by omega) (by omega) ?_
        refine ii_2 dX5_restore_39 rfl (by decide) ⟨by decide, by decide⟩ (r32 (by omega) (by omega)) ?_
        refine wp_goto 2 dX5_restore_42 rfl ?_
        refine wph (ih (p + 1) (by omega) (by omega) (by omega) (by omega) hQ) ?_
        clear ih hQ p2 hlt
        funext x k
        grind (splits := 20) [up, stL]

theorem wX5_restoreW {G : GT} {δ : Nat} {h hl : Nat → Int → Int} {b : Bool × Bool} {Q : V → Hp → Prop} {o q : Nat} (hδ : δ ≤ 1700) (ho : ty TT o = some (.inl 5)) (hq : ty TT q = some (.inl 5)) (hn : o ≠ q) (hQ : ∀ pp : Int, (0 ≤ h q 0 → h q 0 ≤ 4 → pp = h q 0) → Q vn (HS (stR h o q pp) hl b)) : WP G δ 0 0 MX5_restore 0 [vr (o), vr (q), vn] [] (HS h hl b) Q := by
  refine ic_0 dX5_restore_0 ?_
  refine is_2 dX5_restore_1 rfl (by decide) ?_
  refine wph (wX5_restoreW_2 hδ ho hq hn _ 0 (Nat.lt_succ_self _) (by omega) (by omega) (fun z => z) hQ) ?_
  funext x k
  grind [stL]

theorem wX5_copyW {G : GT} {δ : Nat} {h hl : Nat → Int → Int} {b : Bool × Bool} {Q : V → Hp → Prop} {o q : Nat} (hδ : δ ≤ 1680) (ho : ty TT o = some (.inl 5)) (hq : ty TT q = some (.inl 5)) (hn : o ≠ q) (hQ : ∀ h' : Nat → Int → Int, (∀ x, x < o ∨ o + 3 < x → h' x = h x) → (0 ≤ h q 0 → h q 0 ≤ 4 → h' = stC h o q) → Q vn (HS h' hl b)) : WP G δ 0 0 MX5_copy 0 [vr (o), vr (q)] [] (HS h hl b) Q := by
  refine al_0 dX5_copy_0 ?_
  refine al_1 dX5_copy_1 ?_
  refine g_X5_25 dX5_copy_2 rfl hq ?_
  refine p_X5_25 dX5_copy_5 rfl ho ?_
  refine al_0 dX5_copy_8 ?_
  refine al_1 dX5_copy_9 ?_
  refine c_X5_28 dX5_copy_10 rfl ho (Nat.le_of_ble_eq_true rfl) (by omega) ?_
  obtain ⟨m1, m2, m3, m4, m5, m6, m7, m8, m9, m10, m11, m12, m13, m14, m15, m16⟩ := st_ap ho hq hn
  have e0 : up h o 0 (h q 0) q 0 = h q 0 := up_o m1
  refine wX5_restoreW (by omega) ho hq hn (fun pp hp => ?_)
  rw [e0] at hp
  refine pv_n ?_
  refine wp_vret dX5_copy_13 rfl ?_
  refine hQ _ (fun x hx => ?_) (fun z0 z1 => ?_)
  · rw [stR_o hx]; funext j; exact up_o (by omega)
  · rw [hp z0 z1]
    clear hQ hp
    funext x k
    grind (splits := 40) [up, stR, stC]

theorem wX7_copyI_131 {G : GT} {δ : Nat} {hl : Nat → Int → Int} {b : Bool × Bool} {Q : V → Hp → Prop} {h0 : Nat → Int → Int} (hδ : δ ≤ 1660)  : ∀ (n : Nat) (i : Int) (h : Nat → Int → Int), ((30 - i).toNat) < n → (0 ≤ i) → (i ≤ 30) → (∀ x, x < 194 ∨ 313 < x → h x = h0 x) → (∀ j : Int, 0 ≤ j → j < i → ∀ (R : Int → Int) (a n b : Int), SPR h0 (38 + 4 * j.toNat) R a n b → 0 ≤ R a → R a ≤ 4 → R (n + 4) ≤ 25 → SPR h (194 + 4 * j.toNat) R a n b) → (∀ h' : Nat → Int → Int, (∀ x, x < 194 ∨ 313 < x → h' x = h0 x) → (∀ j : Int, 0 ≤ j → j < 30 → ∀ (R : Int → Int) (a n b : Int), SPR h0 (38 + 4 * j.toNat) R a n b → 0 ≤ R a → R a ≤ 4 → R (n + 4) ≤ 25 → SPR h' (194 + 4 * j.toNat) R a n b) → Q vn (HS h' hl b)) → WP G δ 0 0 MX7_copy 131 [vr (158), vr (2), vi i] [] (HS h hl b) Q := by
  intro n
  induction n with
  | zero => intro i h hlt; exact absurd hlt (Nat.not_lt_zero _)
  | succ n ih =>
    intro i h hlt i0 i1 E S hQ
    have tq : ∀ k : Nat, k < 30 → ty TT (194 + 4 * k) = some (.inl 5) := fun k hk => (tt_ahead k hk).2
    have tp : ∀ k : Nat, k < 30 → ty TT (38 + 4 * k) = some (.inl 5) := fun k hk => (tt_ahead k hk).1
    refine il_2 dX7_copy_131 ?_
    refine bi_30 dX7_copy_132 ?_
    refine wp_icmp_ge 158 dX7_copy_134 rfl (fun c134 => ?_) (fun c134 => ?_)
    · have e : i = 30 := by omega
      subst e
      refine wp_vret dX7_copy_158 rfl ?_
      exact hQ h E S
    · refine al_0 dX7_copy_137 ?_
      refine g_X7_49 (174) dX7_copy_138 rfl tt158 (rr7_9 tt158) (by omega) ?_
      refine il_2 dX7_copy_141 ?_
      refine wp_aaload (194 + 4 * i.toNat) dX7_copy_142 tt174 (Or.inr rfl) (by omega) (by omega) (rr174 (by omega) (by omega)) (by omega) ?_
      refine al_1 dX7_copy_143 ?_
      refine g_X7_49 (18) dX7_copy_144 rfl tt2 (rr7_9 tt2) (by omega) ?_
      refine il_2 dX7_copy_147 ?_
      refine wp_aaload (38 + 4 * i.toNat) dX7_copy_148 tt18 (Or.inr rfl) (by omega) (by omega) (rr18 (by omega) (by omega)) (by omega) ?_
      refine c_X7_61 dX7_copy_149 rfl (tq i.toNat (by omega)) (Nat.le_of_ble_eq_true rfl) (by omega) ?_
      refine wX5_copyW (by omega) (tq i.toNat (by omega)) (tp i.toNat (by omega)) (by omega) (fun h1 E1 C1 => ?_)
      refine pv_n ?_
      refine ii_2 dX7_copy_152 rfl (by decide) ⟨by decide, by decide⟩ (r32 (by omega) (by omega)) ?_
      refine wp_goto 131 dX7_copy_155 rfl ?_
      refine ih (i + 1) h1 (by omega) (by omega) (by omega) (fun x hx => by rw [E1 x (by omega)]; exact E x hx) (fun j j0 j1 R a n b P r0 r1 r2 => ?_) hQ
      by_cases e : j = i
      · subst e
        have P' : SPR h (38 + 4 * j.toNat) R a n b := P.c (fun x x0 x1 => E x (by omega))
        have p0 := P'.1
        rw [C1 (by omega) (by omega)]
        exact P'.cpG r2
      · exact (S j j0 (by omega) R a n b P r0 r1 r2).c (fun x x0 x1 => E1 x (by omega))

theorem wX7_copyI_84 {G : GT} {δ : Nat} {hl : Nat → Int → Int} {b : Bool × Bool} {Q : V → Hp → Prop} {h0 : Nat → Int → Int} {m : Int} (hδ : δ ≤ 1660) (hm : h0 158 7 = m) (m4 : m ≤ 4) : ∀ (n : Nat) (i : Int) (h : Nat → Int → Int), ((m - i).toNat) < n → (0 ≤ i) → (i ≤ m) → (∀ x, x < 178 ∨ 193 < x → h x = h0 x) → (∀ j : Int, 0 ≤ j → j < i → SCE h0 h (178 + 4 * j.toNat) (22 + 4 * j.toNat)) → (∀ h' : Nat → Int → Int, (∀ x, x < 178 ∨ 193 < x → h' x = h0 x) → (∀ j : Int, 0 ≤ j → j < m → SCE h0 h' (178 + 4 * j.toNat) (22 + 4 * j.toNat)) → WP G δ 0 0 MX7_copy 113 [vr 158, vr 2, vn] [] (HS h' hl b) Q) → WP G δ 0 0 MX7_copy 84 [vr (158), vr (2), vi i] [] (HS h hl b) Q := by
  intro n
  induction n with
  | zero => intro i h hlt; exact absurd hlt (Nat.not_lt_zero _)
  | succ n ih =>
    intro i h hlt i0 i1 E S hQ
    have tq : ∀ k : Nat, k < 4 → ty TT (178 + 4 * k) = some (.inl 3) := fun k hk => (tt_scripts k hk).2
    have tp : ∀ k : Nat, k < 4 → ty TT (22 + 4 * k) = some (.inl 3) := fun k hk => (tt_scripts k hk).1
    refine il_2 dX7_copy_84 ?_
    refine al_0 dX7_copy_85 ?_
    refine g_X7_68 dX7_copy_86 rfl tt158 ?_
    rw [E 158 (by omega), hm]
    refine wp_icmp_ge 113 dX7_copy_89 rfl (fun c89 => ?_) (fun c89 => ?_)
    · have e : i = m := by omega
      subst e
      refine wp_fg (ls' := [_, _, vn]) ⟨Or.inr rfl, Or.inr rfl, Or.inl rfl, trivial⟩ ?_
      exact hQ h E S
    · refine al_0 dX7_copy_92 ?_
      refine g_X7_41 (173) dX7_copy_93 rfl tt158 (rr7_6 tt158) (by omega) ?_
      refine il_2 dX7_copy_96 ?_
      refine wp_aaload (178 + 4 * i.toNat) dX7_copy_97 tt173 (Or.inl rfl) (by omega) (by omega) (rr173 (by omega) (by omega)) (by omega) ?_
      refine al_1 dX7_copy_98 ?_
      refine g_X7_41 (17) dX7_copy_99 rfl tt2 (rr7_6 tt2) (by omega) ?_
      refine il_2 dX7_copy_102 ?_
      refine wp_aaload (22 + 4 * i.toNat) dX7_copy_103 tt17 (Or.inl rfl) (by omega) (by omega) (rr17 (by omega) (by omega)) (by omega) ?_
      refine c_X7_71 dX7_copy_104 rfl (tq i.toNat (by omega)) (Nat.le_of_ble_eq_true rfl) (by omega) ?_
      refine wX3_copy (by omega) (tq i.toNat (by omega)) (tp i.toNat (by omega)) (by omega) ?_
      refine pv_n ?_
      refine ii_2 dX7_copy_107 rfl (by decide) ⟨by decide, by decide⟩ (r32 (by omega) (by omega)) ?_
      refine wp_goto 84 dX7_copy_110 rfl ?_
      refine ih (i + 1) _ (by omega) (by omega) (by omega) (fun x hx => by rw [scC_o (by omega)]; exact E x hx) (fun j j0 j1 => ?_) hQ
      by_cases e : j = i
      · subst e
        exact scC_E.s (fun x x0 x1 => E x (by omega))
      · exact (S j j0 (by omega)).c (fun x x0 x1 => scC_o (by omega))

theorem wX7_copyI {G : GT} {δ : Nat} {h hl : Nat → Int → Int} {b : Bool × Bool} {Q : V → Hp → Prop} {R : Int → Int} {L : Laws} {T : Int → Int} (hδ : δ ≤ 1660) (P : TPic h 2 R) (V : RV R) (lw : LwC h 2 (R 2) L) (cl : ClT h 2 T (R 2)) (hQ : ∀ h' : Nat → Int → Int, (∀ x, x < 158 ∨ 313 < x → h' x = h x) → TPic h' 158 R → LwC h' 158 (R 2) L → ClT h' 158 T (R 2) → Q vn (HS h' hl b)) : WP G δ 0 0 MX7_copy 0 [vr (158), vr (2), vn] [] (HS h hl b) Q := by
  obtain ⟨p1, p2, p3, p4, p5, p6, ⟨p7, p8, p9, pa, pb⟩, pc⟩ := P
  have n := V.n
  have w := V.w
  refine al_0 dX7_copy_0 ?_
  refine g_X7_12 (159) dX7_copy_1 rfl tt158 (rr7_0 tt158) (by omega) ?_
  refine al_1 dX7_copy_4 ?_
  refine g_X7_12 (3) dX7_copy_5 rfl tt2 (rr7_0 tt2) (by omega) ?_
  refine c_X7_61 dX7_copy_8 rfl tt159 (Nat.le_of_ble_eq_true rfl) (by omega) ?_
  refine wX5_copy (by omega) tt159 tt3 (by decide) (by have : h 3 0 = R 0 := p1.1; omega) (by have : h 3 0 = R 0 := p1.1; omega) ?_
  obtain ⟨h1, e1⟩ : ∃ h1, h1 = stC h 159 3 := ⟨_, rfl⟩
  rw [← e1]
  have O1 : ∀ x, x < 159 ∨ 162 < x → h1 x = h x := fun x hx => by rw [e1]; exact stC_o (by omega)
  have S1 : SPR h1 159 R 0 8 1253 := by rw [e1]; exact SPR.cpG (o := 159) (q := 3) p1 w.2.2.2.2.2
  refine pv_n ?_
  refine al_0 dX7_copy_11 ?_
  refine g_X7_23 (163) dX7_copy_12 rfl tt158 (rr7_1 tt158) (by omega) ?_
  refine al_1 dX7_copy_15 ?_
  refine g_X7_23 (7) dX7_copy_16 rfl tt2 (rr7_1 tt2) (by omega) ?_
  refine c_X7_65 dX7_copy_19 rfl tt163 (Nat.le_of_ble_eq_true rfl) (by omega) ?_
  have T2 : TD h1 7 (R 0) _ := p2.c (fun x x0 x1 => by rw [O1 x (by omega)])
  have g2 := T2.1
  refine wX6_copy (m := 4) (by omega) tt163 tt164 tt7 tt8 (by decide) (by decide) (by omega) (by omega) ?_
  rw [g2]
  obtain ⟨h2, e2⟩ : ∃ h2, h2 = tdC h1 163 7 (R 0) := ⟨_, rfl⟩
  rw [← e2]
  have O2 : ∀ x, x ≠ 163 → x ≠ 164 → h2 x = h1 x := fun x a c => by rw [e2]; exact tdC_o a c
  have U2 := T2.cp (o := 163)
  rw [← e2] at U2
  refine pv_n ?_
  refine al_0 dX7_copy_22 ?_
  refine g_X7_27 (165) dX7_copy_23 rfl tt158 (rr7_2 tt158) (by omega) ?_
  refine al_1 dX7_copy_26 ?_
  refine g_X7_27 (9) dX7_copy_27 rfl tt2 (rr7_2 tt2) (by omega) ?_
  refine c_X7_65 dX7_copy_30 rfl tt165 (Nat.le_of_ble_eq_true rfl) (by omega) ?_
  have T3 : TD h2 9 (R 1) _ := p3.c (fun x x0 x1 => by rw [O2 x (by omega) (by omega), O1 x (by omega)])
  have g3 := T3.1
  refine wX6_copy (m := 8) (by omega) tt165 tt166 tt9 tt10 (by decide) (by decide) (by omega) (by omega) ?_
  rw [g3]
  obtain ⟨h3, e3⟩ : ∃ h3, h3 = tdC h2 165 9 (R 1) := ⟨_, rfl⟩
  rw [← e3]
  have O3 : ∀ x, x ≠ 165 → x ≠ 166 → h3 x = h2 x := fun x a c => by rw [e3]; exact tdC_o a c
  have U3 := T3.cp (o := 165)
  rw [← e3] at U3
  refine pv_n ?_
  refine al_0 dX7_copy_33 ?_
  refine g_X7_30 (167) dX7_copy_34 rfl tt158 (rr7_3 tt158) (by omega) ?_
  refine al_1 dX7_copy_37 ?_
  refine g_X7_30 (11) dX7_copy_38 rfl tt2 (rr7_3 tt2) (by omega) ?_
  refine c_X7_65 dX7_copy_41 rfl tt167 (Nat.le_of_ble_eq_true rfl) (by omega) ?_
  have T4 : TD h3 11 (R 5) _ := p4.c (fun x x0 x1 => by rw [O3 x (by omega) (by omega), O2 x (by omega) (by omega), O1 x (by omega)])
  have g4 := T4.1
  refine wX6_copy (m := 6) (by omega) tt167 tt168 tt11 tt12 (by decide) (by decide) (by omega) (by omega) ?_
  rw [g4]
  obtain ⟨h4, e4⟩ : ∃ h4, h4 = tdC h3 167 11 (R 5) := ⟨_, rfl⟩
  rw [← e4]
  have O4 : ∀ x, x ≠ 167 → x ≠ 168 → h4 x = h3 x := fun x a c => by rw [e4]; exact tdC_o a c
  have U4 := T4.cp (o := 167)
  rw [← e4] at U4
  refine pv_n ?_
  refine al_0 dX7_copy_44 ?_
  refine g_X7_33 (169) dX7_copy_45 rfl tt158 (rr7_4 tt158) (by omega) ?_
  refine al_1 dX7_copy_48 ?_
  refine g_X7_33 (13) dX7_copy_49 rfl tt2 (rr7_4 tt2) (by omega) ?_
  refine c_X7_65 dX7_copy_52 rfl tt169 (Nat.le_of_ble_eq_true rfl) (by omega) ?_
  have T5 : TD h4 13 (R 6) _ := p5.c (fun x x0 x1 => by rw [O4 x (by omega) (by omega), O3 x (by omega) (by omega), O2 x (by omega) (by omega), O1 x (by omega)])
  have g5 := T5.1
  refine wX6_copy (m := 8) (by omega) tt169 tt170 tt13 tt14 (by decide) (by decide) (by omega) (by omega) ?_
  rw [g5]
  obtain ⟨h5, e5⟩ : ∃ h5, h5 = tdC h4 169 13 (R 6) := ⟨_, rfl⟩
  rw [← e5]
  have O5 : ∀ x, x ≠ 169 → x ≠ 170 → h5 x = h4 x := fun x a c => by rw [e5]; exact tdC_o a c
  have U5 := T5.cp (o := 169)
  rw [← e5] at U5
  refine pv_n ?_
  refine al_0 dX7_copy_55 ?_
  refine g_X7_36 (171) dX7_copy_56 rfl tt158 (rr7_5 tt158) (by omega) ?_
  refine al_1 dX7_copy_59 ?_
  refine g_X7_36 (15) dX7_copy_60 rfl tt2 (rr7_5 tt2) (by omega) ?_
  refine c_X7_65 dX7_copy_63 rfl tt171 (Nat.le_of_ble_eq_true rfl) (by omega) ?_
  have T6 : TD h5 15 (R 7) _ := p6.c (fun x x0 x1 => by rw [O5 x (by omega) (by omega), O4 x (by omega) (by omega), O3 x (by omega) (by omega), O2 x (by omega) (by omega), O1 x (by omega)])
  have g6 := T6.1
  refine wX6_copy (m := 8) (by omega) tt171 tt172 tt15 tt16 (by decide) (by decide) (by omega) (by omega) ?_
  rw [g6]
  obtain ⟨h6, e6⟩ : ∃ h6, h6 = tdC h5 171 15 (R 7) := ⟨_, rfl⟩
  rw [← e6]
  have O6 : ∀ x, x ≠ 171 → x ≠ 172 → h6 x = h5 x := fun x a c => by rw [e6]; exact tdC_o a c
  have U6 := T6.cp (o := 171)
  rw [← e6] at U6
  refine pv_n ?_
  refine al_0 dX7_copy_66 ?_
  refine al_1 dX7_copy_67 ?_
  refine g_X7_68 dX7_copy_68 rfl tt2 ?_
  rw [O6 2 (by decide) (by decide), O5 2 (by decide) (by decide), O4 2 (by decide) (by decide), O3 2 (by decide) (by decide), O2 2 (by decide) (by decide), O1 2 (by decide)]
  rw [p7]
  refine p_X7_68 dX7_copy_71 rfl tt158 ?_
  refine al_0 dX7_copy_74 ?_
  refine al_1 dX7_copy_75 ?_
  refine g_X7_45 dX7_copy_76 rfl tt2 ?_
  rw [up_o (by decide)]
  rw [O6 2 (by decide) (by decide), O5 2 (by decide) (by decide), O4 2 (by decide) (by decide), O3 2 (by decide) (by decide), O2 2 (by decide) (by decide), O1 2 (by decide)]
  rw [p8]
  refine p_X7_45 dX7_copy_79 rfl tt158 ?_
  obtain ⟨h7, e7⟩ : ∃ h7, h7 = up (up h6 158 7 (R 2)) 158 8 (R 3) := ⟨_, rfl⟩
  rw [← e7]
  have O7 : ∀ x, x ≠ 158 → h7 x = h6 x := fun x a => by rw [e7]; funext j; rw [up_o a, up_o a]
  have A7 : ∀ x, x < 158 ∨ 173 ≤ x → h7 x = h x := fun x a => by
    rw [O7 x (by omega), O6 x (by omega) (by omega), O5 x (by omega) (by omega), O4 x (by omega) (by omega), O3 x (by omega) (by omega), O2 x (by omega) (by omega), O1 x (by omega)]
  refine ic_0 dX7_copy_82 ?_
  refine is_2 dX7_copy_83 rfl (by decide) ?_
  refine wX7_copyI_84 (h0 := h7) (m := R 2) (by omega) (by rw [e7, up_k (by decide), up_s]) (by omega) _ 0 h7 (Nat.lt_succ_self _) (by omega) (by omega) (fun _ _ => rfl) (fun j j0 j1 => by omega) (fun h8 O8 S8 => ?_)
  refine al_0 dX7_copy_113 ?_
  refine al_1 dX7_copy_114 ?_
  refine g_X7_74 dX7_copy_115 rfl tt2 ?_
  rw [O8 2 (by decide), A7 2 (by decide)]
  refine p_X7_74 dX7_copy_118 rfl tt158 ?_
  refine al_0 dX7_copy_121 ?_
  refine al_1 dX7_copy_122 ?_
  refine g_X7_77 dX7_copy_123 rfl tt2 ?_
  rw [up_o (by decide), O8 2 (by decide), A7 2 (by decide), p9]
  refine p_X7_77 dX7_copy_126 rfl tt158 ?_
  refine ic_0 dX7_copy_129 ?_
  refine is_2 dX7_copy_130 rfl (by decide) ?_
  obtain ⟨h9, e9⟩ : ∃ h9, h9 = up (up h8 158 10 (h 2 10)) 158 11 (R 4) := ⟨_, rfl⟩
  rw [← e9]
  have O9 : ∀ x, x ≠ 158 → h9 x = h8 x := fun x a => by rw [e9]; funext j; rw [up_o a, up_o a]
  refine wX7_copyI_131 (h0 := h9) (by omega) _ 0 h9 (Nat.lt_succ_self _) (by omega) (by omega) (fun _ _ => rfl) (fun j j0 j1 => by omega) (fun h' E' S' => ?_)
  have ku : ∀ x, x < 158 ∨ 313 < x → h' x = h x := fun x hx => by rw [E' x (by omega), O9 x (by omega), O8 x (by omega), A7 x (by omega)]
  have k7 : ∀ x, 158 < x → x < 173 → h' x = h6 x := fun x x0 x1 => by rw [E' x (by omega), O9 x (by omega), O8 x (by omega), O7 x (by omega)]
  have sc : ∀ j : Int, 0 ≤ j → j < R 2 → SCE h h' (178 + 4 * j.toNat) (22 + 4 * j.toNat) := fun j j0 j1 => ((S8 j j0 j1).s (fun x x0 x1 => A7 x (by omega))).c (fun x x0 x1 => by rw [E' x (by omega), O9 x (by omega)])
  refine hQ h' ku ⟨?_, ?_, ?_, ?_, ?_, ?_, ?_, ?_⟩ (fun i i0 i1 => ?_) (fun i i0 i1 => (sc i i0 i1).cl (cl i i0 i1))
  · exact S1.c (fun x x0 x1 => by rw [k7 x (by omega) (by omega), O6 x (by omega) (by omega), O5 x (by omega) (by omega), O4 x (by omega) (by omega), O3 x (by omega) (by omega), O2 x (by omega) (by omega)])
  · exact U2.c (fun x x0 x1 => by rw [k7 x (by omega) (by omega), O6 x (by omega) (by omega), O5 x (by omega) (by omega), O4 x (by omega) (by omega), O3 x (by omega) (by omega)])
  · exact U3.c (fun x x0 x1 => by rw [k7 x (by omega) (by omega), O6 x (by omega) (by omega), O5 x (by omega) (by omega), O4 x (by omega) (by omega)])
  · exact U4.c (fun x x0 x1 => by rw [k7 x (by omega) (by omega), O6 x (by omega) (by omega), O5 x (by omega) (by omega)])
  · exact U5.c (fun x x0 x1 => by rw [k7 x (by omega) (by omega), O6 x (by omega) (by omega)])
  · exact U6.c (fun x x0 x1 => k7 x (by omega) (by omega))
  · have z : h' 158 = h9 158 := E' _ (by omega)
    have z8 : h8 158 = h7 158 := O8 _ (by omega)
    have r7 : h9 158 7 = R 2 := by rw [e9, up_k (by decide), up_k (by decide), z8, e7, up_k (by decide), up_s]
    have r8 : h9 158 8 = R 3 := by rw [e9, up_k (by decide), up_k (by decide), z8, e7, up_s]
    have r11 : h9 158 11 = R 4 := by rw [e9, up_s]
    have r10 : h9 158 10 = h 2 10 := by rw [e9, up_k (by decide), up_s]
    rw [z, r7, r8, r11, r10]
    exact ⟨rfl, rfl, rfl, pa, pb⟩
  · intro j j0 j1
    have z : h' 158 10 = h 2 10 := by rw [E' _ (by omega), e9, up_k (by decide), up_s]
    rw [z]
    have s0 := pc j j0 j1
    have sv := (V.sp j j0 j1).1
    have s9 : SPR h9 (2 + 36 + 4 * ((h 2 10 + j) % 30).toNat) R (83 + 39 * j) (84 + 39 * j) (97 + 39 * j) := s0.c (fun x x0 x1 => by rw [O9 x (by omega), O8 x (by omega), A7 x (by omega)])
    exact S' ((h 2 10 + j) % 30) (by omega) (by omega) R _ _ _ s9 sv.1 sv.2.1 sv.2.2.2.2.2.2.2.2.2.2.2.1
  · obtain ⟨l0, l1, l2⟩ := lw i i0 i1
    have se := sc i i0 i1
    have ee : ety h' (158 + 20 + 4 * i.toNat) = ety h (2 + 20 + 4 * i.toNat) := se.ety l0
    have f2 : h' (158 + 20 + 4 * i.toNat) 2 = h (2 + 20 + 4 * i.toNat) 2 := se.1 2 (by decide) (by decide)
    have f3 : h' (158 + 20 + 4 * i.toNat) 3 = h (2 + 20 + 4 * i.toNat) 3 := se.1 3 (by decide) (by decide)
    have f4 : h' (158 + 20 + 4 * i.toNat) 4 = h (2 + 20 + 4 * i.toNat) 4 := se.1 4 (by decide) (by decide)
    rw [ee, f2, f3, f4]
    exact ⟨l0, l1, l2⟩

theorem wX7_copyB_131 {G : GT} {δ : Nat} {hl : Nat → Int → Int} {b : Bool × Bool} {Q : V → Hp → Prop} {h0 : Nat → Int → Int} (hδ : δ ≤ 1660)  : ∀ (n : Nat) (i : Int) (h : Nat → Int → Int), ((30 - i).toNat) < n → (0 ≤ i) → (i ≤ 30) → (∀ x, x < 38 ∨ 157 < x → h x = h0 x) → (∀ j : Int, 0 ≤ j → j < i → ∀ (R : Int → Int) (a n b : Int), SPR h0 (194 + 4 * j.toNat) R a n b → 0 ≤ R a → R a ≤ 4 → R (n + 4) ≤ 25 → SPR h (38 + 4 * j.toNat) R a n b) → (∀ h' : Nat → Int → Int, (∀ x, x < 38 ∨ 157 < x → h' x = h0 x) → (∀ j : Int, 0 ≤ j → j < 30 → ∀ (R : Int → Int) (a n b : Int), SPR h0 (194 + 4 * j.toNat) R a n b → 0 ≤ R a → R a ≤ 4 → R (n + 4) ≤ 25 → SPR h' (38 + 4 * j.toNat) R a n b) → Q vn (HS h' hl b)) → WP G δ 0 0 MX7_copy 131 [vr (2), vr (158), vi i] [] (HS h hl b) Q := by
  intro n
  induction n with
  | zero => intro i h hlt; exact absurd hlt (Nat.not_lt_zero _)
  | succ n ih =>
    intro i h hlt i0 i1 E S hQ
    have tq : ∀ k : Nat, k < 30 → ty TT (38 + 4 * k) = some (.inl 5) := fun k hk => (tt_ahead k hk).1
    have tp : ∀ k : Nat, k < 30 → ty TT (194 + 4 * k) = some (.inl 5) := fun k hk => (tt_ahead k hk).2
    refine il_2 dX7_copy_131 ?_
    refine bi_30 dX7_copy_132 ?_
    refine wp_icmp_ge 158 dX7_copy_134 rfl (fun c134 => ?_) (fun c134 => ?_)
    · have e : i = 30 := by omega
      subst e
      refine wp_vret dX7_copy_158 rfl ?_
      exact hQ h E S
    · refine al_0 dX7_copy_137 ?_
      refine g_X7_49 (18) dX7_copy_138 rfl tt2 (rr7_9 tt2) (by omega) ?_
      refine il_2 dX7_copy_141 ?_
      refine wp_aaload (38 + 4 * i.toNat) dX7_copy_142 tt18 (Or.inr rfl) (by omega) (by omega) (rr18 (by omega) (by omega)) (by omega) ?_
      refine al_1 dX7_copy_143 ?_
      refine g_X7_49 (174) dX7_copy_144 rfl tt158 (rr7_9 tt158) (by omega) ?_
      refine il_2 dX7_copy_147 ?_
      refine wp_aaload (194 + 4 * i.toNat) dX7_copy_148 tt174 (Or.inr rfl) (by omega) (by omega) (rr174 (by omega) (by omega)) (by omega) ?_
      refine c_X7_61 dX7_copy_149 rfl (tq i.toNat (by omega)) (Nat.le_of_ble_eq_true rfl) (by omega) ?_
      refine wX5_copyW (by omega) (tq i.toNat (by omega)) (tp i.toNat (by omega)) (by omega) (fun h1 E1 C1 => ?_)
      refine pv_n ?_
      refine ii_2 dX7_copy_152 rfl (by decide) ⟨by decide, by decide⟩ (r32 (by omega) (by omega)) ?_
      refine wp_goto 131 dX7_copy_155 rfl ?_
      refine ih (i + 1) h1 (by omega) (by omega) (by omega) (fun x hx => by rw [E1 x (by omega)]; exact E x hx) (fun j j0 j1 R a n b P r0 r1 r2 => ?_) hQ
      by_cases e : j = i
      · subst e
        have P' : SPR h (194 + 4 * j.toNat) R a n b := P.c (fun x x0 x1 => E x (by omega))
        have p0 := P'.1
        rw [C1 (by omega) (by omega)]
        exact P'.cpG r2
      · exact (S j j0 (by omega) R a n b P r0 r1 r2).c (fun x x0 x1 => E1 x (by omega))

theorem wX7_copyB_84 {G : GT} {δ : Nat} {hl : Nat → Int → Int} {b : Bool × Bool} {Q : V → Hp → Prop} {h0 : Nat → Int → Int} {m : Int} (hδ : δ ≤ 1660) (hm : h0 2 7 = m) (m4 : m ≤ 4) : ∀ (n : Nat) (i : Int) (h : Nat → Int → Int), ((m - i).toNat) < n → (0 ≤ i) → (i ≤ m) → (∀ x, x < 22 ∨ 37 < x → h x = h0 x) → (∀ j : Int, 0 ≤ j → j < i → SCE h0 h (22 + 4 * j.toNat) (178 + 4 * j.toNat)) → (∀ h' : Nat → Int → Int, (∀ x, x < 22 ∨ 37 < x → h' x = h0 x) → (∀ j : Int, 0 ≤ j → j < m → SCE h0 h' (22 + 4 * j.toNat) (178 + 4 * j.toNat)) → WP G δ 0 0 MX7_copy 113 [vr 2, vr 158, vn] [] (HS h' hl b) Q) → WP G δ 0 0 MX7_copy 84 [vr (2), vr (158), vi i] [] (HS h hl b) Q := by
  intro n
  induction n with
  | zero => intro i h hlt; exact absurd hlt (Nat.not_lt_zero _)
  | succ n ih =>
    intro i h hlt i0 i1 E S hQ
    have tq : ∀ k : Nat, k < 4 → ty TT (22 + 4 * k) = some (.inl 3) := fun k hk => (tt_scripts k hk).1
    have tp : ∀ k : Nat, k < 4 → ty TT (178 + 4 * k) = some (.inl 3) := fun k hk => (tt_scripts k hk).2
    refine il_2 dX7_copy_84 ?_
    refine al_0 dX7_copy_85 ?_
    refine g_X7_68 dX7_copy_86 rfl tt2 ?_
    rw [E 2 (by omega), hm]
    refine wp_icmp_ge 113 dX7_copy_89 rfl (fun c89 => ?_) (fun c89 => ?_)
    · have e : i = m := by omega
      subst e
      refine wp_fg (ls' := [_, _, vn]) ⟨Or.inr rfl, Or.inr rfl, Or.inl rfl, trivial⟩ ?_
      exact hQ h E S
    · refine al_0 dX7_copy_92 ?_
      refine g_X7_41 (17) dX7_copy_93 rfl tt2 (rr7_6 tt2) (by omega) ?_
      refine il_2 dX7_copy_96 ?_
      refine wp_aaload (22 + 4 * i.toNat) dX7_copy_97 tt17 (Or.inl rfl) (by omega) (by omega) (rr17 (by omega) (by omega)) (by omega) ?_
      refine al_1 dX7_copy_98 ?_
      refine g_X7_41 (173) dX7_copy_99 rfl tt158 (rr7_6 tt158) (by omega) ?_
      refine il_2 dX7_copy_102 ?_
      refine wp_aaload (178 + 4 * i.toNat) dX7_copy_103 tt173 (Or.inl rfl) (by omega) (by omega) (rr173 (by omega) (by omega)) (by omega) ?_
      refine c_X7_71 dX7_copy_104 rfl (tq i.toNat (by omega)) (Nat.le_of_ble_eq_true rfl) (by omega) ?_
      refine wX3_copy (by omega) (tq i.toNat (by omega)) (tp i.toNat (by omega)) (by omega) ?_
      refine pv_n ?_
      refine ii_2 dX7_copy_107 rfl (by decide) ⟨by decide, by decide⟩ (r32 (by omega) (by omega)) ?_
      refine wp_goto 84 dX7_copy_110 rfl ?_
      refine ih (i + 1) _ (by omega) (by omega) (by omega) (fun x hx => by rw [scC_o (by omega)]; exact E x hx) (fun j j0 j1 => ?_) hQ
      by_cases e : j = i
      · subst e
        exact scC_E.s (fun x x0 x1 => E x (by omega))
      · exact (S j j0 (by omega)).c (fun x x0 x1 => scC_o (by omega))

theorem wX7_copyB {G : GT} {δ : Nat} {h hl : Nat → Int → Int} {b : Bool × Bool} {Q : V → Hp → Prop} {R : Int → Int} {L : Laws} {T : Int → Int} (hδ : δ ≤ 1660) (P : TPic h 158 R) (V : RV R) (lw : LwC h 158 (R 2) L) (cl : ClT h 158 T (R 2)) (hQ : ∀ h' : Nat → Int → Int, (∀ x, x < 2 ∨ 157 < x → h' x = h x) → TPic h' 2 R → LwC h' 2 (R 2) L → ClT h' 2 T (R 2) → Q vn (HS h' hl b)) : WP G δ 0 0 MX7_copy 0 [vr (2), vr (158), vn] [] (HS h hl b) Q := by
  obtain ⟨p1, p2, p3, p4, p5, p6, ⟨p7, p8, p9, pa, pb⟩, pc⟩ := P
  have n := V.n
  have w := V.w
  refine al_0 dX7_copy_0 ?_
  refine g_X7_12 (3) dX7_copy_1 rfl tt2 (rr7_0 tt2) (by omega) ?_
  refine al_1 dX7_copy_4 ?_
  refine g_X7_12 (159) dX7_copy_5 rfl tt158 (rr7_0 tt158) (by omega) ?_
  refine c_X7_61 dX7_copy_8 rfl tt3 (Nat.le_of_ble_eq_true rfl) (by omega) ?_
  refine wX5_copy (by omega) tt3 tt159 (by decide) (by have : h 159 0 = R 0 := p1.1; omega) (by have : h 159 0 = R 0 := p1.1; omega) ?_
  obtain ⟨h1, e1⟩ : ∃ h1, h1 = stC h 3 159 := ⟨_, rfl⟩
  rw [← e1]
  have O1 : ∀ x, x < 3 ∨ 6 < x → h1 x = h x := fun x hx => by rw [e1]; exact stC_o (by omega)
  have S1 : SPR h1 3 R 0 8 1253 := by rw [e1]; exact SPR.cpG (o := 3) (q := 159) p1 w.2.2.2.2.2
  refine pv_n ?_
  refine al_0 dX7_copy_11 ?_
  refine g_X7_23 (7) dX7_copy_12 rfl tt2 (rr7_1 tt2) (by omega) ?_
  refine al_1 dX7_copy_15 ?_
  refine g_X7_23 (163) dX7_copy_16 rfl tt158 (rr7_1 tt158) (by omega) ?_
  refine c_X7_65 dX7_copy_19 rfl tt7 (Nat.le_of_ble_eq_true rfl) (by omega) ?_
  have T2 : TD h1 163 (R 0) _ := p2.c (fun x x0 x1 => by rw [O1 x (by omega)])
  have g2 := T2.1
  refine wX6_copy (m := 4) (by omega) tt7 tt8 tt163 tt164 (by decide) (by decide) (by omega) (by omega) ?_
  rw [g2]
  obtain ⟨h2, e2⟩ : ∃ h2, h2 = tdC h1 7 163 (R 0) := ⟨_, rfl⟩
  rw [← e2]
  have O2 : ∀ x, x ≠ 7 → x ≠ 8 → h2 x = h1 x := fun x a c => by rw [e2]; exact tdC_o a c
  have U2 := T2.cp (o := 7)
  rw [← e2] at U2
  refine pv_n ?_
  refine al_0 dX7_copy_22 ?_
  refine g_X7_27 (9) dX7_copy_23 rfl tt2 (rr7_2 tt2) (by omega) ?_
  refine al_1 dX7_copy_26 ?_
  refine g_X7_27 (165) dX7_copy_27 rfl tt158 (rr7_2 tt158) (by omega) ?_
  refine c_X7_65 dX7_copy_30 rfl tt9 (Nat.le_of_ble_eq_true rfl) (by omega) ?_
  have T3 : TD h2 165 (R 1) _ := p3.c (fun x x0 x1 => by rw [O2 x (by omega) (by omega), O1 x (by omega)])
  have g3 := T3.1
  refine wX6_copy (m := 8) (by omega) tt9 tt10 tt165 tt166 (by decide) (by decide) (by omega) (by omega) ?_
  rw [g3]
  obtain ⟨h3, e3⟩ : ∃ h3, h3 = tdC h2 9 165 (R 1) := ⟨_, rfl⟩
  rw [← e3]
  have O3 : ∀ x, x ≠ 9 → x ≠ 10 → h3 x = h2 x := fun x a c => by rw [e3]; exact tdC_o a c
  have U3 := T3.cp (o := 9)
  rw [← e3] at U3
  refine pv_n ?_
  refine al_0 dX7_copy_33 ?_
  refine g_X7_30 (11) dX7_copy_34 rfl tt2 (rr7_3 tt2) (by omega) ?_
  refine al_1 dX7_copy_37 ?_
  refine g_X7_30 (167) dX7_copy_38 rfl tt158 (rr7_3 tt158) (by omega) ?_
  refine c_X7_65 dX7_copy_41 rfl tt11 (Nat.le_of_ble_eq_true rfl) (by omega) ?_
  have T4 : TD h3 167 (R 5) _ := p4.c (fun x x0 x1 => by rw [O3 x (by omega) (by omega), O2 x (by omega) (by omega), O1 x (by omega)])
  have g4 := T4.1
  refine wX6_copy (m := 6) (by omega) tt11 tt12 tt167 tt168 (by decide) (by decide) (by omega) (by omega) ?_
  rw [g4]
  obtain ⟨h4, e4⟩ : ∃ h4, h4 = tdC h3 11 167 (R 5) := ⟨_, rfl⟩
  rw [← e4]
  have O4 : ∀ x, x ≠ 11 → x ≠ 12 → h4 x = h3 x := fun x a c => by rw [e4]; exact tdC_o a c
  have U4 := T4.cp (o := 11)
  rw [← e4] at U4
  refine pv_n ?_
  refine al_0 dX7_copy_44 ?_
  refine g_X7_33 (13) dX7_copy_45 rfl tt2 (rr7_4 tt2) (by omega) ?_
  refine al_1 dX7_copy_48 ?_
  refine g_X7_33 (169) dX7_copy_49 rfl tt158 (rr7_4 tt158) (by omega) ?_
  refine c_X7_65 dX7_copy_52 rfl tt13 (Nat.le_of_ble_eq_true rfl) (by omega) ?_
  have T5 : TD h4 169 (R 6) _ := p5.c (fun x x0 x1 => by rw [O4 x (by omega) (by omega), O3 x (by omega) (by omega), O2 x (by omega) (by omega), O1 x (by omega)])
  have g5 := T5.1
  refine wX6_copy (m := 8) (by omega) tt13 tt14 tt169 tt170 (by decide) (by decide) (by omega) (by omega) ?_
  rw [g5]
  obtain ⟨h5, e5⟩ : ∃ h5, h5 = tdC h4 13 169 (R 6) := ⟨_, rfl⟩
  rw [← e5]
  have O5 : ∀ x, x ≠ 13 → x ≠ 14 → h5 x = h4 x := fun x a c => by rw [e5]; exact tdC_o a c
  have U5 := T5.cp (o := 13)
  rw [← e5] at U5
  refine pv_n ?_
  refine al_0 dX7_copy_55 ?_
  refine g_X7_36 (15) dX7_copy_56 rfl tt2 (rr7_5 tt2) (by omega) ?_
  refine al_1 dX7_copy_59 ?_
  refine g_X7_36 (171) dX7_copy_60 rfl tt158 (rr7_5 tt158) (by omega) ?_
  refine c_X7_65 dX7_copy_63 rfl tt15 (Nat.le_of_ble_eq_true rfl) (by omega) ?_
  have T6 : TD h5 171 (R 7) _ := p6.c (fun x x0 x1 => by rw [O5 x (by omega) (by omega), O4 x (by omega) (by omega), O3 x (by omega) (by omega), O2 x (by omega) (by omega), O1 x (by omega)])
  have g6 := T6.1
  refine wX6_copy (m := 8) (by omega) tt15 tt16 tt171 tt172 (by decide) (by decide) (by omega) (by omega) ?_
  rw [g6]
  obtain ⟨h6, e6⟩ : ∃ h6, h6 = tdC h5 15 171 (R 7) := ⟨_, rfl⟩
  rw [← e6]
  have O6 : ∀ x, x ≠ 15 → x ≠ 16 → h6 x = h5 x := fun x a c => by rw [e6]; exact tdC_o a c
  have U6 := T6.cp (o := 15)
  rw [← e6] at U6
  refine pv_n ?_
  refine al_0 dX7_copy_66 ?_
  refine al_1 dX7_copy_67 ?_
  refine g_X7_68 dX7_copy_68 rfl tt158 ?_
  rw [O6 158 (by decide) (by decide), O5 158 (by decide) (by decide), O4 158 (by decide) (by decide), O3 158 (by decide) (by decide), O2 158 (by decide) (by decide), O1 158 (by decide)]
  rw [p7]
  refine p_X7_68 dX7_copy_71 rfl tt2 ?_
  refine al_0 dX7_copy_74 ?_
  refine al_1 dX7_copy_75 ?_
  refine g_X7_45 dX7_copy_76 rfl tt158 ?_
  rw [up_o (by decide)]
  rw [O6 158 (by decide) (by decide), O5 158 (by decide) (by decide), O4 158 (by decide) (by decide), O3 158 (by decide) (by decide), O2 158 (by decide) (by decide), O1 158 (by decide)]
  rw [p8]
  refine p_X7_45 dX7_copy_79 rfl tt2 ?_
  obtain ⟨h7, e7⟩ : ∃ h7, h7 = up (up h6 2 7 (R 2)) 2 8 (R 3) := ⟨_, rfl⟩
  rw [← e7]
  have O7 : ∀ x, x ≠ 2 → h7 x = h6 x := fun x a => by rw [e7]; funext j; rw [up_o a, up_o a]
  have A7 : ∀ x, x < 2 ∨ 17 ≤ x → h7 x = h x := fun x a => by
    rw [O7 x (by omega), O6 x (by omega) (by omega), O5 x (by omega) (by omega), O4 x (by omega) (by omega), O3 x (by omega) (by omega), O2 x (by omega) (by omega), O1 x (by omega)]
  refine ic_0 dX7_copy_82 ?_
  refine is_2 dX7_copy_83 rfl (by decide) ?_
  refine wX7_copyB_84 (h0 := h7) (m := R 2) (by omega) (by rw [e7, up_k (by decide), up_s]) (by omega) _ 0 h7 (Nat.lt_succ_self _) (by omega) (by omega) (fun _ _ => rfl) (fun j j0 j1 => by omega) (fun h8 O8 S8 => ?_)
  refine al_0 dX7_copy_113 ?_
  refine al_1 dX7_copy_114 ?_
  refine g_X7_74 dX7_copy_115 rfl tt158 ?_
  rw [O8 158 (by decide), A7 158 (by decide)]
  refine p_X7_74 dX7_copy_118 rfl tt2 ?_
  refine al_0 dX7_copy_121 ?_
  refine al_1 dX7_copy_122 ?_
  refine g_X7_77 dX7_copy_123 rfl tt158 ?_
  rw [up_o (by decide), O8 158 (by decide), A7 158 (by decide), p9]
  refine p_X7_77 dX7_copy_126 rfl tt2 ?_
  refine ic_0 dX7_copy_129 ?_
  refine is_2 dX7_copy_130 rfl (by decide) ?_
  obtain ⟨h9, e9⟩ : ∃ h9, h9 = up (up h8 2 10 (h 158 10)) 2 11 (R 4) := ⟨_, rfl⟩
  rw [← e9]
  have O9 : ∀ x, x ≠ 2 → h9 x = h8 x := fun x a => by rw [e9]; funext j; rw [up_o a, up_o a]
  refine wX7_copyB_131 (h0 := h9) (by omega) _ 0 h9 (Nat.lt_succ_self _) (by omega) (by omega) (fun _ _ => rfl) (fun j j0 j1 => by omega) (fun h' E' S' => ?_)
  have ku : ∀ x, x < 2 ∨ 157 < x → h' x = h x := fun x hx => by rw [E' x (by omega), O9 x (by omega), O8 x (by omega), A7 x (by omega)]
  have k7 : ∀ x, 2 < x → x < 17 → h' x = h6 x := fun x x0 x1 => by rw [E' x (by omega), O9 x (by omega), O8 x (by omega), O7 x (by omega)]
  have sc : ∀ j : Int, 0 ≤ j → j < R 2 → SCE h h' (22 + 4 * j.toNat) (178 + 4 * j.toNat) := fun j j0 j1 => ((S8 j j0 j1).s (fun x x0 x1 => A7 x (by omega))).c (fun x x0 x1 => by rw [E' x (by omega), O9 x (by omega)])
  refine hQ h' ku ⟨?_, ?_, ?_, ?_, ?_, ?_, ?_, ?_⟩ (fun i i0 i1 => ?_) (fun i i0 i1 => (sc i i0 i1).cl (cl i i0 i1))
  · exact S1.c (fun x x0 x1 => by rw [k7 x (by omega) (by omega), O6 x (by omega) (by omega), O5 x (by omega) (by omega), O4 x (by omega) (by omega), O3 x (by omega) (by omega), O2 x (by omega) (by omega)])
  · exact U2.c (fun x x0 x1 => by rw [k7 x (by omega) (by omega), O6 x (by omega) (by omega), O5 x (by omega) (by omega), O4 x (by omega) (by omega), O3 x (by omega) (by omega)])
  · exact U3.c (fun x x0 x1 => by rw [k7 x (by omega) (by omega), O6 x (by omega) (by omega), O5 x (by omega) (by omega), O4 x (by omega) (by omega)])
  · exact U4.c (fun x x0 x1 => by rw [k7 x (by omega) (by omega), O6 x (by omega) (by omega), O5 x (by omega) (by omega)])
  · exact U5.c (fun x x0 x1 => by rw [k7 x (by omega) (by omega), O6 x (by omega) (by omega)])
  · exact U6.c (fun x x0 x1 => k7 x (by omega) (by omega))
  · have z : h' 2 = h9 2 := E' _ (by omega)
    have z8 : h8 2 = h7 2 := O8 _ (by omega)
    have r7 : h9 2 7 = R 2 := by rw [e9, up_k (by decide), up_k (by decide), z8, e7, up_k (by decide), up_s]
    have r8 : h9 2 8 = R 3 := by rw [e9, up_k (by decide), up_k (by decide), z8, e7, up_s]
    have r11 : h9 2 11 = R 4 := by rw [e9, up_s]
    have r10 : h9 2 10 = h 158 10 := by rw [e9, up_k (by decide), up_s]
    rw [z, r7, r8, r11, r10]
    exact ⟨rfl, rfl, rfl, pa, pb⟩
  · intro j j0 j1
    have z : h' 2 10 = h 158 10 := by rw [E' _ (by omega), e9, up_k (by decide), up_s]
    rw [z]
    have s0 := pc j j0 j1
    have sv := (V.sp j j0 j1).1
    have s9 : SPR h9 (158 + 36 + 4 * ((h 158 10 + j) % 30).toNat) R (83 + 39 * j) (84 + 39 * j) (97 + 39 * j) := s0.c (fun x x0 x1 => by rw [O9 x (by omega), O8 x (by omega), A7 x (by omega)])
    exact S' ((h 158 10 + j) % 30) (by omega) (by omega) R _ _ _ s9 sv.1 sv.2.1 sv.2.2.2.2.2.2.2.2.2.2.2.1
  · obtain ⟨l0, l1, l2⟩ := lw i i0 i1
    have se := sc i i0 i1
    have ee : ety h' (2 + 20 + 4 * i.toNat) = ety h (158 + 20 + 4 * i.toNat) := se.ety l0
    have f2 : h' (2 + 20 + 4 * i.toNat) 2 = h (158 + 20 + 4 * i.toNat) 2 := se.1 2 (by decide) (by decide)
    have f3 : h' (2 + 20 + 4 * i.toNat) 3 = h (158 + 20 + 4 * i.toNat) 3 := se.1 3 (by decide) (by decide)
    have f4 : h' (2 + 20 + 4 * i.toNat) 4 = h (158 + 20 + 4 * i.toNat) 4 := se.1 4 (by decide) (by decide)
    rw [ee, f2, f3, f4]
    exact ⟨l0, l1, l2⟩
