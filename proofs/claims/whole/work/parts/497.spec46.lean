/-! the class cuts the tape -/
def BY (T : Int → Int) (N : Int) : Prop := 0 ≤ N ∧ N ≤ 300 ∧ ∀ k, 0 ≤ k → k < N → 0 ≤ T k ∧ T k ≤ 255
def CutI (h0 h : Nat → Int → Int) (T : Int → Int) (N : Int) (tk : Nat) : Prop := h 314 9 = tk ∧ (∀ j : Int, 0 ≤ j → j < tk → (h 320 j = kF T N j ∧ h 321 j = vF T N j ∧ h 322 j = pF T N j) ∧ ¬ kF T N j = 54) ∧ eqX [314, 320, 321, 322] h0 h ∧ ∀ k : Int, k ≠ 9 → h 314 k = h0 314 k
def addT (h : Nat → Int → Int) (n k v p : Int) : Nat → Int → Int := up (up (up (up h 320 n k) 321 n v) 322 n p) 314 9 (n + 1)
def TKS (h0 h : Nat → Int → Int) (T : Int → Int) (N n : Int) : Prop := h 314 9 = n ∧ TkE (kF T N) n ∧ (∀ j : Int, 0 ≤ j → j < n → h 320 j = kF T N j ∧ h 321 j = vF T N j ∧ h 322 j = pF T N j) ∧ (∀ j : Int, 0 ≤ j → j < n - 1 → ¬ kF T N j = 54) ∧ eqX [314, 320, 321, 322] h0 h ∧ ∀ k : Int, k ≠ 9 → h 314 k = h0 314 k
theorem pF_s {T : Int → Int} {N : Int} (j : Nat) : pF T N ((j : Int) + 1) = run spcB T N (tkF T N (pF T N j)).2.2 := by
  unfold pF
  rw [show ((j : Int) + 1).toNat = j + 1 by omega, show ((j : Int)).toNat = j by omega]
  rfl
theorem addT_r {h : Nat → Int → Int} {n k v p : Int} : addT h n k v p 314 9 = n + 1 ∧ (addT h n k v p 320 n = k ∧ addT h n k v p 321 n = v ∧ addT h n k v p 322 n = p) ∧ (∀ j : Int, j ≠ n → addT h n k v p 320 j = h 320 j ∧ addT h n k v p 321 j = h 321 j ∧ addT h n k v p 322 j = h 322 j) ∧ (∀ o, o ≠ 314 → o ≠ 320 → o ≠ 321 → o ≠ 322 → addT h n k v p o = h o) ∧ ∀ j : Int, j ≠ 9 → addT h n k v p 314 j = h 314 j := by
  unfold addT
  refine ⟨up_s, ⟨?_, ?_, ?_⟩, fun j hj => ⟨?_, ?_, ?_⟩, fun o a c d e => ?_, fun j hj => ?_⟩
  · rw [up_o (by decide), up_o (by decide), up_o (by decide), up_s]
  · rw [up_o (by decide), up_o (by decide), up_s]
  · rw [up_o (by decide), up_s]
  · rw [up_o (by decide), up_o (by decide), up_o (by decide), up_k hj]
  · rw [up_o (by decide), up_o (by decide), up_k hj, up_o (by decide)]
  · rw [up_o (by decide), up_k hj, up_o (by decide), up_o (by decide)]
  · funext j; rw [up_o a, up_o e, up_o d, up_o c]
  · rw [up_k hj, up_o (by decide), up_o (by decide), up_o (by decide)]
section CUT
variable {h0 h : Nat → Int → Int} {T : Int → Int} {N : Int} {tk : Nat}
theorem CutI.eqs (C : CutI h0 h T N tk) {n k v p : Int} : eqX [314, 320, 321, 322] h0 (addT h n k v p) ∧ ∀ j : Int, j ≠ 9 → addT h n k v p 314 j = h0 314 j := by
  obtain ⟨a, b, c, d⟩ := C
  obtain ⟨r1, r2, r3, r4, r5⟩ := addT_r (h := h) (n := n) (k := k) (v := v) (p := p)
  refine ⟨fun o ho => ?_, fun j hj => by rw [r5 j hj]; exact d j hj⟩
  rw [r4 o (fun e => ho (by simp [e])) (fun e => ho (by simp [e])) (fun e => ho (by simp [e])) (fun e => ho (by simp [e]))]
  exact c o ho
theorem CutI.add (C : CutI h0 h T N tk) {k v p e : Int} (hp : pF T N tk = p) (ht : tkF T N p = (k, v, e)) (nk : ¬ k = 54) : CutI h0 (addT h tk k v p) T N (tk + 1) ∧ run spcB T N e = pF T N ((tk + 1 : Nat) : Int) := by
  have E := C.eqs (n := tk) (k := k) (v := v) (p := p)
  obtain ⟨a, b, c, d⟩ := C
  obtain ⟨r1, r2, r3, r4, r5⟩ := addT_r (h := h) (n := tk) (k := k) (v := v) (p := p)
  have kk : kF T N tk = k := by unfold kF; rw [hp, ht]
  have vv : vF T N tk = v := by unfold vF; rw [hp, ht]
  refine ⟨⟨by rw [r1]; omega, fun j j0 j1 => ?_, E.1, E.2⟩, ?_⟩
  · by_cases q : j = tk
    · rw [q, kk, vv, hp]; exact ⟨r2, nk⟩
    · obtain ⟨x, y, z⟩ := r3 j q
      rw [x, y, z]
      exact b j j0 (by omega)
  · rw [show ((tk + 1 : Nat) : Int) = (tk : Int) + 1 by omega, pF_s, hp, ht]
theorem CutI.fin (C : CutI h0 h T N tk) (hp : pF T N tk = N) (hk : (tk : Int) ≤ 300) : TKS h0 (addT h tk 54 0 N) T N (tk + 1) := by
  have E := C.eqs (n := tk) (k := 54) (v := 0) (p := N)
  obtain ⟨a, b, c, d⟩ := C
  obtain ⟨r1, r2, r3, r4, r5⟩ := addT_r (h := h) (n := tk) (k := 54) (v := 0) (p := N)
  have ht : tkF T N N = (54, 0, N) := by unfold tkF; rw [if_pos (Int.le_refl _)]
  have kk : kF T N tk = 54 := by unfold kF; rw [hp, ht]
  have vv : vF T N tk = 0 := by unfold vF; rw [hp, ht]
  refine ⟨r1, ⟨by omega, by omega, by rw [show (tk : Int) + 1 - 1 = tk by omega]; exact kk⟩, fun j j0 j1 => ?_, fun j j0 j1 => (b j j0 (by omega)).2, E.1, E.2⟩
  by_cases q : j = tk
  · rw [q, kk, vv, hp]; exact r2
  · obtain ⟨x, y, z⟩ := r3 j q
    rw [x, y, z]
    exact (b j j0 (by omega)).1
end CUT
theorem sgF_R {c : Int} : 41 ≤ sgF c ∧ sgF c ≤ 55 ∧ ¬ sgF c = 54 := by
  unfold sgF
  repeat' split
  all_goals omega
theorem sgF_v {c : Int} (h : c = 60 ∨ c = 62) : ¬ sgF c + 1 = 54 ∧ sgF c + 1 ≤ 44 := by
  rcases h with e | e <;> subst e <;> decide

theorem wX2_lettersFrom_2 {G : GT} {δ : Nat} {h hl : Nat → Int → Int} {b : Bool × Bool} {Q : V → Hp → Prop} {p N : Int} {T : Int → Int} (hδ : δ ≤ 1680) (p0 : 0 ≤ p) (hN : h 314 1 = N) (hT : h 315 = T) (B : BY T N) : ∀ (n : Nat) (l : Int), ((N - (p + l)).toNat) < n → (0 ≤ l) → (p + l ≤ N) → (run ltrB T N (p + l) = run ltrB T N p) → (Q (vi (run ltrB T N p - p)) (HS h hl b)) → WP G δ 0 0 MX2_lettersFrom 2 [vr (314), vi p, vi l] [] (HS h hl b) Q := by
  intro n
  induction n with
  | zero => intro l hlt; exact absurd hlt (Nat.not_lt_zero _)
  | succ n ih =>
    intro l hlt l0 l1 r hQ
    have B0 := B.1
    have B1 := B.2.1
    have B2 := B.2.2
    refine il_1 dX2_lettersFrom_2 ?_
    refine il_2 dX2_lettersFrom_3 ?_
    refine wp_iadd dX2_lettersFrom_4 (r32 (by omega) (by omega)) ?_
    refine al_0 dX2_lettersFrom_5 ?_
    refine g_X2_35 dX2_lettersFrom_6 rfl tt314 ?_
    rw [hN]
    refine wp_icmp_ge 32 dX2_lettersFrom_9 rfl (fun c9 => ?_) (fun c9 => ?_)
    · refine il_2 dX2_lettersFrom_32 ?_
      refine wp_ireti dX2_lettersFrom_33 rfl ?_
      refine qv hQ ?_
      first
        | (rw [run_o (by omega)] at r; omega)
        | (rw [run_n (by rw [bA_i (by omega), ltrB_i]; exact c23)] at r; omega)
    · refine al_0 dX2_lettersFrom_12 ?_
      refine g_X2_9 (315) dX2_lettersFrom_13 rfl tt314 (rr2_0 tt314) (by omega) ?_
      refine il_1 dX2_lettersFrom_16 ?_
      refine il_2 dX2_lettersFrom_17 ?_
      refine wp_iadd dX2_lettersFrom_18 (r32 (by omega) (by omega)) ?_
      refine wp_iaload dX2_lettersFrom_19 tt315 (by omega) (by omega) ?_
      rw [hT]
      refine c_X2_61 dX2_lettersFrom_20 rfl (Nat.le_of_ble_eq_true rfl) (by omega) ?_
      refine wX2_isLetter (by omega) ?_
      refine pv_i ?_
      refine wp_if_eq 32 dX2_lettersFrom_23 rfl (fun c23 => ?_) (fun c23 => ?_)
      · rw [b2i_0] at c23
        refine il_2 dX2_lettersFrom_32 ?_
        refine wp_ireti dX2_lettersFrom_33 rfl ?_
        refine qv hQ ?_
        first
          | (rw [run_o (by omega)] at r; omega)
          | (rw [run_n (by rw [bA_i (by omega), ltrB_i]; exact c23)] at r; omega)
      · rw [b2i_n0] at c23
        refine ii_2 dX2_lettersFrom_26 rfl (by decide) ⟨by decide, by decide⟩ (r32 (by omega) (by omega)) ?_
        refine wp_goto 2 dX2_lettersFrom_29 rfl ?_
        exact ih (l + 1) (by omega) (by omega) (by omega) (by rw [← r, run_y (p := p + l) (by omega) (ltrB_i.mpr c23)]; congr 1; omega) hQ

theorem wX2_lettersFrom {G : GT} {δ : Nat} {h hl : Nat → Int → Int} {b : Bool × Bool} {Q : V → Hp → Prop} {p N : Int} {T : Int → Int} (hδ : δ ≤ 1680) (p0 : 0 ≤ p) (p1 : p ≤ N) (hN : h 314 1 = N) (hT : h 315 = T) (B : BY T N) (hQ : Q (vi (run ltrB T N p - p)) (HS h hl b)) : WP G δ 0 0 MX2_lettersFrom 0 [vr (314), vi p, vn] [] (HS h hl b) Q := by
  refine ic_0 dX2_lettersFrom_0 ?_
  refine is_2 dX2_lettersFrom_1 rfl (by decide) ?_
  exact wX2_lettersFrom_2 (by omega) p0 hN hT B _ 0 (Nat.lt_succ_self _) (by omega) (by omega) (by rw [Int.add_zero]) hQ

theorem wX2_digitsFrom_2 {G : GT} {δ : Nat} {h hl : Nat → Int → Int} {b : Bool × Bool} {Q : V → Hp → Prop} {p N : Int} {T : Int → Int} (hδ : δ ≤ 1680) (p0 : 0 ≤ p) (hN : h 314 1 = N) (hT : h 315 = T) (B : BY T N) : ∀ (n : Nat) (l : Int), ((N - (p + l)).toNat) < n → (0 ≤ l) → (p + l ≤ N) → (run figB T N (p + l) = run figB T N p) → (Q (vi (run figB T N p - p)) (HS h hl b)) → WP G δ 0 0 MX2_digitsFrom 2 [vr (314), vi p, vi l] [] (HS h hl b) Q := by
  intro n
  induction n with
  | zero => intro l hlt; exact absurd hlt (Nat.not_lt_zero _)
  | succ n ih =>
    intro l hlt l0 l1 r hQ
    have B0 := B.1
    have B1 := B.2.1
    have B2 := B.2.2
    refine il_1 dX2_digitsFrom_2 ?_
    refine il_2 dX2_digitsFrom_3 ?_
    refine wp_iadd dX2_digitsFrom_4 (r32 (by omega) (by omega)) ?_
    refine al_0 dX2_digitsFrom_5 ?_
    refine g_X2_35 dX2_digitsFrom_6 rfl tt314 ?_
    rw [hN]
    refine wp_icmp_ge 32 dX2_digitsFrom_9 rfl (fun c9 => ?_) (fun c9 => ?_)
    · refine il_2 dX2_digitsFrom_32 ?_
      refine wp_ireti dX2_digitsFrom_33 rfl ?_
      refine qv hQ ?_
      first
        | (rw [run_o (by omega)] at r; omega)
        | (rw [run_n (by rw [bA_i (by omega), figB_i]; exact c23)] at r; omega)
    · refine al_0 dX2_digitsFrom_12 ?_
      refine g_X2_9 (315) dX2_digitsFrom_13 rfl tt314 (rr2_0 tt314) (by omega) ?_
      refine il_1 dX2_digitsFrom_16 ?_
      refine il_2 dX2_digitsFrom_17 ?_
      refine wp_iadd dX2_digitsFrom_18 (r32 (by omega) (by omega)) ?_
      refine wp_iaload dX2_digitsFrom_19 tt315 (by omega) (by omega) ?_
      rw [hT]
      refine c_X2_77 dX2_digitsFrom_20 rfl (Nat.le_of_ble_eq_true rfl) (by omega) ?_
      refine wX2_isDigit (by omega) ?_
      refine pv_i ?_
      refine wp_if_eq 32 dX2_digitsFrom_23 rfl (fun c23 => ?_) (fun c23 => ?_)
      · rw [b2i_0] at c23
        refine il_2 dX2_digitsFrom_32 ?_
        refine wp_ireti dX2_digitsFrom_33 rfl ?_
        refine qv hQ ?_
        first
          | (rw [run_o (by omega)] at r; omega)
          | (rw [run_n (by rw [bA_i (by omega), figB_i]; exact c23)] at r; omega)
      · rw [b2i_n0] at c23
        refine ii_2 dX2_digitsFrom_26 rfl (by decide) ⟨by decide, by decide⟩ (r32 (by omega) (by omega)) ?_
        refine wp_goto 2 dX2_digitsFrom_29 rfl ?_
        exact ih (l + 1) (by omega) (by omega) (by omega) (by rw [← r, run_y (p := p + l) (by omega) (figB_i.mpr c23)]; congr 1; omega) hQ

theorem wX2_digitsFrom {G : GT} {δ : Nat} {h hl : Nat → Int → Int} {b : Bool × Bool} {Q : V → Hp → Prop} {p N : Int} {T : Int → Int} (hδ : δ ≤ 1680) (p0 : 0 ≤ p) (p1 : p ≤ N) (hN : h 314 1 = N) (hT : h 315 = T) (B : BY T N) (hQ : Q (vi (run figB T N p - p)) (HS h hl b)) : WP G δ 0 0 MX2_digitsFrom 0 [vr (314), vi p, vn] [] (HS h hl b) Q := by
  refine ic_0 dX2_digitsFrom_0 ?_
  refine is_2 dX2_digitsFrom_1 rfl (by decide) ?_
  exact wX2_digitsFrom_2 (by omega) p0 hN hT B _ 0 (Nat.lt_succ_self _) (by omega) (by omega) (by rw [Int.add_zero]) hQ

theorem wX2_numberAt_5 {G : GT} {δ : Nat} {h hl : Nat → Int → Int} {b : Bool × Bool} {Q : V → Hp → Prop} {p N len : Int} {T : Int → Int} (hδ : δ ≤ 1680) (p0 : 0 ≤ p) (l0 : 0 ≤ len) (l1 : p + len ≤ N) (D : ∀ j : Nat, (j : Int) < len → 48 ≤ T (p + j) ∧ T (p + j) ≤ 57) (hN : h 314 1 = N) (hT : h 315 = T) (B : BY T N) : ∀ (n : Nat) (k : Nat), ((len.toNat - k)) < n → ((k : Int) ≤ len) → (Q (vi (nvC T p len.toNat)) (HS h hl b)) → WP G δ 0 0 MX2_numberAt 5 [vr (314), vi p, vi len, vi (nvC T p k), vi (p + k)] [] (HS h hl b) Q := by
  intro n
  induction n with
  | zero => intro k hlt; exact absurd hlt (Nat.not_lt_zero _)
  | succ n ih =>
    intro k hlt k0 hQ
    have B0 := B.1
    have B1 := B.2.1
    have B2 := B.2.2
    refine il_4 dX2_numberAt_5 ?_
    refine il_1 dX2_numberAt_7 ?_
    refine il_2 dX2_numberAt_8 ?_
    refine wp_iadd dX2_numberAt_9 (r32 (by omega) (by omega)) ?_
    refine wp_icmp_ge 41 dX2_numberAt_10 rfl (fun c10 => ?_) (fun c10 => ?_)
    · have e : (k : Int) = len := by omega
      refine il_3 dX2_numberAt_41 ?_
      refine wp_ireti dX2_numberAt_42 rfl ?_
      refine qv hQ ?_
      rw [show len.toNat = k by omega]
    · have nv := nvC_R (T := T) (p := p) k (fun j hj => D j (by omega))
      have dk := D k (by omega)
      refine il_3 dX2_numberAt_13 ?_
      refine bi_10 dX2_numberAt_14 ?_
      refine wp_imul dX2_numberAt_16 (r32 (by omega) (by omega)) ?_
      refine al_0 dX2_numberAt_17 ?_
      refine g_X2_9 (315) dX2_numberAt_18 rfl tt314 (rr2_0 tt314) (by omega) ?_
      refine il_4 dX2_numberAt_21 ?_
      refine wp_iaload dX2_numberAt_23 tt315 (by omega) (by omega) ?_
      rw [hT]
      refine wp_iadd dX2_numberAt_24 (r32 (by omega) (by omega)) ?_
      refine bi_48 dX2_numberAt_25 ?_
      refine wp_isub dX2_numberAt_27 (r32 (by omega) (by omega)) ?_
      refine si_10000 dX2_numberAt_28 ?_
      refine c_X2_92 dX2_numberAt_31 rfl (by simp) (by omega) ?_
      refine is_3 dX2_numberAt_34 rfl (by decide) ?_
      refine ii_4 dX2_numberAt_35 rfl (by decide) ⟨by decide, by decide⟩ (r32 (by omega) (by omega)) ?_
      refine wp_goto 5 dX2_numberAt_38 rfl ?_
      exact (ih (k + 1) (by omega) (by omega) hQ).eq rfl (by show [vr 314, vi p, vi len, vi (min (nvC T p k * 10 + T (p + k) - 48) 10000), vi (p + ((k + 1 : Nat) : Int))] = _; rw [show p + ((k + 1 : Nat) : Int) = p + k + 1 by omega])

theorem wX2_numberAt {G : GT} {δ : Nat} {h hl : Nat → Int → Int} {b : Bool × Bool} {Q : V → Hp → Prop} {p N len : Int} {T : Int → Int} (hδ : δ ≤ 1680) (p0 : 0 ≤ p) (l0 : 0 ≤ len) (l1 : p + len ≤ N) (D : ∀ j : Nat, (j : Int) < len → 48 ≤ T (p + j) ∧ T (p + j) ≤ 57) (hN : h 314 1 = N) (hT : h 315 = T) (B : BY T N) (hQ : Q (vi (nvC T p len.toNat)) (HS h hl b)) : WP G δ 0 0 MX2_numberAt 0 [vr (314), vi p, vi len, vn, vn] [] (HS h hl b) Q := by
  refine ic_0 dX2_numberAt_0 ?_
  refine is_3 dX2_numberAt_1 rfl (by decide) ?_
  refine il_1 dX2_numberAt_2 ?_
  refine is_4 dX2_numberAt_3 rfl (by decide) ?_
  exact (wX2_numberAt_5 (by omega) p0 l0 l1 D hN hT B _ 0 (Nat.lt_succ_self _) (by omega) hQ).eq rfl (by show [vr 314, vi p, vi len, vi 0, vi (p + ((0 : Nat) : Int))] = _; rw [show p + ((0 : Nat) : Int) = p by omega])

theorem wX2_isPair {G : GT} {δ : Nat} {h hl : Nat → Int → Int} {b : Bool × Bool} {Q : V → Hp → Prop} {p N : Int} {T : Int → Int} (hδ : δ ≤ 1700) (p0 : 0 ≤ p) (p1 : p < N) (hN : h 314 1 = N) (hT : h 315 = T) (B : BY T N) (hQ : Q (vi (b2i ((T p = 60 ∨ T p = 62) ∧ bA T N (p + 1) = 61))) (HS h hl b)) : WP G δ 0 0 MX2_isPair 0 [vr (314), vi p] [] (HS h hl b) Q := by
  have B0 := B.1
  have B1 := B.2.1
  have B2 := B.2.2
  refine al_0 dX2_isPair_0 ?_
  refine g_X2_9 (315) dX2_isPair_1 rfl tt314 (rr2_0 tt314) (by omega) ?_
  refine il_1 dX2_isPair_4 ?_
  refine wp_iaload dX2_isPair_5 tt315 (by omega) (by omega) ?_
  rw [hT]
  refine bi_60 dX2_isPair_6 ?_
  refine wp_icmp_eq 22 dX2_isPair_8 rfl (fun c8 => ?_) (fun c8 => ?_)
  · refine il_1 dX2_isPair_22 ?_
    refine ic_1 dX2_isPair_23 ?_
    refine wp_iadd dX2_isPair_24 (r32 (by omega) (by omega)) ?_
    refine al_0 dX2_isPair_25 ?_
    refine g_X2_35 dX2_isPair_26 rfl tt314 ?_
    rw [hN]
    refine wp_icmp_ge 49 dX2_isPair_29 rfl (fun c29 => ?_) (fun c29 => ?_)
    · refine ic_0 dX2_isPair_49 ?_
      refine wp_iretz dX2_isPair_50 rfl (by omega) ?_
      first
        | (refine qv hQ (b2i_f (fun z => ?_)); omega)
        | (refine qv hQ (b2i_f (fun z => ?_)); rw [bA_o (by omega)] at z; omega)
        | (refine qv hQ (b2i_f (fun z => ?_)); rw [bA_i (by omega)] at z; omega)
        | exact qv hQ (b2i_t ⟨by omega, by rw [bA_i (by omega)]; omega⟩)
    · refine al_0 dX2_isPair_32 ?_
      refine g_X2_9 (315) dX2_isPair_33 rfl tt314 (rr2_0 tt314) (by omega) ?_
      refine il_1 dX2_isPair_36 ?_
      refine ic_1 dX2_isPair_37 ?_
      refine wp_iadd dX2_isPair_38 (r32 (by omega) (by omega)) ?_
      refine wp_iaload dX2_isPair_39 tt315 (by omega) (by omega) ?_
      rw [hT]
      refine bi_61 dX2_isPair_40 ?_
      refine wp_icmp_ne 49 dX2_isPair_42 rfl (fun c42 => ?_) (fun c42 => ?_)
      · refine ic_0 dX2_isPair_49 ?_
        refine wp_iretz dX2_isPair_50 rfl (by omega) ?_
        first
          | (refine qv hQ (b2i_f (fun z => ?_)); omega)
          | (refine qv hQ (b2i_f (fun z => ?_)); rw [bA_o (by omega)] at z; omega)
          | (refine qv hQ (b2i_f (fun z => ?_)); rw [bA_i (by omega)] at z; omega)
          | exact qv hQ (b2i_t ⟨by omega, by rw [bA_i (by omega)]; omega⟩)
      · refine ic_1 dX2_isPair_45 ?_
        refine wp_goto 50 dX2_isPair_46 rfl ?_
        refine wp_iretz dX2_isPair_50 rfl (by omega) ?_
        first
          | (refine qv hQ (b2i_f (fun z => ?_)); omega)
          | (refine qv hQ (b2i_f (fun z => ?_)); rw [bA_o (by omega)] at z; omega)
          | (refine qv hQ (b2i_f (fun z => ?_)); rw [bA_i (by omega)] at z; omega)
          | exact qv hQ (b2i_t ⟨by omega, by rw [bA_i (by omega)]; omega⟩)
  · refine al_0 dX2_isPair_11 ?_
    refine g_X2_9 (315) dX2_isPair_12 rfl tt314 (rr2_0 tt314) (by omega) ?_
    refine il_1 dX2_isPair_15 ?_
    refine wp_iaload dX2_isPair_16 tt315 (by omega) (by omega) ?_
    rw [hT]
    refine bi_62 dX2_isPair_17 ?_
    refine wp_icmp_ne 49 dX2_isPair_19 rfl (fun c19 => ?_) (fun c19 => ?_)
    · refine ic_0 dX2_isPair_49 ?_
      refine wp_iretz dX2_isPair_50 rfl (by omega) ?_
      first
        | (refine qv hQ (b2i_f (fun z => ?_)); omega)
        | (refine qv hQ (b2i_f (fun z => ?_)); rw [bA_o (by omega)] at z; omega)
        | (refine qv hQ (b2i_f (fun z => ?_)); rw [bA_i (by omega)] at z; omega)
        | exact qv hQ (b2i_t ⟨by omega, by rw [bA_i (by omega)]; omega⟩)
    · refine il_1 dX2_isPair_22 ?_
      refine ic_1 dX2_isPair_23 ?_
      refine wp_iadd dX2_isPair_24 (r32 (by omega) (by omega)) ?_
      refine al_0 dX2_isPair_25 ?_
      refine g_X2_35 dX2_isPair_26 rfl tt314 ?_
      rw [hN]
      refine wp_icmp_ge 49 dX2_isPair_29 rfl (fun c29 => ?_) (fun c29 => ?_)
      · refine ic_0 dX2_isPair_49 ?_
        refine wp_iretz dX2_isPair_50 rfl (by omega) ?_
        first
          | (refine qv hQ (b2i_f (fun z => ?_)); omega)
          | (refine qv hQ (b2i_f (fun z => ?_)); rw [bA_o (by omega)] at z; omega)
          | (refine qv hQ (b2i_f (fun z => ?_)); rw [bA_i (by omega)] at z; omega)
          | exact qv hQ (b2i_t ⟨by omega, by rw [bA_i (by omega)]; omega⟩)
      · refine al_0 dX2_isPair_32 ?_
        refine g_X2_9 (315) dX2_isPair_33 rfl tt314 (rr2_0 tt314) (by omega) ?_
        refine il_1 dX2_isPair_36 ?_
        refine ic_1 dX2_isPair_37 ?_
        refine wp_iadd dX2_isPair_38 (r32 (by omega) (by omega)) ?_
        refine wp_iaload dX2_isPair_39 tt315 (by omega) (by omega) ?_
        rw [hT]
        refine bi_61 dX2_isPair_40 ?_
        refine wp_icmp_ne 49 dX2_isPair_42 rfl (fun c42 => ?_) (fun c42 => ?_)
        · refine ic_0 dX2_isPair_49 ?_
          refine wp_iretz dX2_isPair_50 rfl (by omega) ?_
          first
            | (refine qv hQ (b2i_f (fun z => ?_)); omega)
            | (refine qv hQ (b2i_f (fun z => ?_)); rw [bA_o (by omega)] at z; omega)
            | (refine qv hQ (b2i_f (fun z => ?_)); rw [bA_i (by omega)] at z; omega)
            | exact qv hQ (b2i_t ⟨by omega, by rw [bA_i (by omega)]; omega⟩)
        · refine ic_1 dX2_isPair_45 ?_
          refine wp_goto 50 dX2_isPair_46 rfl ?_
          refine wp_iretz dX2_isPair_50 rfl (by omega) ?_
          first
            | (refine qv hQ (b2i_f (fun z => ?_)); omega)
            | (refine qv hQ (b2i_f (fun z => ?_)); rw [bA_o (by omega)] at z; omega)
            | (refine qv hQ (b2i_f (fun z => ?_)); rw [bA_i (by omega)] at z; omega)
            | exact qv hQ (b2i_t ⟨by omega, by rw [bA_i (by omega)]; omega⟩)

theorem wX2_sign {G : GT} {δ : Nat} {h hl : Nat → Int → Int} {b : Bool × Bool} {Q : V → Hp → Prop} {s : Int} (hδ : δ ≤ 1700)  (hQ : Q (vi (sgF s)) (HS h hl b)) : WP G δ 0 0 MX2_sign 0 [vi s] [] (HS h hl b) Q := by
  refine il_0 dX2_sign_0 ?_
  rcases (show ((s) < 35 ∨ 62 < (s)) ∨ ((s) = 35) ∨ ((s) = 36) ∨ ((s) = 37) ∨ ((s) = 38) ∨ ((s) = 39) ∨ ((s) = 40) ∨ ((s) = 41) ∨ ((s) = 42) ∨ ((s) = 43) ∨ ((s) = 44) ∨ ((s) = 45) ∨ ((s) = 46) ∨ ((s) = 47) ∨ ((s) = 48) ∨ ((s) = 49) ∨ ((s) = 50) ∨ ((s) = 51) ∨ ((s) = 52) ∨ ((s) = 53) ∨ ((s) = 54) ∨ ((s) = 55) ∨ ((s) = 56) ∨ ((s) = 57) ∨ ((s) = 58) ∨ ((s) = 59) ∨ ((s) = 60) ∨ ((s) = 61) ∨ ((s) = 62) by omega) with c1 | c1 | c1 | c1 | c1 | c1 | c1 | c1 | c1 | c1 | c1 | c1 | c1 | c1 | c1 | c1 | c1 | c1 | c1 | c1 | c1 | c1 | c1 | c1 | c1 | c1 | c1 | c1 | c1
  · refine wp_tswD 161 dX2_sign_1 (by omega) rfl ?_
    refine bi_55 dX2_sign_161 ?_
    refine wp_ireti dX2_sign_163 rfl ?_
    refine qv hQ ?_
    unfold sgF
    repeat first | rw [if_pos (by omega)] | rw [if_neg (by omega)]
  · refine wp_tsw 137 dX2_sign_1 (by omega) (by omega) (136) (by rw [c1]; rfl) rfl ?_
    refine bi_46 dX2_sign_137 ?_
    refine wp_ireti dX2_sign_139 rfl ?_
    refine qv hQ ?_
    unfold sgF
    repeat first | rw [if_pos (by omega)] | rw [if_neg (by omega)]
  · refine wp_tsw 161 dX2_sign_1 (by omega) (by omega) (160) (by rw [c1]; rfl) rfl ?_
    refine bi_55 dX2_sign_161 ?_
    refine wp_ireti dX2_sign_163 rfl ?_
    refine qv hQ ?_
    unfold sgF
    repeat first | rw [if_pos (by omega)] | rw [if_neg (by omega)]
  · refine wp_tsw 161 dX2_sign_1 (by omega) (by omega) (160) (by rw [c1]; rfl) rfl ?_
    refine bi_55 dX2_sign_161 ?_
    refine wp_ireti dX2_sign_163 rfl ?_
    refine qv hQ ?_
    unfold sgF
    repeat first | rw [if_pos (by omega)] | rw [if_neg (by omega)]
  · refine wp_tsw 161 dX2_sign_1 (by omega) (by omega) (160) (by rw [c1]; rfl) rfl ?_
    refine bi_55 dX2_sign_161 ?_
    refine wp_ireti dX2_sign_163 rfl ?_
    refine qv hQ ?_
    unfold sgF
    repeat first | rw [if_pos (by omega)] | rw [if_neg (by omega)]
  · refine wp_tsw 161 dX2_sign_1 (by omega) (by omega) (160) (by rw [c1]; rfl) rfl ?_
    refine bi_55 dX2_sign_161 ?_
    refine wp_ireti dX2_sign_163 rfl ?_
    refine qv hQ ?_
    unfold sgF
    repeat first | rw [if_pos (by omega)] | rw [if_neg (by omega)]
  · refine wp_tsw 152 dX2_sign_1 (by omega) (by omega) (151) (by rw [c1]; rfl) rfl ?_
    refine bi_51 dX2_sign_152 ?_
    refine wp_ireti dX2_sign_154 rfl ?_
    refine qv hQ ?_
    unfold sgF
    repeat first | rw [if_pos (by omega)] | rw [if_neg (by omega)]
  · refine wp_tsw 155 dX2_sign_1 (by omega) (by omega) (154) (by rw [c1]; rfl) rfl ?_
    refine bi_52 dX2_sign_155 ?_
    refine wp_ireti dX2_sign_157 rfl ?_
    refine qv hQ ?_
    unfold sgF
    repeat first | rw [if_pos (by omega)] | rw [if_neg (by omega)]
  · refine wp_tsw 146 dX2_sign_1 (by omega) (by omega) (145) (by rw [c1]; rfl) rfl ?_
    refine bi_49 dX2_sign_146 ?_
    refine wp_ireti dX2_sign_148 rfl ?_
    refine qv hQ ?_
    unfold sgF
    repeat first | rw [if_pos (by omega)] | rw [if_neg (by omega)]
  · refine wp_tsw 140 dX2_sign_1 (by omega) (by omega) (139) (by rw [c1]; rfl) rfl ?_
    refine bi_47 dX2_sign_140 ?_
    refine wp_ireti dX2_sign_142 rfl ?_
    refine qv hQ ?_
    unfold sgF
    repeat first | rw [if_pos (by omega)] | rw [if_neg (by omega)]
  · refine wp_tsw 161 dX2_sign_1 (by omega) (by omega) (160) (by rw [c1]; rfl) rfl ?_
    refine bi_55 dX2_sign_161 ?_
    refine wp_ireti dX2_sign_163 rfl ?_
    refine qv hQ ?_
    unfold sgF
    repeat first | rw [if_pos (by omega)] | rw [if_neg (by omega)]
  · refine wp_tsw 143 dX2_sign_1 (by omega) (by omega) (142) (by rw [c1]; rfl) rfl ?_
    refine bi_48 dX2_sign_143 ?_
    refine wp_ireti dX2_sign_145 rfl ?_
    refine qv hQ ?_
    unfold sgF
    repeat first | rw [if_pos (by omega)] | rw [if_neg (by omega)]
  · refine wp_tsw 161 dX2_sign_1 (by omega) (by omega) (160) (by rw [c1]; rfl) rfl ?_
    refine bi_55 dX2_sign_161 ?_
    refine wp_ireti dX2_sign_163 rfl ?_
    refine qv hQ ?_
    unfold sgF
    repeat first | rw [if_pos (by omega)] | rw [if_neg (by omega)]
  · refine wp_tsw 149 dX2_sign_1 (by omega) (by omega) (148) (by rw [c1]; rfl) rfl ?_
    refine bi_50 dX2_sign_149 ?_
    refine wp_ireti dX2_sign_151 rfl ?_
    refine qv hQ ?_
    unfold sgF
    repeat first | rw [if_pos (by omega)] | rw [if_neg (by omega)]
  · refine wp_tsw 161 dX2_sign_1 (by omega) (by omega) (160) (by rw [c1]; rfl) rfl ?_
    refine bi_55 dX2_sign_161 ?_
    refine wp_ireti dX2_sign_163 rfl ?_
    refine qv hQ ?_
    unfold sgF
    repeat first | rw [if_pos (by omega)] | rw [if_neg (by omega)]
  · refine wp_tsw 161 dX2_sign_1 (by omega) (by omega) (160) (by rw [c1]; rfl) rfl ?_
    refine bi_55 dX2_sign_161 ?_
    refine wp_ireti dX2_sign_163 rfl ?_
    refine qv hQ ?_
    unfold sgF
    repeat first | rw [if_pos (by omega)] | rw [if_neg (by omega)]
  · refine wp_tsw 161 dX2_sign_1 (by omega) (by omega) (160) (by rw [c1]; rfl) rfl ?_
    refine bi_55 dX2_sign_161 ?_
    refine wp_ireti dX2_sign_163 rfl ?_
    refine qv hQ ?_
    unfold sgF
    repeat first | rw [if_pos (by omega)] | rw [if_neg (by omega)]
  · refine wp_tsw 161 dX2_sign_1 (by omega) (by omega) (160) (by rw [c1]; rfl) rfl ?_
    refine bi_55 dX2_sign_161 ?_
    refine wp_ireti dX2_sign_163 rfl ?_
    refine qv hQ ?_
    unfold sgF
    repeat first | rw [if_pos (by omega)] | rw [if_neg (by omega)]
  · refine wp_tsw 161 dX2_sign_1 (by omega) (by omega) (160) (by rw [c1]; rfl) rfl ?_
    refine bi_55 dX2_sign_161 ?_
    refine wp_ireti dX2_sign_163 rfl ?_
    refine qv hQ ?_
    unfold sgF
    repeat first | rw [if_pos (by omega)] | rw [if_neg (by omega)]
  · refine wp_tsw 161 dX2_sign_1 (by omega) (by omega) (160) (by rw [c1]; rfl) rfl ?_
    refine bi_55 dX2_sign_161 ?_
    refine wp_ireti dX2_sign_163 rfl ?_
    refine qv hQ ?_
    unfold sgF
    repeat first | rw [if_pos (by omega)] | rw [if_neg (by omega)]
  · refine wp_tsw 161 dX2_sign_1 (by omega) (by omega) (160) (by rw [c1]; rfl) rfl ?_
    refine bi_55 dX2_sign_161 ?_
    refine wp_ireti dX2_sign_163 rfl ?_
    refine qv hQ ?_
    unfold sgF
    repeat first | rw [if_pos (by omega)] | rw [if_neg (by omega)]
  · refine wp_tsw 161 dX2_sign_1 (by omega) (by omega) (160) (by rw [c1]; rfl) rfl ?_
    refine bi_55 dX2_sign_161 ?_
    refine wp_ireti dX2_sign_163 rfl ?_
    refine qv hQ ?_
    unfold sgF
    repeat first | rw [if_pos (by omega)] | rw [if_neg (by omega)]
  · refine wp_tsw 161 dX2_sign_1 (by omega) (by omega) (160) (by rw [c1]; rfl) rfl ?_
    refine bi_55 dX2_sign_161 ?_
    refine wp_ireti dX2_sign_163 rfl ?_
    refine qv hQ ?_
    unfold sgF
    repeat first | rw [if_pos (by omega)] | rw [if_neg (by omega)]
  · refine wp_tsw 161 dX2_sign_1 (by omega) (by omega) (160) (by rw [c1]; rfl) rfl ?_
    refine bi_55 dX2_sign_161 ?_
    refine wp_ireti dX2_sign_163 rfl ?_
    refine qv hQ ?_
    unfold sgF
    repeat first | rw [if_pos (by omega)] | rw [if_neg (by omega)]
  · refine wp_tsw 161 dX2_sign_1 (by omega) (by omega) (160) (by rw [c1]; rfl) rfl ?_
    refine bi_55 dX2_sign_161 ?_
    refine wp_ireti dX2_sign_163 rfl ?_
    refine qv hQ ?_
    unfold sgF
    repeat first | rw [if_pos (by omega)] | rw [if_neg (by omega)]
  · refine wp_tsw 158 dX2_sign_1 (by omega) (by omega) (157) (by rw [c1]; rfl) rfl ?_
    refine bi_53 dX2_sign_158 ?_
    refine wp_ireti dX2_sign_160 rfl ?_
    refine qv hQ ?_
    unfold sgF
    repeat first | rw [if_pos (by omega)] | rw [if_neg (by omega)]
  · refine wp_tsw 128 dX2_sign_1 (by omega) (by omega) (127) (by rw [c1]; rfl) rfl ?_
    refine bi_41 dX2_sign_128 ?_
    refine wp_ireti dX2_sign_130 rfl ?_
    refine qv hQ ?_
    unfold sgF
    repeat first | rw [if_pos (by omega)] | rw [if_neg (by omega)]
  · refine wp_tsw 134 dX2_sign_1 (by omega) (by omega) (133) (by rw [c1]; rfl) rfl ?_
    refine bi_45 dX2_sign_134 ?_
    refine wp_ireti dX2_sign_136 rfl ?_
    refine qv hQ ?_
    unfold sgF
    repeat first | rw [if_pos (by omega)] | rw [if_neg (by omega)]
  · refine wp_tsw 131 dX2_sign_1 (by omega) (by omega) (130) (by rw [c1]; rfl) rfl ?_
    refine bi_43 dX2_sign_131 ?_
    refine wp_ireti dX2_sign_133 rfl ?_
    refine qv hQ ?_
    unfold sgF
    repeat first | rw [if_pos (by omega)] | rw [if_neg (by omega)]

theorem wX2_isSpelt_3 {G : GT} {δ : Nat} {h hl : Nat → Int → Int} {b : Bool × Bool} {Q : V → Hp → Prop} {p q len N : Int} {T : Int → Int} (hδ : δ ≤ 1600) (q0 : 0 ≤ q) (q1 : q + len ≤ 146) (p0 : 0 ≤ p) (l0 : 0 ≤ len) (l7 : len ≤ 7) (l1 : p + len ≤ N) (hN : h 314 1 = N) (hT : h 315 = T) (B : BY T N) : ∀ (n : Nat) (k : Nat), (len.toNat - k) < n → (k : Int) ≤ len → (∀ j : Nat, j < k → T (p + j) = chK (q + j)) → (Q (vi (b2i (∀ j : Nat, j < 8 → (j : Int) < len → T (p + j) = chK (q + j)))) (HS h hl b)) → WP G δ 0 0 MX2_isSpelt 3 [vr 314, vi q, vi p, vi len, vi k] [] (HS h hl b) Q := by
  intro n
  induction n with
  | zero => intro k hlt; exact absurd hlt (Nat.not_lt_zero _)
  | succ n ih =>
    intro k hlt k0 A hQ
    have B1 := B.2.1
    refine il_4 dX2_isSpelt_3 ?_
    refine il_3 dX2_isSpelt_5 ?_
    refine wp_icmp_ge 38 dX2_isSpelt_6 rfl (fun c6 => ?_) (fun c6 => ?_)
    · refine ic_1 dX2_isSpelt_38 ?_
      exact wp_iretz dX2_isSpelt_39 rfl (by omega) (qv hQ (b2i_t (fun j j8 jl => A j (by omega))))
    · refine wp_ldcS rfl dX2_isSpelt_9 ?_
      refine il_1 dX2_isSpelt_11 ?_
      refine il_4 dX2_isSpelt_12 ?_
      refine wp_iadd dX2_isSpelt_14 (r32 (by omega) (by omega)) ?_
      refine c_X2_105 (by omega) (by omega) dX2_isSpelt_15 rfl (Nat.le_of_ble_eq_true rfl) (by omega) ?_
      rw [chI_e (by omega) (by omega)]
      refine al_0 dX2_isSpelt_18 ?_
      refine g_X2_9 (315) dX2_isSpelt_19 rfl tt314 (rr2_0 tt314) (by omega) ?_
      refine il_2 dX2_isSpelt_22 ?_
      refine il_4 dX2_isSpelt_23 ?_
      refine wp_iadd dX2_isSpelt_25 (r32 (by omega) (by omega)) ?_
      refine wp_iaload dX2_isSpelt_26 tt315 (by omega) (by omega) ?_
      rw [hT]
      refine wp_icmp_eq 32 dX2_isSpelt_27 rfl (fun c27 => ?_) (fun c27 => ?_)
      · refine ii_4 dX2_isSpelt_32 rfl (by decide) ⟨by decide, by decide⟩ (r32 (by omega) (by omega)) ?_
        refine wp_goto 3 dX2_isSpelt_35 rfl ?_
        refine ih (k + 1) (by omega) (by omega) (fun j hj => ?_) hQ
        by_cases e : j = k
        · rw [e]; exact c27.symm
        · exact A j (by omega)
      · refine ic_0 dX2_isSpelt_30 ?_
        exact wp_iretz dX2_isSpelt_31 rfl (by omega) (qv hQ (b2i_f (fun z => c27 (z k (by omega) (by omega)).symm)))

theorem wX2_isSpelt {G : GT} {δ : Nat} {h hl : Nat → Int → Int} {b : Bool × Bool} {Q : V → Hp → Prop} {p q len N : Int} {T : Int → Int} (hδ : δ ≤ 1600) (q0 : 0 ≤ q) (q1 : q + len ≤ 146) (p0 : 0 ≤ p) (l0 : 0 ≤ len) (l7 : len ≤ 7) (l1 : p + len ≤ N) (hN : h 314 1 = N) (hT : h 315 = T) (B : BY T N) (hQ : Q (vi (b2i (∀ j : Nat, j < 8 → (j : Int) < len → T (p + j) = chK (q + j)))) (HS h hl b)) : WP G δ 0 0 MX2_isSpelt 0 [vr 314, vi q, vi p, vi len, vn] [] (HS h hl b) Q := by
  refine ic_0 dX2_isSpelt_0 ?_
  refine is_4 dX2_isSpelt_1 rfl (by decide) ?_
  exact wX2_isSpelt_3 hδ q0 q1 p0 l0 l7 l1 hN hT B _ 0 (Nat.lt_succ_self _) (by omega) (fun j hj => absurd hj (Nat.not_lt_zero _)) hQ

theorem wX2_wordAt_8 {G : GT} {δ : Nat} {h hl : Nat → Int → Int} {b : Bool × Bool} {Q : V → Hp → Prop} {p len N : Int} {T : Int → Int} (hδ : δ ≤ 1590) (p0 : 0 ≤ p) (l0 : 0 ≤ len) (l1 : p + len ≤ N) (hN : h 314 1 = N) (hT : h 315 = T) (B : BY T N) : ∀ (n : Nat) (i : Nat), (146 - i) < n → i ≤ 146 → (∀ y : Int, 0 ≤ y → y < wnK i → mtB T p len y = false) → (Q (vi (wdF T p len)) (HS h hl b)) → WP G δ 0 0 MX2_wordAt 8 [vr 314, vi p, vi len, vi (wnK i), vi (wsK i), vi i] [] (HS h hl b) Q := by
  intro n
  induction n with
  | zero => intro k hlt; exact absurd hlt (Nat.not_lt_zero _)
  | succ n ih =>
    intro i hlt i0 A hQ
    refine il_5 dX2_wordAt_8 ?_
    refine wp_ldcS rfl dX2_wordAt_10 ?_
    refine c_X2_99 dX2_wordAt_12 rfl (Nat.le_of_ble_eq_true rfl) (by omega) ?_
    refine wp_icmp_ge 67 dX2_wordAt_15 rfl (fun c15 => ?_) (fun c15 => ?_)
    · refine bi_55 dX2_wordAt_67 ?_
      have e : i = 146 := by omega
      subst e
      exact wp_ireti dX2_wordAt_69 rfl (qv hQ (wdF_n (fun y y0 y1 => A y y0 (by have := wt_e.1; show y < wnK 146; omega))))
    · obtain ⟨f1, f2, f3, f4⟩ := wt_st i (by omega)
      refine wp_ldcS rfl dX2_wordAt_18 ?_
      refine il_5 dX2_wordAt_20 ?_
      refine c_X2_105 (by omega) (by omega) dX2_wordAt_22 rfl (Nat.le_of_ble_eq_true rfl) (by omega) ?_
      rw [chI_e (by omega) (by omega)]
      refine bi_32 dX2_wordAt_25 ?_
      refine wp_icmp_ne 61 dX2_wordAt_27 rfl (fun c27 => ?_) (fun c27 => ?_)
      · obtain ⟨g1, g2⟩ := f2 c27
        refine ii_5 dX2_wordAt_61 rfl (by decide) ⟨by decide, by decide⟩ (r32 (by omega) (by omega)) ?_
        refine wp_goto 8 dX2_wordAt_64 rfl ?_
        have z := ih (i + 1) (by omega) (by omega) (fun y y0 y1 => A y y0 (by rw [show ((i + 1 : Nat) : Int) = (i : Int) + 1 by omega, g1] at y1; exact y1)) hQ
        rw [show ((i + 1 : Nat) : Int) = (i : Int) + 1 by omega, g1, g2] at z
        exact z
      · have c27 : chK i = 32 := by omega
        obtain ⟨g0, g1, g2, g3, g4⟩ := f1 c27
        have tail : mtB T p len (wnK i) = false → WP G δ 0 0 MX2_wordAt 52 [vr 314, vi p, vi len, vi (wnK i), vi (wsK i), vi i] [] (HS h hl b) Q := fun nm => by
          refine ii_3 dX2_wordAt_52 rfl (by decide) ⟨by decide, by decide⟩ (r32 (by omega) (by omega)) ?_
          refine il_5 dX2_wordAt_55 ?_
          refine ic_1 dX2_wordAt_57 ?_
          refine wp_iadd dX2_wordAt_58 (r32 (by omega) (by omega)) ?_
          refine is_4 dX2_wordAt_59 rfl (by decide) ?_
          refine ii_5 dX2_wordAt_61 rfl (by decide) ⟨by decide, by decide⟩ (r32 (by omega) (by omega)) ?_
          refine wp_goto 8 dX2_wordAt_64 rfl ?_
          have z := ih (i + 1) (by omega) (by omega) (fun y y0 y1 => by
            rw [show ((i + 1 : Nat) : Int) = (i : Int) + 1 by omega, g3] at y1
            by_cases q : y = wnK i
            · rw [q]; exact nm
            · exact A y y0 (by omega)) hQ
          rw [show ((i + 1 : Nat) : Int) = (i : Int) + 1 by omega, g3, g4] at z
          exact z
        have nf : ¬ mtB T p len (wnK i) = true → mtB T p len (wnK i) = false := fun z => by cases q : mtB T p len (wnK i); rfl; exact absurd q z
        refine il_5 dX2_wordAt_30 ?_
        refine il_4 dX2_wordAt_32 ?_
        refine wp_isub dX2_wordAt_34 (r32 (by omega) (by omega)) ?_
        refine il_2 dX2_wordAt_35 ?_
        refine wp_icmp_ne 52 dX2_wordAt_36 rfl (fun c36 => ?_) (fun c36 => ?_)
        · exact tail (nf (fun z => c36 (by have := (mtB_i.mp z).1; omega)))
        · have c36 : i - wsK i = len := by omega
          obtain ⟨x, hx, ex⟩ := nat_of (n := 29) g0.1 g0.2
          obtain ⟨t1, t2, t3, t4⟩ := wt_k x hx
          rw [← ex] at t1 t2
          refine al_0 dX2_wordAt_39 ?_
          refine il_4 dX2_wordAt_40 ?_
          refine il_1 dX2_wordAt_42 ?_
          refine il_2 dX2_wordAt_43 ?_
          refine c_X2_109 dX2_wordAt_44 rfl tt314 (Nat.le_of_ble_eq_true rfl) (by omega) ?_
          refine wX2_isSpelt (by omega) (by omega) (by omega) p0 l0 (by omega) l1 hN hT B ?_
          refine pv_i ?_
          refine wp_if_eq 52 dX2_wordAt_47 rfl (fun c47 => ?_) (fun c47 => ?_)
          · rw [b2i_0] at c47
            exact tail (nf (fun z => c47 (fun j j8 jl => by rw [(mtB_i.mp z).2 j j8 jl, g1])))
          · rw [b2i_n0] at c47
            refine il_3 dX2_wordAt_50 ?_
            exact wp_ireti dX2_wordAt_51 rfl (qv hQ (wdF_f g0.1 g0.2 (mtB_i.mpr ⟨by omega, fun j j8 jl => by rw [g1]; exact c47 j j8 jl⟩)))

theorem wX2_wordAt {G : GT} {δ : Nat} {h hl : Nat → Int → Int} {b : Bool × Bool} {Q : V → Hp → Prop} {p len N : Int} {T : Int → Int} (hδ : δ ≤ 1590) (p0 : 0 ≤ p) (l0 : 0 ≤ len) (l1 : p + len ≤ N) (hN : h 314 1 = N) (hT : h 315 = T) (B : BY T N) (hQ : Q (vi (wdF T p len)) (HS h hl b)) : WP G δ 0 0 MX2_wordAt 0 [vr 314, vi p, vi len, vn, vn, vn] [] (HS h hl b) Q := by
  refine ic_0 dX2_wordAt_0 ?_
  refine is_3 dX2_wordAt_1 rfl (by decide) ?_
  refine ic_0 dX2_wordAt_2 ?_
  refine is_4 dX2_wordAt_3 rfl (by decide) ?_
  refine ic_0 dX2_wordAt_5 ?_
  refine is_5 dX2_wordAt_6 rfl (by decide) ?_
  have z := wX2_wordAt_8 (G := G) hδ p0 l0 l1 hN hT B _ 0 (Nat.lt_succ_self _) (by omega) (fun y y0 y1 => by have := wt_e.2.1; rw [show ((0 : Nat) : Int) = 0 from rfl] at y1; omega) hQ
  rw [show ((0 : Nat) : Int) = 0 from rfl, wt_e.2.1, wt_e.2.2] at z
  exact z

theorem wX2_addToken {G : GT} {δ : Nat} {h hl : Nat → Int → Int} {b : Bool × Bool} {Q : V → Hp → Prop} {n k v p : Int} (hδ : δ ≤ 1700) (hn : h 314 9 = n) (n0 : 0 ≤ n) (n1 : n ≤ 300) (hQ : Q vn (HS (addT h n k v p) hl b)) : WP G δ 0 0 MX2_addToken 0 [vr (314), vi k, vi v, vi p] [] (HS h hl b) Q := by
  refine al_0 dX2_addToken_0 ?_
  refine g_X2_58 dX2_addToken_1 rfl tt314 ?_
  rw [hn]
  refine si_300 dX2_addToken_4 ?_
  refine wp_icmp_gt 50 dX2_addToken_7 rfl (fun c7 => ?_) (fun c7 => ?_)
  · omega
  · refine al_0 dX2_addToken_10 ?_
    refine g_X2_26 (320) dX2_addToken_11 rfl tt314 (rr2_6 tt314) (by omega) ?_
    refine al_0 dX2_addToken_14 ?_
    refine g_X2_58 dX2_addToken_15 rfl tt314 ?_
    rw [hn]
    refine il_1 dX2_addToken_18 ?_
    refine wp_iastore dX2_addToken_19 tt320 (by omega) (by omega) ?_
    refine al_0 dX2_addToken_20 ?_
    refine g_X2_29 (321) dX2_addToken_21 rfl tt314 (rr2_7 tt314) (by omega) ?_
    refine al_0 dX2_addToken_24 ?_
    refine g_X2_58 dX2_addToken_25 rfl tt314 ?_
    rw [up_o (by decide), hn]
    refine il_2 dX2_addToken_28 ?_
    refine wp_iastore dX2_addToken_29 tt321 (by omega) (by omega) ?_
    refine al_0 dX2_addToken_30 ?_
    refine g_X2_32 (322) dX2_addToken_31 rfl tt314 (rr2_8 tt314) (by omega) ?_
    refine al_0 dX2_addToken_34 ?_
    refine g_X2_58 dX2_addToken_35 rfl tt314 ?_
    rw [up_o (by decide), up_o (by decide), hn]
    refine il_3 dX2_addToken_38 ?_
    refine wp_iastore dX2_addToken_39 tt322 (by omega) (by omega) ?_
    refine al_0 dX2_addToken_40 ?_
    refine wp_dup dX2_addToken_41 rfl ?_
    refine g_X2_58 dX2_addToken_42 rfl tt314 ?_
    rw [up_o (by decide), up_o (by decide), up_o (by decide), hn]
    refine ic_1 dX2_addToken_45 ?_
    refine wp_iadd dX2_addToken_46 (r32 (by omega) (by omega)) ?_
    refine p_X2_58 dX2_addToken_47 rfl tt314 ?_
    refine wp_vret dX2_addToken_50 rfl ?_
    exact hQ

theorem wX2_cut_9 {G : GT} {δ : Nat} {hl : Nat → Int → Int} {b : Bool × Bool} {Q : V → Hp → Prop} {N : Int} {T : Int → Int} {h0 : Nat → Int → Int} (hδ : δ ≤ 1570) (hN : h0 314 1 = N) (hT : h0 315 = T) (B : BY T N) : ∀ (n : Nat) (f : Int) (i : Int) (tk : Nat) (h : Nat → Int → Int), ((N - f).toNat) < n → (0 ≤ f) → (f ≤ N) → (0 ≤ i) → (i ≤ f) → ((tk : Int) ≤ f) → (run spcB T N f = pF T N tk) → (CutI h0 h T N tk) → (∀ (h' : Nat → Int → Int) (n : Int), TKS h0 h' T N n → Q vn (HS h' hl b)) → WP G δ 0 0 MX2_cut 9 [vr (314), vi f, vi i, vn, vn] [] (HS h hl b) Q := by
  intro n
  induction n with
  | zero => intro f i tk h hlt; exact absurd hlt (Nat.not_lt_zero _)
  | succ n ih =>
    intro f i tk h hlt f0 f1 i0 i1 t1 hr C hQ
    have B0 := B.1
    have B1 := B.2.1
    have B2 := B.2.2
    have tail : f < N → ∀ (h1 : Nat → Int → Int) (k1 : Nat) (len : Int), 0 < len → f + len ≤ N → (k1 : Int) ≤ f + len → run spcB T N (f + len) = pF T N k1 → CutI h0 h1 T N k1 → WP G δ 0 0 MX2_cut 147 [vr 314, vi f, vi i, vn, vi len] [] (HS h1 hl b) Q := by
      intro fN h1 k1 len len0 len1 kl hr1 C1
      refine il_1 dX2_cut_147 ?_
      refine il_4 dX2_cut_148 ?_
      refine wp_iadd dX2_cut_150 (r32 (by omega) (by omega)) ?_
      refine is_1 dX2_cut_151 rfl (by decide) ?_
      refine ii_2 dX2_cut_152 rfl (by decide) ⟨by decide, by decide⟩ (r32 (by omega) (by omega)) ?_
      refine wp_goto 9 dX2_cut_155 rfl ?_
      refine wp_fg (ls' := [_, _, _, vn, vn]) ⟨Or.inr rfl, Or.inr rfl, Or.inr rfl, Or.inl rfl, Or.inl rfl, trivial⟩ ?_
      exact ih (f + len) (i + 1) k1 h1 (by omega) (by omega) (by omega) (by omega) (by omega) (by omega) hr1 C1 hQ
    have c9' := C.1
    have hN1 : h 314 1 = N := by rw [C.2.2.2 1 (by decide)]; exact hN
    have hT1 : h 315 = T := by rw [C.2.2.1 315 (by decide)]; exact hT
    refine il_2 dX2_cut_9 ?_
    refine si_300 dX2_cut_10 ?_
    refine wp_icmp_ge 158 dX2_cut_13 rfl (fun c13 => ?_) (fun c13 => ?_)
    · have e : f = N := by omega
      have nsp : pF T N tk = N := by rw [← hr, e]; exact run_o (Int.le_refl _)
      refine al_0 dX2_cut_158 ?_
      refine bi_54 dX2_cut_159 ?_
      refine ic_0 dX2_cut_161 ?_
      refine al_0 dX2_cut_162 ?_
      refine g_X2_35 dX2_cut_163 rfl tt314 ?_
      rw [hN1]
      refine c_X2_73 dX2_cut_166 rfl tt314 (Nat.le_of_ble_eq_true rfl) (by omega) ?_
      refine wX2_addToken (n := tk) (by omega) c9' (by omega) (by omega) ?_
      refine pv_n ?_
      refine wp_vret dX2_cut_169 rfl ?_
      exact hQ _ _ (C.fin nsp (by omega))
    · refine il_1 dX2_cut_16 ?_
      refine al_0 dX2_cut_17 ?_
      refine g_X2_35 dX2_cut_18 rfl tt314 ?_
      rw [hN1]
      refine wp_icmp_ge 158 dX2_cut_21 rfl (fun c21 => ?_) (fun c21 => ?_)
      · have e : f = N := by omega
        have nsp : pF T N tk = N := by rw [← hr, e]; exact run_o (Int.le_refl _)
        refine al_0 dX2_cut_158 ?_
        refine bi_54 dX2_cut_159 ?_
        refine ic_0 dX2_cut_161 ?_
        refine al_0 dX2_cut_162 ?_
        refine g_X2_35 dX2_cut_163 rfl tt314 ?_
        rw [hN1]
        refine c_X2_73 dX2_cut_166 rfl tt314 (Nat.le_of_ble_eq_true rfl) (by omega) ?_
        refine wX2_addToken (n := tk) (by omega) c9' (by omega) (by omega) ?_
        refine pv_n ?_
        refine wp_vret dX2_cut_169 rfl ?_
        exact hQ _ _ (C.fin nsp (by omega))
      · refine al_0 dX2_cut_24 ?_
        refine g_X2_9 (315) dX2_cut_25 rfl tt314 (rr2_0 tt314) (by omega) ?_
        refine il_1 dX2_cut_28 ?_
        refine wp_iaload dX2_cut_29 tt315 (by omega) (by omega) ?_
        rw [hT1]
        refine is_3 dX2_cut_30 rfl (by decide) ?_
        refine ic_1 dX2_cut_31 ?_
        refine is_4 dX2_cut_32 rfl (by decide) ?_
        refine il_3 dX2_cut_34 ?_
        refine c_X2_61 dX2_cut_35 rfl (Nat.le_of_ble_eq_true rfl) (by omega) ?_
        refine wX2_isLetter (by omega) ?_
        refine pv_i ?_
        refine wp_if_eq 64 dX2_cut_38 rfl (fun c38 => ?_) (fun c38 => ?_)
        · rw [b2i_0] at c38
          refine il_3 dX2_cut_64 ?_
          refine c_X2_77 dX2_cut_65 rfl (Nat.le_of_ble_eq_true rfl) (by omega) ?_
          refine wX2_isDigit (by omega) ?_
          refine pv_i ?_
          refine wp_if_eq 95 dX2_cut_68 rfl (fun c68 => ?_) (fun c68 => ?_)
          · rw [b2i_0] at c68
            refine il_3 dX2_cut_95 ?_
            refine bi_32 dX2_cut_96 ?_
            refine wp_icmp_eq 147 dX2_cut_98 rfl (fun c98 => ?_) (fun c98 => ?_)
            · refine wp_fg (ls' := [_, _, _, vn, _]) ⟨Or.inr rfl, Or.inr rfl, Or.inr rfl, Or.inl rfl, Or.inr rfl, trivial⟩ ?_
              first
                | (exfalso; omega)
                | (have q : T f = 32 := c98
                   exact tail (by omega) h tk 1 (by omega) (by omega) (by omega) (by rw [← hr, run_y (p := f) (by omega) (spcB_i.mpr (by omega))]) C)
                | (have q : T f = 10 := c104
                   exact tail (by omega) h tk 1 (by omega) (by omega) (by omega) (by rw [← hr, run_y (p := f) (by omega) (spcB_i.mpr (by omega))]) C)
                | (have q := ltrB_i.mpr c38
                   have nsp : pF T N tk = f := by rw [← hr]; exact run_n (by rw [bA_i (by omega), spcB_i]; omega)
                   have rs := runS (f := ltrB) (T := T) (N := N) (p := f) ltrB_o (by omega)
                   have r1 := run1 (f := ltrB) (T := T) (N := N) (p := f) ltrB_o (by omega) q
                   have wr := wdF_R (T := T) (p := f) (len := run ltrB T N f - f)
                   obtain ⟨z1, z2⟩ := C.add (k := wdF T f (run ltrB T N f - f)) (v := 0) (e := run ltrB T N f) nsp (by unfold tkF; rw [if_neg (by omega), if_pos q]) (by omega)
                   exact tail (by omega) _ (tk + 1) (run ltrB T N f - f) (by omega) (by omega) (by omega) (by rw [show f + (run ltrB T N f - f) = run ltrB T N f by omega]; exact z2) z1)
                | (have q := figB_i.mpr c68
                   have q' : ¬ ltrB (T f) = true := fun z => c38 (ltrB_i.mp z)
                   have nsp : pF T N tk = f := by rw [← hr]; exact run_n (by rw [bA_i (by omega), spcB_i]; omega)
                   have rs := runS (f := figB) (T := T) (N := N) (p := f) figB_o (by omega)
                   have r1 := run1 (f := figB) (T := T) (N := N) (p := f) figB_o (by omega) q
                   obtain ⟨z1, z2⟩ := C.add (k := 40) (v := nvC T f (run figB T N f - f).toNat) (e := run figB T N f) nsp (by unfold tkF; rw [if_neg (by omega), if_neg q', if_pos q]) (by omega)
                   exact tail (by omega) _ (tk + 1) (run figB T N f - f) (by omega) (by omega) (by omega) (by rw [show f + (run figB T N f - f) = run figB T N f by omega]; exact z2) z1)
                | (have q : (T f = 60 ∨ T f = 62) ∧ bA T N (f + 1) = 61 := c112
                   have q1 : ¬ ltrB (T f) = true := fun z => c38 (ltrB_i.mp z)
                   have q2 : ¬ figB (T f) = true := fun z => c68 (figB_i.mp z)
                   have nsp : pF T N tk = f := by rw [← hr]; exact run_n (by rw [bA_i (by omega), spcB_i]; omega)
                   have pn : f + 1 < N := by
                     by_cases y : f + 1 < N
                     · exact y
                     · have y2 := q.2
                       rw [bA_o (by omega)] at y2; omega
                   obtain ⟨z1, z2⟩ := C.add (k := sgF (T f) + 1) (v := 0) (e := f + 2) nsp (by unfold tkF; rw [if_neg (by omega), if_neg q1, if_neg q2, if_pos q]) (sgF_v q.1).1
                   exact tail (by omega) _ (tk + 1) 2 (by omega) (by omega) (by omega) z2 z1)
                | (have q : ¬ ((T f = 60 ∨ T f = 62) ∧ bA T N (f + 1) = 61) := c112
                   have q1 : ¬ ltrB (T f) = true := fun z => c38 (ltrB_i.mp z)
                   have q2 : ¬ figB (T f) = true := fun z => c68 (figB_i.mp z)
                   have nsp : pF T N tk = f := by rw [← hr]; exact run_n (by rw [bA_i (by omega), spcB_i]; omega)
                   obtain ⟨z1, z2⟩ := C.add (k := sgF (T f)) (v := 0) (e := f + 1) nsp (by unfold tkF; rw [if_neg (by omega), if_neg q1, if_neg q2, if_neg q]) sgF_R.2.2
                   exact tail (by omega) _ (tk + 1) 1 (by omega) (by omega) (by omega) z2 z1)
            · refine il_3 dX2_cut_101 ?_
              refine bi_10 dX2_cut_102 ?_
              refine wp_icmp_eq 147 dX2_cut_104 rfl (fun c104 => ?_) (fun c104 => ?_)
              · refine wp_fg (ls' := [_, _, _, vn, _]) ⟨Or.inr rfl, Or.inr rfl, Or.inr rfl, Or.inl rfl, Or.inr rfl, trivial⟩ ?_
                first
                  | (exfalso; omega)
                  | (have q : T f = 32 := c98
                     exact tail (by omega) h tk 1 (by omega) (by omega) (by omega) (by rw [← hr, run_y (p := f) (by omega) (spcB_i.mpr (by omega))]) C)
                  | (have q : T f = 10 := c104
                     exact tail (by omega) h tk 1 (by omega) (by omega) (by omega) (by rw [← hr, run_y (p := f) (by omega) (spcB_i.mpr (by omega))]) C)
                  | (have q := ltrB_i.mpr c38
                     have nsp : pF T N tk = f := by rw [← hr]; exact run_n (by rw [bA_i (by omega), spcB_i]; omega)
                     have rs := runS (f := ltrB) (T := T) (N := N) (p := f) ltrB_o (by omega)
                     have r1 := run1 (f := ltrB) (T := T) (N := N) (p := f) ltrB_o (by omega) q
                     have wr := wdF_R (T := T) (p := f) (len := run ltrB T N f - f)
                     obtain ⟨z1, z2⟩ := C.add (k := wdF T f (run ltrB T N f - f)) (v := 0) (e := run ltrB T N f) nsp (by unfold tkF; rw [if_neg (by omega), if_pos q]) (by omega)
                     exact tail (by omega) _ (tk + 1) (run ltrB T N f - f) (by omega) (by omega) (by omega) (by rw [show f + (run ltrB T N f - f) = run ltrB T N f by omega]; exact z2) z1)
                  | (have q := figB_i.mpr c68
                     have q' : ¬ ltrB (T f) = true := fun z => c38 (ltrB_i.mp z)
                     have nsp : pF T N tk = f := by rw [← hr]; exact run_n (by rw [bA_i (by omega), spcB_i]; omega)
                     have rs := runS (f := figB) (T := T) (N := N) (p := f) figB_o (by omega)
                     have r1 := run1 (f := figB) (T := T) (N := N) (p := f) figB_o (by omega) q
                     obtain ⟨z1, z2⟩ := C.add (k := 40) (v := nvC T f (run figB T N f - f).toNat) (e := run figB T N f) nsp (by unfold tkF; rw [if_neg (by omega), if_neg q', if_pos q]) (by omega)
                     exact tail (by omega) _ (tk + 1) (run figB T N f - f) (by omega) (by omega) (by omega) (by rw [show f + (run figB T N f - f) = run figB T N f by omega]; exact z2) z1)
                  | (have q : (T f = 60 ∨ T f = 62) ∧ bA T N (f + 1) = 61 := c112
                     have q1 : ¬ ltrB (T f) = true := fun z => c38 (ltrB_i.mp z)
                     have q2 : ¬ figB (T f) = true := fun z => c68 (figB_i.mp z)
                     have nsp : pF T N tk = f := by rw [← hr]; exact run_n (by rw [bA_i (by omega), spcB_i]; omega)
                     have pn : f + 1 < N := by
                       by_cases y : f + 1 < N
                       · exact y
                       · have y2 := q.2
                         rw [bA_o (by omega)] at y2; omega
                     obtain ⟨z1, z2⟩ := C.add (k := sgF (T f) + 1) (v := 0) (e := f + 2) nsp (by unfold tkF; rw [if_neg (by omega), if_neg q1, if_neg q2, if_pos q]) (sgF_v q.1).1
                     exact tail (by omega) _ (tk + 1) 2 (by omega) (by omega) (by omega) z2 z1)
                  | (have q : ¬ ((T f = 60 ∨ T f = 62) ∧ bA T N (f + 1) = 61) := c112
                     have q1 : ¬ ltrB (T f) = true := fun z => c38 (ltrB_i.mp z)
                     have q2 : ¬ figB (T f) = true := fun z => c68 (figB_i.mp z)
                     have nsp : pF T N tk = f := by rw [← hr]; exact run_n (by rw [bA_i (by omega), spcB_i]; omega)
                     obtain ⟨z1, z2⟩ := C.add (k := sgF (T f)) (v := 0) (e := f + 1) nsp (by unfold tkF; rw [if_neg (by omega), if_neg q1, if_neg q2, if_neg q]) sgF_R.2.2
                     exact tail (by omega) _ (tk + 1) 1 (by omega) (by omega) (by omega) z2 z1)
              · refine al_0 dX2_cut_107 ?_
                refine il_1 dX2_cut_108 ?_
                refine c_X2_86 dX2_cut_109 rfl tt314 (Nat.le_of_ble_eq_true rfl) (by omega) ?_
                refine wX2_isPair (by omega) (by omega) (by omega) hN1 hT1 B ?_
                refine pv_i ?_
                refine wp_if_eq 119 dX2_cut_112 rfl (fun c112 => ?_) (fun c112 => ?_)
                · rw [b2i_0] at c112
                  refine ic_1 dX2_cut_119 ?_
                  refine is_4 dX2_cut_120 rfl (by decide) ?_
                  refine al_0 dX2_cut_122 ?_
                  refine il_4 dX2_cut_123 ?_
                  refine ic_2 dX2_cut_125 ?_
                  refine wp_icmp_ne 138 dX2_cut_126 rfl (fun c126 => ?_) (fun c126 => ?_)
                  · refine il_3 dX2_cut_138 ?_
                    refine c_X2_89 dX2_cut_139 rfl (Nat.le_of_ble_eq_true rfl) (by omega) ?_
                    have sr := sgF_R (c := T f)
                    refine wX2_sign (by omega) ?_
                    refine pv_i ?_
                    refine ic_0 dX2_cut_142 ?_
                    refine il_1 dX2_cut_143 ?_
                    refine c_X2_73 dX2_cut_144 rfl tt314 (Nat.le_of_ble_eq_true rfl) (by omega) ?_
                    refine wX2_addToken (n := tk) (by omega) c9' (by omega) (by omega) ?_
                    refine pv_n ?_
                    refine wp_fg (ls' := [_, _, _, vn, _]) ⟨Or.inr rfl, Or.inr rfl, Or.inr rfl, Or.inl rfl, Or.inr rfl, trivial⟩ ?_
                    first
                      | (exfalso; omega)
                      | (have q : T f = 32 := c98
                         exact tail (by omega) h tk 1 (by omega) (by omega) (by omega) (by rw [← hr, run_y (p := f) (by omega) (spcB_i.mpr (by omega))]) C)
                      | (have q : T f = 10 := c104
                         exact tail (by omega) h tk 1 (by omega) (by omega) (by omega) (by rw [← hr, run_y (p := f) (by omega) (spcB_i.mpr (by omega))]) C)
                      | (have q := ltrB_i.mpr c38
                         have nsp : pF T N tk = f := by rw [← hr]; exact run_n (by rw [bA_i (by omega), spcB_i]; omega)
                         have rs := runS (f := ltrB) (T := T) (N := N) (p := f) ltrB_o (by omega)
                         have r1 := run1 (f := ltrB) (T := T) (N := N) (p := f) ltrB_o (by omega) q
                         have wr := wdF_R (T := T) (p := f) (len := run ltrB T N f - f)
                         obtain ⟨z1, z2⟩ := C.add (k := wdF T f (run ltrB T N f - f)) (v := 0) (e := run ltrB T N f) nsp (by unfold tkF; rw [if_neg (by omega), if_pos q]) (by omega)
                         exact tail (by omega) _ (tk + 1) (run ltrB T N f - f) (by omega) (by omega) (by omega) (by rw [show f + (run ltrB T N f - f) = run ltrB T N f by omega]; exact z2) z1)
                      | (have q := figB_i.mpr c68
                         have q' : ¬ ltrB (T f) = true := fun z => c38 (ltrB_i.mp z)
                         have nsp : pF T N tk = f := by rw [← hr]; exact run_n (by rw [bA_i (by omega), spcB_i]; omega)
                         have rs := runS (f := figB) (T := T) (N := N) (p := f) figB_o (by omega)
                         have r1 := run1 (f := figB) (T := T) (N := N) (p := f) figB_o (by omega) q
                         obtain ⟨z1, z2⟩ := C.add (k := 40) (v := nvC T f (run figB T N f - f).toNat) (e := run figB T N f) nsp (by unfold tkF; rw [if_neg (by omega), if_neg q', if_pos q]) (by omega)
                         exact tail (by omega) _ (tk + 1) (run figB T N f - f) (by omega) (by omega) (by omega) (by rw [show f + (run figB T N f - f) = run figB T N f by omega]; exact z2) z1)
                      | (have q : (T f = 60 ∨ T f = 62) ∧ bA T N (f + 1) = 61 := c112
                         have q1 : ¬ ltrB (T f) = true := fun z => c38 (ltrB_i.mp z)
                         have q2 : ¬ figB (T f) = true := fun z => c68 (figB_i.mp z)
                         have nsp : pF T N tk = f := by rw [← hr]; exact run_n (by rw [bA_i (by omega), spcB_i]; omega)
                         have pn : f + 1 < N := by
                           by_cases y : f + 1 < N
                           · exact y
                           · have y2 := q.2
                             rw [bA_o (by omega)] at y2; omega
                         obtain ⟨z1, z2⟩ := C.add (k := sgF (T f) + 1) (v := 0) (e := f + 2) nsp (by unfold tkF; rw [if_neg (by omega), if_neg q1, if_neg q2, if_pos q]) (sgF_v q.1).1
                         exact tail (by omega) _ (tk + 1) 2 (by omega) (by omega) (by omega) z2 z1)
                      | (have q : ¬ ((T f = 60 ∨ T f = 62) ∧ bA T N (f + 1) = 61) := c112
                         have q1 : ¬ ltrB (T f) = true := fun z => c38 (ltrB_i.mp z)
                         have q2 : ¬ figB (T f) = true := fun z => c68 (figB_i.mp z)
                         have nsp : pF T N tk = f := by rw [← hr]; exact run_n (by rw [bA_i (by omega), spcB_i]; omega)
                         obtain ⟨z1, z2⟩ := C.add (k := sgF (T f)) (v := 0) (e := f + 1) nsp (by unfold tkF; rw [if_neg (by omega), if_neg q1, if_neg q2, if_neg q]) sgF_R.2.2
                         exact tail (by omega) _ (tk + 1) 1 (by omega) (by omega) (by omega) z2 z1)
                  · refine il_3 dX2_cut_129 ?_
                    refine c_X2_89 dX2_cut_130 rfl (Nat.le_of_ble_eq_true rfl) (by omega) ?_
                    have sr := sgF_R (c := T f)
                    refine wX2_sign (by omega) ?_
                    refine pv_i ?_
                    refine ic_1 dX2_cut_133 ?_
                    refine wp_iadd dX2_cut_134 (r32 (by omega) (by omega)) ?_
                    refine wp_goto 142 dX2_cut_135 rfl ?_
                    refine ic_0 dX2_cut_142 ?_
                    refine il_1 dX2_cut_143 ?_
                    refine c_X2_73 dX2_cut_144 rfl tt314 (Nat.le_of_ble_eq_true rfl) (by omega) ?_
                    refine wX2_addToken (n := tk) (by omega) c9' (by omega) (by omega) ?_
                    refine pv_n ?_
                    refine wp_fg (ls' := [_, _, _, vn, _]) ⟨Or.inr rfl, Or.inr rfl, Or.inr rfl, Or.inl rfl, Or.inr rfl, trivial⟩ ?_
                    first
                      | (exfalso; omega)
                      | (have q : T f = 32 := c98
                         exact tail (by omega) h tk 1 (by omega) (by omega) (by omega) (by rw [← hr, run_y (p := f) (by omega) (spcB_i.mpr (by omega))]) C)
                      | (have q : T f = 10 := c104
                         exact tail (by omega) h tk 1 (by omega) (by omega) (by omega) (by rw [← hr, run_y (p := f) (by omega) (spcB_i.mpr (by omega))]) C)
                      | (have q := ltrB_i.mpr c38
                         have nsp : pF T N tk = f := by rw [← hr]; exact run_n (by rw [bA_i (by omega), spcB_i]; omega)
                         have rs := runS (f := ltrB) (T := T) (N := N) (p := f) ltrB_o (by omega)
                         have r1 := run1 (f := ltrB) (T := T) (N := N) (p := f) ltrB_o (by omega) q
                         have wr := wdF_R (T := T) (p := f) (len := run ltrB T N f - f)
                         obtain ⟨z1, z2⟩ := C.add (k := wdF T f (run ltrB T N f - f)) (v := 0) (e := run ltrB T N f) nsp (by unfold tkF; rw [if_neg (by omega), if_pos q]) (by omega)
                         exact tail (by omega) _ (tk + 1) (run ltrB T N f - f) (by omega) (by omega) (by omega) (by rw [show f + (run ltrB T N f - f) = run ltrB T N f by omega]; exact z2) z1)
                      | (have q := figB_i.mpr c68
                         have q' : ¬ ltrB (T f) = true := fun z => c38 (ltrB_i.mp z)
                         have nsp : pF T N tk = f := by rw [← hr]; exact run_n (by rw [bA_i (by omega), spcB_i]; omega)
                         have rs := runS (f := figB) (T := T) (N := N) (p := f) figB_o (by omega)
                         have r1 := run1 (f := figB) (T := T) (N := N) (p := f) figB_o (by omega) q
                         obtain ⟨z1, z2⟩ := C.add (k := 40) (v := nvC T f (run figB T N f - f).toNat) (e := run figB T N f) nsp (by unfold tkF; rw [if_neg (by omega), if_neg q', if_pos q]) (by omega)
                         exact tail (by omega) _ (tk + 1) (run figB T N f - f) (by omega) (by omega) (by omega) (by rw [show f + (run figB T N f - f) = run figB T N f by omega]; exact z2) z1)
                      | (have q : (T f = 60 ∨ T f = 62) ∧ bA T N (f + 1) = 61 := c112
                         have q1 : ¬ ltrB (T f) = true := fun z => c38 (ltrB_i.mp z)
                         have q2 : ¬ figB (T f) = true := fun z => c68 (figB_i.mp z)
                         have nsp : pF T N tk = f := by rw [← hr]; exact run_n (by rw [bA_i (by omega), spcB_i]; omega)
                         have pn : f + 1 < N := by
                           by_cases y : f + 1 < N
                           · exact y
                           · have y2 := q.2
                             rw [bA_o (by omega)] at y2; omega
                         obtain ⟨z1, z2⟩ := C.add (k := sgF (T f) + 1) (v := 0) (e := f + 2) nsp (by unfold tkF; rw [if_neg (by omega), if_neg q1, if_neg q2, if_pos q]) (sgF_v q.1).1
                         exact tail (by omega) _ (tk + 1) 2 (by omega) (by omega) (by omega) z2 z1)
                      | (have q : ¬ ((T f = 60 ∨ T f = 62) ∧ bA T N (f + 1) = 61) := c112
                         have q1 : ¬ ltrB (T f) = true := fun z => c38 (ltrB_i.mp z)
                         have q2 : ¬ figB (T f) = true := fun z => c68 (figB_i.mp z)
                         have nsp : pF T N tk = f := by rw [← hr]; exact run_n (by rw [bA_i (by omega), spcB_i]; omega)
                         obtain ⟨z1, z2⟩ := C.add (k := sgF (T f)) (v := 0) (e := f + 1) nsp (by unfold tkF; rw [if_neg (by omega), if_neg q1, if_neg q2, if_neg q]) sgF_R.2.2
                         exact tail (by omega) _ (tk + 1) 1 (by omega) (by omega) (by omega) z2 z1)
                · rw [b2i_n0] at c112
                  refine ic_2 dX2_cut_115 ?_
                  refine wp_goto 120 dX2_cut_116 rfl ?_
                  refine is_4 dX2_cut_120 rfl (by decide) ?_
                  refine al_0 dX2_cut_122 ?_
                  refine il_4 dX2_cut_123 ?_
                  refine ic_2 dX2_cut_125 ?_
                  refine wp_icmp_ne 138 dX2_cut_126 rfl (fun c126 => ?_) (fun c126 => ?_)
                  · refine il_3 dX2_cut_138 ?_
                    refine c_X2_89 dX2_cut_139 rfl (Nat.le_of_ble_eq_true rfl) (by omega) ?_
                    have sr := sgF_R (c := T f)
                    refine wX2_sign (by omega) ?_
                    refine pv_i ?_
                    refine ic_0 dX2_cut_142 ?_
                    refine il_1 dX2_cut_143 ?_
                    refine c_X2_73 dX2_cut_144 rfl tt314 (Nat.le_of_ble_eq_true rfl) (by omega) ?_
                    refine wX2_addToken (n := tk) (by omega) c9' (by omega) (by omega) ?_
                    refine pv_n ?_
                    refine wp_fg (ls' := [_, _, _, vn, _]) ⟨Or.inr rfl, Or.inr rfl, Or.inr rfl, Or.inl rfl, Or.inr rfl, trivial⟩ ?_
                    first
                      | (exfalso; omega)
                      | (have q : T f = 32 := c98
                         exact tail (by omega) h tk 1 (by omega) (by omega) (by omega) (by rw [← hr, run_y (p := f) (by omega) (spcB_i.mpr (by omega))]) C)
                      | (have q : T f = 10 := c104
                         exact tail (by omega) h tk 1 (by omega) (by omega) (by omega) (by rw [← hr, run_y (p := f) (by omega) (spcB_i.mpr (by omega))]) C)
                      | (have q := ltrB_i.mpr c38
                         have nsp : pF T N tk = f := by rw [← hr]; exact run_n (by rw [bA_i (by omega), spcB_i]; omega)
                         have rs := runS (f := ltrB) (T := T) (N := N) (p := f) ltrB_o (by omega)
                         have r1 := run1 (f := ltrB) (T := T) (N := N) (p := f) ltrB_o (by omega) q
                         have wr := wdF_R (T := T) (p := f) (len := run ltrB T N f - f)
                         obtain ⟨z1, z2⟩ := C.add (k := wdF T f (run ltrB T N f - f)) (v := 0) (e := run ltrB T N f) nsp (by unfold tkF; rw [if_neg (by omega), if_pos q]) (by omega)
                         exact tail (by omega) _ (tk + 1) (run ltrB T N f - f) (by omega) (by omega) (by omega) (by rw [show f + (run ltrB T N f - f) = run ltrB T N f by omega]; exact z2) z1)
                      | (have q := figB_i.mpr c68
                         have q' : ¬ ltrB (T f) = true := fun z => c38 (ltrB_i.mp z)
                         have nsp : pF T N tk = f := by rw [← hr]; exact run_n (by rw [bA_i (by omega), spcB_i]; omega)
                         have rs := runS (f := figB) (T := T) (N := N) (p := f) figB_o (by omega)
                         have r1 := run1 (f := figB) (T := T) (N := N) (p := f) figB_o (by omega) q
                         obtain ⟨z1, z2⟩ := C.add (k := 40) (v := nvC T f (run figB T N f - f).toNat) (e := run figB T N f) nsp (by unfold tkF; rw [if_neg (by omega), if_neg q', if_pos q]) (by omega)
                         exact tail (by omega) _ (tk + 1) (run figB T N f - f) (by omega) (by omega) (by omega) (by rw [show f + (run figB T N f - f) = run figB T N f by omega]; exact z2) z1)
                      | (have q : (T f = 60 ∨ T f = 62) ∧ bA T N (f + 1) = 61 := c112
                         have q1 : ¬ ltrB (T f) = true := fun z => c38 (ltrB_i.mp z)
                         have q2 : ¬ figB (T f) = true := fun z => c68 (figB_i.mp z)
                         have nsp : pF T N tk = f := by rw [← hr]; exact run_n (by rw [bA_i (by omega), spcB_i]; omega)
                         have pn : f + 1 < N := by
                           by_cases y : f + 1 < N
                           · exact y
                           · have y2 := q.2
                             rw [bA_o (by omega)] at y2; omega
                         obtain ⟨z1, z2⟩ := C.add (k := sgF (T f) + 1) (v := 0) (e := f + 2) nsp (by unfold tkF; rw [if_neg (by omega), if_neg q1, if_neg q2, if_pos q]) (sgF_v q.1).1
                         exact tail (by omega) _ (tk + 1) 2 (by omega) (by omega) (by omega) z2 z1)
                      | (have q : ¬ ((T f = 60 ∨ T f = 62) ∧ bA T N (f + 1) = 61) := c112
                         have q1 : ¬ ltrB (T f) = true := fun z => c38 (ltrB_i.mp z)
                         have q2 : ¬ figB (T f) = true := fun z => c68 (figB_i.mp z)
                         have nsp : pF T N tk = f := by rw [← hr]; exact run_n (by rw [bA_i (by omega), spcB_i]; omega)
                         obtain ⟨z1, z2⟩ := C.add (k := sgF (T f)) (v := 0) (e := f + 1) nsp (by unfold tkF; rw [if_neg (by omega), if_neg q1, if_neg q2, if_neg q]) sgF_R.2.2
                         exact tail (by omega) _ (tk + 1) 1 (by omega) (by omega) (by omega) z2 z1)
                  · refine il_3 dX2_cut_129 ?_
                    refine c_X2_89 dX2_cut_130 rfl (Nat.le_of_ble_eq_true rfl) (by omega) ?_
                    have sr := sgF_R (c := T f)
                    refine wX2_sign (by omega) ?_
                    refine pv_i ?_
                    refine ic_1 dX2_cut_133 ?_
                    refine wp_iadd dX2_cut_134 (r32 (by omega) (by omega)) ?_
                    refine wp_goto 142 dX2_cut_135 rfl ?_
                    refine ic_0 dX2_cut_142 ?_
                    refine il_1 dX2_cut_143 ?_
                    refine c_X2_73 dX2_cut_144 rfl tt314 (Nat.le_of_ble_eq_true rfl) (by omega) ?_
                    refine wX2_addToken (n := tk) (by omega) c9' (by omega) (by omega) ?_
                    refine pv_n ?_
                    refine wp_fg (ls' := [_, _, _, vn, _]) ⟨Or.inr rfl, Or.inr rfl, Or.inr rfl, Or.inl rfl, Or.inr rfl, trivial⟩ ?_
                    first
                      | (exfalso; omega)
                      | (have q : T f = 32 := c98
                         exact tail (by omega) h tk 1 (by omega) (by omega) (by omega) (by rw [← hr, run_y (p := f) (by omega) (spcB_i.mpr (by omega))]) C)
                      | (have q : T f = 10 := c104
                         exact tail (by omega) h tk 1 (by omega) (by omega) (by omega) (by rw [← hr, run_y (p := f) (by omega) (spcB_i.mpr (by omega))]) C)
                      | (have q := ltrB_i.mpr c38
                         have nsp : pF T N tk = f := by rw [← hr]; exact run_n (by rw [bA_i (by omega), spcB_i]; omega)
                         have rs := runS (f := ltrB) (T := T) (N := N) (p := f) ltrB_o (by omega)
                         have r1 := run1 (f := ltrB) (T := T) (N := N) (p := f) ltrB_o (by omega) q
                         have wr := wdF_R (T := T) (p := f) (len := run ltrB T N f - f)
                         obtain ⟨z1, z2⟩ := C.add (k := wdF T f (run ltrB T N f - f)) (v := 0) (e := run ltrB T N f) nsp (by unfold tkF; rw [if_neg (by omega), if_pos q]) (by omega)
                         exact tail (by omega) _ (tk + 1) (run ltrB T N f - f) (by omega) (by omega) (by omega) (by rw [show f + (run ltrB T N f - f) = run ltrB T N f by omega]; exact z2) z1)
                      | (have q := figB_i.mpr c68
                         have q' : ¬ ltrB (T f) = true := fun z => c38 (ltrB_i.mp z)
                         have nsp : pF T N tk = f := by rw [← hr]; exact run_n (by rw [bA_i (by omega), spcB_i]; omega)
                         have rs := runS (f := figB) (T := T) (N := N) (p := f) figB_o (by omega)
                         have r1 := run1 (f := figB) (T := T) (N := N) (p := f) figB_o (by omega) q
                         obtain ⟨z1, z2⟩ := C.add (k := 40) (v := nvC T f (run figB T N f - f).toNat) (e := run figB T N f) nsp (by unfold tkF; rw [if_neg (by omega), if_neg q', if_pos q]) (by omega)
                         exact tail (by omega) _ (tk + 1) (run figB T N f - f) (by omega) (by omega) (by omega) (by rw [show f + (run figB T N f - f) = run figB T N f by omega]; exact z2) z1)
                      | (have q : (T f = 60 ∨ T f = 62) ∧ bA T N (f + 1) = 61 := c112
                         have q1 : ¬ ltrB (T f) = true := fun z => c38 (ltrB_i.mp z)
                         have q2 : ¬ figB (T f) = true := fun z => c68 (figB_i.mp z)
                         have nsp : pF T N tk = f := by rw [← hr]; exact run_n (by rw [bA_i (by omega), spcB_i]; omega)
                         have pn : f + 1 < N := by
                           by_cases y : f + 1 < N
                           · exact y
                           · have y2 := q.2
                             rw [bA_o (by omega)] at y2; omega
                         obtain ⟨z1, z2⟩ := C.add (k := sgF (T f) + 1) (v := 0) (e := f + 2) nsp (by unfold tkF; rw [if_neg (by omega), if_neg q1, if_neg q2, if_pos q]) (sgF_v q.1).1
                         exact tail (by omega) _ (tk + 1) 2 (by omega) (by omega) (by omega) z2 z1)
                      | (have q : ¬ ((T f = 60 ∨ T f = 62) ∧ bA T N (f + 1) = 61) := c112
                         have q1 : ¬ ltrB (T f) = true := fun z => c38 (ltrB_i.mp z)
                         have q2 : ¬ figB (T f) = true := fun z => c68 (figB_i.mp z)
                         have nsp : pF T N tk = f := by rw [← hr]; exact run_n (by rw [bA_i (by omega), spcB_i]; omega)
                         obtain ⟨z1, z2⟩ := C.add (k := sgF (T f)) (v := 0) (e := f + 1) nsp (by unfold tkF; rw [if_neg (by omega), if_neg q1, if_neg q2, if_neg q]) sgF_R.2.2
                         exact tail (by omega) _ (tk + 1) 1 (by omega) (by omega) (by omega) z2 z1)
          · rw [b2i_n0] at c68
            refine al_0 dX2_cut_71 ?_
            refine il_1 dX2_cut_72 ?_
            refine c_X2_80 dX2_cut_73 rfl tt314 (Nat.le_of_ble_eq_true rfl) (by omega) ?_
            refine wX2_digitsFrom (by omega) (by omega) (by omega) hN1 hT1 B ?_
            refine pv_i ?_
            refine is_4 dX2_cut_76 rfl (by decide) ?_
            refine al_0 dX2_cut_78 ?_
            refine bi_40 dX2_cut_79 ?_
            refine al_0 dX2_cut_81 ?_
            refine il_1 dX2_cut_82 ?_
            refine il_4 dX2_cut_83 ?_
            refine c_X2_83 dX2_cut_85 rfl tt314 (Nat.le_of_ble_eq_true rfl) (by omega) ?_
            have rs := runS (f := figB) (T := T) (N := N) (p := f) figB_o (by omega)
            refine wX2_numberAt (by omega) (by omega) (by omega) (by omega) (fun j hj => figB_i.mp (rs.2.2.1 (f + j) (by omega) (by omega)).2) hN1 hT1 B ?_
            refine pv_i ?_
            refine il_1 dX2_cut_88 ?_
            refine c_X2_73 dX2_cut_89 rfl tt314 (Nat.le_of_ble_eq_true rfl) (by omega) ?_
            refine wX2_addToken (n := tk) (by omega) c9' (by omega) (by omega) ?_
            refine pv_n ?_
            refine wp_goto 147 dX2_cut_92 rfl ?_
            refine wp_fg (ls' := [_, _, _, vn, _]) ⟨Or.inr rfl, Or.inr rfl, Or.inr rfl, Or.inl rfl, Or.inr rfl, trivial⟩ ?_
            first
              | (exfalso; omega)
              | (have q : T f = 32 := c98
                 exact tail (by omega) h tk 1 (by omega) (by omega) (by omega) (by rw [← hr, run_y (p := f) (by omega) (spcB_i.mpr (by omega))]) C)
              | (have q : T f = 10 := c104
                 exact tail (by omega) h tk 1 (by omega) (by omega) (by omega) (by rw [← hr, run_y (p := f) (by omega) (spcB_i.mpr (by omega))]) C)
              | (have q := ltrB_i.mpr c38
                 have nsp : pF T N tk = f := by rw [← hr]; exact run_n (by rw [bA_i (by omega), spcB_i]; omega)
                 have rs := runS (f := ltrB) (T := T) (N := N) (p := f) ltrB_o (by omega)
                 have r1 := run1 (f := ltrB) (T := T) (N := N) (p := f) ltrB_o (by omega) q
                 have wr := wdF_R (T := T) (p := f) (len := run ltrB T N f - f)
                 obtain ⟨z1, z2⟩ := C.add (k := wdF T f (run ltrB T N f - f)) (v := 0) (e := run ltrB T N f) nsp (by unfold tkF; rw [if_neg (by omega), if_pos q]) (by omega)
                 exact tail (by omega) _ (tk + 1) (run ltrB T N f - f) (by omega) (by omega) (by omega) (by rw [show f + (run ltrB T N f - f) = run ltrB T N f by omega]; exact z2) z1)
              | (have q := figB_i.mpr c68
                 have q' : ¬ ltrB (T f) = true := fun z => c38 (ltrB_i.mp z)
                 have nsp : pF T N tk = f := by rw [← hr]; exact run_n (by rw [bA_i (by omega), spcB_i]; omega)
                 have rs := runS (f := figB) (T := T) (N := N) (p := f) figB_o (by omega)
                 have r1 := run1 (f := figB) (T := T) (N := N) (p := f) figB_o (by omega) q
                 obtain ⟨z1, z2⟩ := C.add (k := 40) (v := nvC T f (run figB T N f - f).toNat) (e := run figB T N f) nsp (by unfold tkF; rw [if_neg (by omega), if_neg q', if_pos q]) (by omega)
                 exact tail (by omega) _ (tk + 1) (run figB T N f - f) (by omega) (by omega) (by omega) (by rw [show f + (run figB T N f - f) = run figB T N f by omega]; exact z2) z1)
              | (have q : (T f = 60 ∨ T f = 62) ∧ bA T N (f + 1) = 61 := c112
                 have q1 : ¬ ltrB (T f) = true := fun z => c38 (ltrB_i.mp z)
                 have q2 : ¬ figB (T f) = true := fun z => c68 (figB_i.mp z)
                 have nsp : pF T N tk = f := by rw [← hr]; exact run_n (by rw [bA_i (by omega), spcB_i]; omega)
                 have pn : f + 1 < N := by
                   by_cases y : f + 1 < N
                   · exact y
                   · have y2 := q.2
                     rw [bA_o (by omega)] at y2; omega
                 obtain ⟨z1, z2⟩ := C.add (k := sgF (T f) + 1) (v := 0) (e := f + 2) nsp (by unfold tkF; rw [if_neg (by omega), if_neg q1, if_neg q2, if_pos q]) (sgF_v q.1).1
                 exact tail (by omega) _ (tk + 1) 2 (by omega) (by omega) (by omega) z2 z1)
              | (have q : ¬ ((T f = 60 ∨ T f = 62) ∧ bA T N (f + 1) = 61) := c112
                 have q1 : ¬ ltrB (T f) = true := fun z => c38 (ltrB_i.mp z)
                 have q2 : ¬ figB (T f) = true := fun z => c68 (figB_i.mp z)
                 have nsp : pF T N tk = f := by rw [← hr]; exact run_n (by rw [bA_i (by omega), spcB_i]; omega)
                 obtain ⟨z1, z2⟩ := C.add (k := sgF (T f)) (v := 0) (e := f + 1) nsp (by unfold tkF; rw [if_neg (by omega), if_neg q1, if_neg q2, if_neg q]) sgF_R.2.2
                 exact tail (by omega) _ (tk + 1) 1 (by omega) (by omega) (by omega) z2 z1)
        · rw [b2i_n0] at c38
          refine al_0 dX2_cut_41 ?_
          refine il_1 dX2_cut_42 ?_
          refine c_X2_65 dX2_cut_43 rfl tt314 (Nat.le_of_ble_eq_true rfl) (by omega) ?_
          refine wX2_lettersFrom (by omega) (by omega) (by omega) hN1 hT1 B ?_
          refine pv_i ?_
          refine is_4 dX2_cut_46 rfl (by decide) ?_
          refine al_0 dX2_cut_48 ?_
          refine al_0 dX2_cut_49 ?_
          refine il_1 dX2_cut_50 ?_
          refine il_4 dX2_cut_51 ?_
          refine c_X2_69 dX2_cut_53 rfl tt314 (Nat.le_of_ble_eq_true rfl) (by omega) ?_
          have rs := runS (f := ltrB) (T := T) (N := N) (p := f) ltrB_o (by omega)
          refine wX2_wordAt (by omega) (by omega) (by omega) (by omega) hN1 hT1 B ?_
          refine pv_i ?_
          refine ic_0 dX2_cut_56 ?_
          refine il_1 dX2_cut_57 ?_
          refine c_X2_73 dX2_cut_58 rfl tt314 (Nat.le_of_ble_eq_true rfl) (by omega) ?_
          refine wX2_addToken (n := tk) (by omega) c9' (by omega) (by omega) ?_
          refine pv_n ?_
          refine wp_goto 147 dX2_cut_61 rfl ?_
          refine wp_fg (ls' := [_, _, _, vn, _]) ⟨Or.inr rfl, Or.inr rfl, Or.inr rfl, Or.inl rfl, Or.inr rfl, trivial⟩ ?_
          first
            | (exfalso; omega)
            | (have q : T f = 32 := c98
               exact tail (by omega) h tk 1 (by omega) (by omega) (by omega) (by rw [← hr, run_y (p := f) (by omega) (spcB_i.mpr (by omega))]) C)
            | (have q : T f = 10 := c104
               exact tail (by omega) h tk 1 (by omega) (by omega) (by omega) (by rw [← hr, run_y (p := f) (by omega) (spcB_i.mpr (by omega))]) C)
            | (have q := ltrB_i.mpr c38
               have nsp : pF T N tk = f := by rw [← hr]; exact run_n (by rw [bA_i (by omega), spcB_i]; omega)
               have rs := runS (f := ltrB) (T := T) (N := N) (p := f) ltrB_o (by omega)
               have r1 := run1 (f := ltrB) (T := T) (N := N) (p := f) ltrB_o (by omega) q
               have wr := wdF_R (T := T) (p := f) (len := run ltrB T N f - f)
               obtain ⟨z1, z2⟩ := C.add (k := wdF T f (run ltrB T N f - f)) (v := 0) (e := run ltrB T N f) nsp (by unfold tkF; rw [if_neg (by omega), if_pos q]) (by omega)
               exact tail (by omega) _ (tk + 1) (run ltrB T N f - f) (by omega) (by omega) (by omega) (by rw [show f + (run ltrB T N f - f) = run ltrB T N f by omega]; exact z2) z1)
            | (have q := figB_i.mpr c68
               have q' : ¬ ltrB (T f) = true := fun z => c38 (ltrB_i.mp z)
               have nsp : pF T N tk = f := by rw [← hr]; exact run_n (by rw [bA_i (by omega), spcB_i]; omega)
               have rs := runS (f := figB) (T := T) (N := N) (p := f) figB_o (by omega)
               have r1 := run1 (f := figB) (T := T) (N := N) (p := f) figB_o (by omega) q
               obtain ⟨z1, z2⟩ := C.add (k := 40) (v := nvC T f (run figB T N f - f).toNat) (e := run figB T N f) nsp (by unfold tkF; rw [if_neg (by omega), if_neg q', if_pos q]) (by omega)
               exact tail (by omega) _ (tk + 1) (run figB T N f - f) (by omega) (by omega) (by omega) (by rw [show f + (run figB T N f - f) = run figB T N f by omega]; exact z2) z1)
            | (have q : (T f = 60 ∨ T f = 62) ∧ bA T N (f + 1) = 61 := c112
               have q1 : ¬ ltrB (T f) = true := fun z => c38 (ltrB_i.mp z)
               have q2 : ¬ figB (T f) = true := fun z => c68 (figB_i.mp z)
               have nsp : pF T N tk = f := by rw [← hr]; exact run_n (by rw [bA_i (by omega), spcB_i]; omega)
               have pn : f + 1 < N := by
                 by_cases y : f + 1 < N
                 · exact y
                 · have y2 := q.2
                   rw [bA_o (by omega)] at y2; omega
               obtain ⟨z1, z2⟩ := C.add (k := sgF (T f) + 1) (v := 0) (e := f + 2) nsp (by unfold tkF; rw [if_neg (by omega), if_neg q1, if_neg q2, if_pos q]) (sgF_v q.1).1
               exact tail (by omega) _ (tk + 1) 2 (by omega) (by omega) (by omega) z2 z1)
            | (have q : ¬ ((T f = 60 ∨ T f = 62) ∧ bA T N (f + 1) = 61) := c112
               have q1 : ¬ ltrB (T f) = true := fun z => c38 (ltrB_i.mp z)
               have q2 : ¬ figB (T f) = true := fun z => c68 (figB_i.mp z)
               have nsp : pF T N tk = f := by rw [← hr]; exact run_n (by rw [bA_i (by omega), spcB_i]; omega)
               obtain ⟨z1, z2⟩ := C.add (k := sgF (T f)) (v := 0) (e := f + 1) nsp (by unfold tkF; rw [if_neg (by omega), if_neg q1, if_neg q2, if_neg q]) sgF_R.2.2
               exact tail (by omega) _ (tk + 1) 1 (by omega) (by omega) (by omega) z2 z1)

theorem wX2_cut {G : GT} {δ : Nat} {h hl : Nat → Int → Int} {b : Bool × Bool} {Q : V → Hp → Prop} {N : Int} {T : Int → Int} (hδ : δ ≤ 1570) (hN : h 314 1 = N) (hT : h 315 = T) (B : BY T N) (hQ : ∀ (h' : Nat → Int → Int) (n : Int), TKS h h' T N n → Q vn (HS h' hl b)) : WP G δ 0 0 MX2_cut 0 [vr (314), vn, vn, vn, vn] [] (HS h hl b) Q := by
  refine al_0 dX2_cut_0 ?_
  refine ic_0 dX2_cut_1 ?_
  refine p_X2_58 dX2_cut_2 rfl tt314 ?_
  refine ic_0 dX2_cut_5 ?_
  refine is_1 dX2_cut_6 rfl (by decide) ?_
  refine ic_0 dX2_cut_7 ?_
  refine is_2 dX2_cut_8 rfl (by decide) ?_
  refine wX2_cut_9 (h0 := h) (by omega) hN hT B _ 0 0 0 _ (Nat.lt_succ_self _) (by omega) B.1 (by omega) (by omega) (by omega) rfl ⟨up_s, fun j j0 j1 => by omega, eqX.rf.up (by decide), fun k hk => up_k hk⟩ hQ
