/-! faults have numbers -/
def FP (pr : PF) : Prop := ∀ i u e, pr i u = .inl e → 1 ≤ e.1
section FPS
variable {K V : Int → Int} {s : Int}
theorem thn_F {r : Res} {f : Int → List Int → MCd → DV → Res} {e : Int × Int} (h : thn r f = .inl e) (a : ∀ e, r = .inl e → 1 ≤ e.1) (c : ∀ j C M D, f j C M D = .inl e → 1 ≤ e.1) : 1 ≤ e.1 := by
  rcases r with x | ⟨j, C, M, D⟩
  · exact a e h
  · exact c j C M D h
theorem lit_F {f j : Int} {e : Int × Int} (h : (Sum.inl (f, j) : Res) = .inl e) (p : 1 ≤ f) : 1 ≤ e.1 := by
  cases h; exact p
theorem facO_F {sm fc ch : PF} (hs : FP sm) (hf : FP fc) (hc : FP ch) : FP (facO K sm fc ch) := by
  intro i u e h
  unfold facO at h
  split at h
  · refine thn_F h (fun e q => hs _ _ e q) (fun j C M D q => ?_)
    split at q
    · cases q
    · exact lit_F q (by decide)
  split at h
  · exact thn_F h (fun e q => hf _ _ e q) (fun j C M D q => by cases q)
  split at h
  · exact thn_F h (fun e q => hf _ _ e q) (fun j C M D q => by cases q)
  split at h
  · refine thn_F h (fun e q => hf _ _ e q) (fun j C M D q => ?_)
    split at q
    · exact thn_F q (fun e q => hf _ _ e q) (fun j C M D q => by cases q)
    · exact lit_F q (by decide)
  · exact hc _ _ e h
theorem facP_F {rest : Option PF4} (h : ∀ q, rest = some q → FP q.1 ∧ FP q.2.1 ∧ FP q.2.2.1) : FP (facP K V s rest) := by
  intro i u e he
  unfold facP at he
  split at he
  · split at he
    · exact lit_F he (by decide)
    · cases he
  split at he
  · split at he
    · exact lit_F he (by decide)
    · cases he
  split at he
  · cases rest with
    | none => exact lit_F he (by decide)
    | some q =>
      obtain ⟨a, b, c⟩ := h q rfl
      exact facO_F a b c i u e he
  · exact lit_F he (by decide)
theorem lpP_F {a b mo : Int} {pr : PF} (hp : FP pr) : ∀ (m : Nat) (j u : Int) (C : List Int) (M : MCd) (D : DV) (e : Int × Int), lpP K a b mo pr m j u C M D = .inl e → 1 ≤ e.1
  | 0, j, u, C, M, D, e, h => by cases h
  | m + 1, j, u, C, M, D, e, h => by
    unfold lpP at h
    split at h
    · exact thn_F h (fun e q => hp _ _ e q) (fun j C M D q => lpP_F hp m _ _ _ _ _ e q)
    · cases h
theorem seqP_F {a b mo : Int} {pr : PF} (hp : FP pr) : FP (seqP K a b mo pr) := fun i u e h => thn_F h (fun e q => hp _ _ e q) (fun j C M D q => lpP_F hp 300 _ _ _ _ _ e q)
theorem askP_F {sm : PF} {de : Option PF} (hs : FP sm) (hd : ∀ q, de = some q → FP q) : FP (askP K sm de) := by
  intro i u e h
  unfold askP at h
  split at h
  · cases de with
    | none => exact lit_F h (by decide)
    | some q => exact thn_F h (fun e z => hd q rfl _ _ e z) (fun j C M D z => by cases z)
  · refine thn_F h (fun e q => hs _ _ e q) (fun j C M D q => ?_)
    split at q
    · exact thn_F q (fun e q => hs _ _ e q) (fun j C M D q => by cases q)
    · exact lit_F q (by decide)
theorem choP_F {ei sm : PF} (he : FP ei) (hs : FP sm) : FP (choP K ei sm) := by
  intro i u e h
  unfold choP at h
  refine thn_F h (fun e q => he _ _ e q) (fun j C M D q => ?_)
  split at q
  · refine thn_F q (fun e q => hs _ _ e q) (fun j C M D q => ?_)
    split at q
    · refine thn_F q (fun e q => hs _ _ e q) (fun j C M D q => ?_)
      split at q
      · cases q
      · exact lit_F q (by decide)
    · exact lit_F q (by decide)
  · exact lit_F q (by decide)
theorem lvP_F : ∀ d, FP (lvP K V s d).1 ∧ FP (lvP K V s d).2.1 ∧ FP (lvP K V s d).2.2.1 ∧ FP (lvP K V s d).2.2.2
  | 0 => by
    have f : FP (facP K V s none) := facP_F (fun q e => by cases e)
    have sm := seqP_F (K := K) (a := 47) (b := 48) (mo := -41) (seqP_F (K := K) (a := 49) (b := 50) (mo := -41) f)
    have ak := askP_F (K := K) (de := none) sm (fun q e => by cases e)
    exact ⟨sm, f, choP_F (seqP_F (seqP_F ak)) sm, ak⟩
  | d + 1 => by
    obtain ⟨a, b, c, e⟩ := lvP_F d
    have f : FP (facP K V s (some (lvP K V s d))) := facP_F (fun q z => by cases z; exact ⟨a, b, c⟩)
    have sm := seqP_F (K := K) (a := 47) (b := 48) (mo := -41) (seqP_F (K := K) (a := 49) (b := 50) (mo := -41) f)
    have ak := askP_F (K := K) (de := some (lvP K V s d).2.2.2) sm (fun q z => by cases z; exact e)
    exact ⟨sm, f, choP_F (seqP_F (seqP_F ak)) sm, ak⟩
theorem itP_F : ∀ (it : List Itm) (i : Int) (e : Int × Int), itP K V it i = .inl e → 1 ≤ e.1
  | [], i, e, h => by cases h
  | .inl r :: it, i, e, h => by
    unfold itP at h
    split at h
    · split at h
      · cases h; dsimp only; omega
      · cases q : itP K V it (i + 1) with
        | inl x => rw [q] at h; cases h; exact itP_F it _ _ q
        | inr x => rw [q] at h; cases h
    · cases h; dsimp only; omega
  | .inr w :: it, i, e, h => by
    unfold itP at h
    split at h
    · exact itP_F it _ _ h
    · cases h; dsimp only; omega
end FPS
/-! how far a clause goes -/
def clG (n i : Int) (st : RSt) (r : (Int × Int) ⊕ (Int × RSt)) : Prop := match r with
  | .inl e => 1 ≤ e.1 ∧ i ≤ e.2 ∧ e.2 ≤ n - 1
  | .inr x => i < x.1 ∧ x.1 ≤ n - 1 ∧ ((x.2.2.1.length : Int) ≤ st.2.1.length + 2 * (x.1 - i)) ∧ ((x.2.2.2.1.length : Int) ≤ st.2.2.1.length + (x.1 - i)) ∧ x.2.1.length = st.1.length + 1
theorem clP_G {K V : Int → Int} {n : Int} (t : TkE K n) (i : Int) (st : RSt) (i0 : 0 ≤ i) (i1 : i ≤ n - 1) : clG n i st (clP K V i st) := by
  unfold clP
  split
  · exact ⟨by dsimp only; omega, Int.le_refl _, i1⟩
  rename_i hk
  have i2 := tk_lt t i1 (by omega)
  split
  · exact ⟨by dsimp only; omega, Int.le_refl _, i1⟩
  split
  · exact ⟨by dsimp only; omega, Int.le_refl _, i1⟩
  split
  · have g := (lvP_G (V := V) (s := K i - 10) t 8).1 (i + 1) st.2.1.length (by omega) i2
    have f := (lvP_F (K := K) (V := V) (s := K i - 10) 8).1 (i + 1) st.2.1.length
    cases q : (lvP K V (K i - 10) 8).1 (i + 1) st.2.1.length with
    | inl e => rw [q] at g; exact ⟨f e q, by have := g.1; show i ≤ e.2; omega, g.2⟩
    | inr x =>
      obtain ⟨j, C, M, D⟩ := x
      rw [q] at g
      obtain ⟨g1, g2, g3, g4⟩ := g
      dsimp only
      split
      · refine ⟨by show i < j + 1; omega, tk_lt t g2 (by omega), ?_, ?_, by show (st.1 ++ [_]).length = _; simp⟩
        · show ((st.2.1 ++ (C ++ [53])).length : Int) ≤ st.2.1.length + 2 * (j + 1 - i)
          rw [lenA, lenA, List.length_cons, List.length_nil]; omega
        · show ((st.2.2.1 ++ M).length : Int) ≤ st.2.2.1.length + (j + 1 - i)
          rw [List.length_append]; omega
      · exact ⟨by dsimp only; omega, by show i ≤ j; omega, g2⟩
  · have g := itP_G (V := V) t (itK (K i)) (i + 1) (fun w h => itK_w h) (by omega) i2
    have f := itP_F (K := K) (V := V) (itK (K i)) (i + 1)
    cases q : itP K V (itK (K i)) (i + 1) with
    | inl e => rw [q] at g; exact ⟨f e q, by have := g.1; show i ≤ e.2; omega, g.2⟩
    | inr x =>
      rw [q] at g
      obtain ⟨g1, g2, g3⟩ := g
      dsimp only
      split
      · refine ⟨by show i < x.1 + 1; omega, tk_lt t g2 (by omega), ?_, ?_, by show (st.1 ++ [_]).length = _; simp⟩
        · show (st.2.1.length : Int) ≤ st.2.1.length + 2 * (x.1 + 1 - i); omega
        · show (st.2.2.1.length : Int) ≤ st.2.2.1.length + (x.1 + 1 - i); omega
      · exact ⟨by dsimp only; omega, by show i ≤ x.1; omega, g2⟩
/-- what the class's reader of clauses leaves -/
def RQl (Pf : Int → Int) (h hl : Nat → Int → Int) (b : Bool × Bool) (Q : V → Hp → Prop) (r : (Int × Int) ⊕ RSt) : Prop := match r with
  | .inl e => ∀ h' : Nat → Int → Int, RdF h h' → h' 314 3 = e.1 → h' 314 4 = Pf e.2 → Q (vi 0) (HS h' hl b)
  | .inr st => ∀ h' : Nat → Int → Int, RdE h h' → DrI h' st → Q (vi 1) (HS h' hl b)
theorem CPq.of {Pf : Int → Int} {h hl : Nat → Int → Int} {b : Bool × Bool} {Q : V → Hp → Prop} {r : (Int × Int) ⊕ (Int × RSt)} (a : ∀ e, r = .inl e → ∀ h' : Nat → Int → Int, RdF h h' → h' 314 3 = e.1 → h' 314 4 = Pf e.2 → Q (vi 0) (HS h' hl b)) (c : ∀ x, r = .inr x → ∀ h' : Nat → Int → Int, RdE h h' → h' 314 10 = x.1 → DrI h' x.2 → Q (vi 1) (HS h' hl b)) : CPq Pf h hl b Q r := by
  rcases r with e | x
  · exact a e rfl
  · exact c x rfl
def ReE (h h' : Nat → Int → Int) : Prop := eqX [314, 316, 317, 318, 319, 320, 321, 322] h h' ∧ ∀ k : Int, k ≠ 2 → k ≠ 3 → k ≠ 4 → k ≠ 9 → k ≠ 10 → h' 314 k = h 314 k
def st0 : RSt := ([], [], [], (-1, -1), (none, none))

theorem wX2_readTape_33 {G : GT} {δ : Nat} {hl : Nat → Int → Int} {b : Bool × Bool} {Q : V → Hp → Prop} {K Vf Pf : Int → Int} {nT : Int} {h0 : Nat → Int → Int} (hδ : δ ≤ 860) (Bb : ClB K Vf Pf nT h0) (t : TkE K nT) (kr : ∀ i, 0 ≤ i → i ≤ nT - 1 → 0 ≤ K i) : ∀ (n : Nat) (m : Nat) (c : Int) (i : Int) (st : RSt) (h : Nat → Int → Int), (m) < n → (c = 301 - m) → (m ≤ 301) → (RdE h0 h) → (h 314 10 = i) → (0 ≤ i) → (i ≤ nT - 1) → (DrI h st) → ((st.2.1.length : Int) ≤ 2 * i) → (RQl Pf h0 hl b Q (rdP K Vf m i st)) → WP G δ 0 0 MX2_readTape 33 [vr (314), vi c] [] (HS h hl b) Q := by
  intro n
  induction n with
  | zero => intro m c i st h hlt; exact absurd hlt (Nat.not_lt_zero _)
  | succ n ih =>
    intro m c i st h hlt hm m3 E hj i0 i1 Dr cl hQ
    have tn := t.2.1
    obtain ⟨hK, -, -⟩ := (E.B Bb).2 i i0 (by omega)
    refine il_1 dX2_readTape_33 ?_
    refine si_300 dX2_readTape_34 ?_
    refine wp_icmp_gt 69 dX2_readTape_37 rfl (fun c37 => ?_) (fun c37 => ?_)
    · have m0 : m = 0 := by omega
      subst m0
      refine ic_1 dX2_readTape_69 ?_
      refine wp_iretz dX2_readTape_70 rfl (by omega) ?_
      first
        | exact hQ h E Dr
        | (unfold rdP at hQ
           rw [if_pos (by omega)] at hQ
           exact hQ h E Dr)
    · obtain ⟨m', rfl⟩ : ∃ m', m = m' + 1 := ⟨m - 1, by omega⟩
      refine al_0 dX2_readTape_40 ?_
      refine g_X2_26 (320) dX2_readTape_41 rfl tt314 (rr2_6 tt314) (by omega) ?_
      refine al_0 dX2_readTape_44 ?_
      refine g_X2_51 dX2_readTape_45 rfl tt314 ?_
      rw [hj]
      refine wp_iaload dX2_readTape_48 tt320 (by omega) (by omega) ?_
      rw [hK]
      refine bi_54 dX2_readTape_49 ?_
      refine wp_icmp_eq 69 dX2_readTape_51 rfl (fun c51 => ?_) (fun c51 => ?_)
      · refine ic_1 dX2_readTape_69 ?_
        refine wp_iretz dX2_readTape_70 rfl (by omega) ?_
        first
          | exact hQ h E Dr
          | (unfold rdP at hQ
             rw [if_pos (by omega)] at hQ
             exact hQ h E Dr)
      · refine al_0 dX2_readTape_54 ?_
        refine c_X2_54 dX2_readTape_55 rfl tt314 (Nat.le_of_ble_eq_true rfl) (by omega) ?_
        have g := clP_G (V := Vf) t i st i0 i1
        refine wX2_clause (by omega) (E.B Bb) hj i0 i1 t kr Dr cl (CPq.of (fun e he h1 E1 f1 p1 => ?_) (fun x hx h1 E1 a1 d1 => ?_))
        · refine pv_i ?_
          refine wp_if_ne 63 dX2_readTape_58 rfl (fun c => absurd rfl c) (fun _ => ?_)
          refine ic_0 dX2_readTape_61 ?_
          refine wp_iretz dX2_readTape_62 rfl (by omega) ?_
          unfold rdP at hQ
          rw [if_neg (by omega), he] at hQ
          exact hQ h1 (E.f.tr E1) f1 p1
        · refine pv_i ?_
          refine wp_if_ne 63 dX2_readTape_58 rfl (fun _ => ?_) (fun c => absurd c (by decide))
          refine ii_1 dX2_readTape_63 rfl (by decide) ⟨by decide, by decide⟩ (r32 (by omega) (by omega)) ?_
          refine wp_goto 33 dX2_readTape_66 rfl ?_
          unfold rdP at hQ
          rw [if_neg (by omega), hx] at hQ
          rw [hx] at g
          obtain ⟨g1, g2, g3, g4, g5⟩ := g
          exact ih m' (c + 1) x.1 x.2 h1 (by omega) (by omega) (by omega) (E.tr E1) a1 (by omega) g2 d1 (by omega) hQ

theorem wX2_readTape {G : GT} {δ : Nat} {h hl : Nat → Int → Int} {b : Bool × Bool} {Q : V → Hp → Prop} {N : Int} {T : Int → Int} (hδ : δ ≤ 850) (hN : h 314 1 = N) (hT : h 315 = T) (B : BY T N) (hQ : match rdP (kF T N) (vF T N) 301 0 st0 with | .inl e => (∀ h' : Nat → Int → Int, ReE h h' → h' 314 2 = 1 → h' 314 3 = e.1 → h' 314 4 = pF T N e.2 → Q (vi 0) (HS h' hl b)) | .inr st => (∀ h' : Nat → Int → Int, ReE h h' → h' 314 2 = 1 → h' 314 3 = 0 → h' 314 4 = -1 → DrI h' st → Q (vi 1) (HS h' hl b))) : WP G δ 0 0 MX2_readTape 0 [vr (314), vn] [] (HS h hl b) Q := by
  refine al_0 dX2_readTape_0 ?_
  refine ic_1 dX2_readTape_1 ?_
  refine p_X2_38 dX2_readTape_2 rfl tt314 (by omega) ?_
  refine al_0 dX2_readTape_5 ?_
  refine ic_0 dX2_readTape_6 ?_
  refine p_X2_42 dX2_readTape_7 rfl tt314 ?_
  refine al_0 dX2_readTape_10 ?_
  refine ic_m1 dX2_readTape_11 ?_
  refine p_X2_15 dX2_readTape_12 rfl tt314 ?_
  refine al_0 dX2_readTape_15 ?_
  refine g_X2_22 (316) dX2_readTape_16 rfl tt314 (rr2_5 tt314) (by omega) ?_
  refine c_X2_45 dX2_readTape_19 rfl tt316 (Nat.le_of_ble_eq_true rfl) (by omega) ?_
  refine wX3_empty (by omega) ?_
  obtain ⟨hp, ep⟩ : ∃ hp, hp = up (up (up (up (up (up (up (up h 314 2 1) 314 3 0) 314 4 (-1)) 316 0 0) 316 1 0) 316 2 0) 316 3 (-1)) 316 4 (-1) := ⟨_, rfl⟩
  have Ep : ReE h hp := by
    rw [ep]
    refine ⟨(((((((eqX.rf.up (by decide)).up (by decide)).up (by decide)).up (by decide)).up (by decide)).up (by decide)).up (by decide)).up (by decide), fun k k2 k3 k4 _ _ => ?_⟩
    rw [up_o (by decide), up_o (by decide), up_o (by decide), up_o (by decide), up_o (by decide), up_k k4, up_k k3, up_k k2]
  have p2 : hp 314 2 = 1 := by rw [ep, up_o (by decide), up_o (by decide), up_o (by decide), up_o (by decide), up_o (by decide), up_k (by decide), up_k (by decide), up_s]
  have p3 : hp 314 3 = 0 := by rw [ep, up_o (by decide), up_o (by decide), up_o (by decide), up_o (by decide), up_o (by decide), up_k (by decide), up_s]
  have p4 : hp 314 4 = -1 := by rw [ep, up_o (by decide), up_o (by decide), up_o (by decide), up_o (by decide), up_o (by decide), up_s]
  have s0 : hp 316 0 = 0 := by rw [ep, up_k (by decide), up_k (by decide), up_k (by decide), up_k (by decide), up_s]
  have s2 : hp 316 2 = 0 := by rw [ep, up_k (by decide), up_k (by decide), up_s]
  have s3 : hp 316 3 = -1 := by rw [ep, up_k (by decide), up_s]
  have s4 : hp 316 4 = -1 := by rw [ep, up_s]
  refine pv_n ?_
  rw [← ep]
  refine al_0 dX2_readTape_22 ?_
  refine c_X2_48 dX2_readTape_23 rfl tt314 (Nat.le_of_ble_eq_true rfl) (by omega) ?_
  refine wX2_cut (N := N) (T := T) (by omega) (by rw [Ep.2 1 (by decide) (by decide) (by decide) (by decide) (by decide)]; exact hN) (by rw [Ep.1 315 (by decide)]; exact hT) B (fun h1 n K1 => ?_)
  refine pv_n ?_
  refine al_0 dX2_readTape_26 ?_
  refine ic_0 dX2_readTape_27 ?_
  refine p_X2_51 dX2_readTape_28 rfl tt314 ?_
  refine ic_0 dX2_readTape_31 ?_
  refine is_1 dX2_readTape_32 rfl (by decide) ?_
  obtain ⟨k9, kt, ka, kn, ke, kk⟩ := K1
  obtain ⟨h2, e2⟩ : ∃ h2, h2 = up h1 314 10 0 := ⟨_, rfl⟩
  rw [← e2]
  have b1 : ∀ k : Int, k ≠ 9 → k ≠ 10 → h2 314 k = hp 314 k := fun k a c => by rw [e2, up_k c]; exact kk k a
  have b2 : ∀ o, o ≠ 314 → o ≠ 320 → o ≠ 321 → o ≠ 322 → h2 o = hp o := fun o a c d e => by rw [e2, up_o' a]; exact ke o (by simp; omega)
  have Bb : ClB (kF T N) (vF T N) (pF T N) n h2 := ⟨by rw [e2, up_k (by decide)]; exact k9, fun j j0 j1 => by rw [e2, up_o (by decide), up_o (by decide), up_o (by decide)]; exact ka j j0 j1⟩
  have R2 : ReE h h2 := ⟨Ep.1.tr (fun o ho => by rw [e2, up_o' (fun z => ho (by simp [z]))]; exact ke o (fun z => ho (by revert z; simp; omega))), fun k a2 a3 a4 a9 a10 => by rw [b1 k a9 a10]; exact Ep.2 k a2 a3 a4 a9 a10⟩
  have RF : ∀ {h' : Nat → Int → Int}, RdF h2 h' → ReE h h' ∧ h' 314 2 = 1 := fun {h'} z => ⟨⟨R2.1.tr (z.1.mono (by decide)), fun k a2 a3 a4 a9 a10 => (z.2 k a3 a4 a10).trans (R2.2 k a2 a3 a4 a9 a10)⟩, by rw [z.2 2 (by decide) (by decide) (by decide), b1 2 (by decide) (by decide)]; exact p2⟩
  refine wX2_readTape_33 (h0 := h2) (nT := n) (by omega) Bb kt (fun i _ _ => (kF_R (T := T) (N := N) i).1) _ 301 0 0 st0 h2 (Nat.lt_succ_self _) (by omega) (by omega) RdE.rf (by rw [e2, up_s]) (by omega) (by have := kt.1; omega) ?_ (by show ((0 : Nat) : Int) ≤ 2 * 0; omega) ?_
  · refine ⟨?_, ⟨?_, trivial⟩, ?_, ?_, fun q r hq => by simp [st0] at hq⟩
    · rw [b2 316 (by decide) (by decide) (by decide) (by decide)]; exact s0
    · rw [b2 316 (by decide) (by decide) (by decide) (by decide)]; exact s2
    · rw [b2 316 (by decide) (by decide) (by decide) (by decide)]; exact s3
    · rw [b2 316 (by decide) (by decide) (by decide) (by decide)]; exact s4
  · cases hr : rdP (kF T N) (vF T N) 301 0 st0 with
    | inl e => rw [hr] at hQ; exact fun h' z f p => hQ h' (RF z).1 (RF z).2 f p
    | inr st => rw [hr] at hQ; exact fun h' z d => hQ h' (RF z.f).1 (RF z.f).2 (by rw [z.2.1, b1 3 (by decide) (by decide)]; exact p3) (by rw [z.2.2, b1 4 (by decide) (by decide)]; exact p4) d
