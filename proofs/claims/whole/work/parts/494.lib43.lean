/-! the model's reader comes to the grammar's answer -/
section EQV
variable {K V : Int → Int} {n s : Int} {G : MSt → Prop} {Fl : Int → Int → Prop} {Sc : Int → MCd → Prop}
def rsM (Fl : Int → Int → Prop) (G : MSt → Prop) (r : MRs) : Prop := match r with
  | .inl e => Fl e.1 e.2
  | .inr t => G t
def rsO (Fl : Int → Int → Prop) (G : MSt → Prop) (Sc : Int → MCd → Prop) (i : Int) (P : List Int) (o : Int) (W : MCd) (r : Option MRs) : Prop := match r with
  | some r => rsM Fl G r
  | none => if 0 ≤ opnP P then Fl 1 i else Sc i (setP 1 P o W).2.2
def MGo (K V : Int → Int) (s : Int) (G : MSt → Prop) (Fl : Int → Int → Prop) (Sc : Int → MCd → Prop) : Prop :=
  (∀ i P o W, rsM Fl G (begM K V s i P o W) → G (i, P, o, W, false)) ∧ (∀ i P o W, rsO Fl G Sc i P o W (behM K i P o W) → G (i, P, o, W, true))
def onR (Fl : Int → Int → Prop) (k : Int → MCd → Prop) (r : Res) : Prop := match r with
  | .inl e => Fl e.1 e.2
  | .inr (j, _, M, _) => k j M
theorem onR_thn {k : Int → MCd → Prop} {r : Res} {f : Int → List Int → MCd → DV → Res} (h : onR Fl k (thn r f)) {k' : Int → MCd → Prop} (g : ∀ j C M D, r = .inr (j, C, M, D) → onR Fl k (f j C M D) → k' j M) : onR Fl k' r := by
  rcases r with e | ⟨j, C, M, D⟩
  · exact h
  · exact g j C M D rfl h
/-- what a part's next token isn't -/
def QE (K : Int → Int) (n : Int) (q : Int → Prop) (pr : PF) : Prop := ∀ i u j C M D, 0 ≤ i → i ≤ n - 1 → pr i u = .inr (j, C, M, D) → q (K j)
theorem lpP_E {a b mo : Int} {pr : PF} {q : Int → Prop} (t : TkE K n) (g : PG n pr) (h : QE K n q pr) : ∀ (m : Nat) (j u : Int) (C : List Int) (M : MCd) (D : DV) (j' : Int) (C' : List Int) (M' : MCd) (D' : DV), 0 ≤ j → j ≤ n - 1 → b < 54 → n - j ≤ m → q (K j) → lpP K a b mo pr m j u C M D = .inr (j', C', M', D') → q (K j') ∧ ¬ (a ≤ K j' ∧ K j' ≤ b)
  | 0, j, u, C, M, D, j', C', M', D', j0, j1, b54, jm, qj, e => by omega
  | m + 1, j, u, C, M, D, j', C', M', D', j0, j1, b54, jm, qj, e => by
    unfold lpP at e
    split at e
    · rename_i kj
      have j2 := tk_lt t j1 (by omega)
      cases r : pr (j + 1) (u + C.length) with
      | inl x => rw [r] at e; cases e
      | inr x =>
        obtain ⟨j3, C3, M3, D3⟩ := x
        rw [r] at e
        have z := (g (j + 1) (u + C.length) (by omega) j2).eq r
        exact lpP_E t g h m j3 u _ _ _ j' C' M' D' (by omega) z.2.1 b54 (by omega) (h _ _ _ _ _ _ (by omega) j2 r) e
    · rename_i kj
      cases e
      exact ⟨qj, kj⟩
theorem seqP_E {a b mo : Int} {pr : PF} {q : Int → Prop} (t : TkE K n) (g : PG n pr) (h : QE K n q pr) (b54 : b < 54) : QE K n (fun k => q k ∧ ¬ (a ≤ k ∧ k ≤ b)) (seqP K a b mo pr) := by
  intro i u j C M D i0 i1 e
  unfold seqP at e
  cases r : pr i u with
  | inl x => rw [r] at e; cases e
  | inr x =>
    obtain ⟨j3, C3, M3, D3⟩ := x
    rw [r] at e
    have z := (g i u i0 i1).eq r
    have n1 := t.2.1
    exact lpP_E t g h 300 j3 u _ _ _ j C M D (by omega) z.2.1 b54 (by omega) (h _ _ _ _ _ _ i0 i1 r) e
theorem QE.t {pr : PF} : QE K n (fun _ => True) pr := fun _ _ _ _ _ _ _ _ _ => trivial
theorem QE.mono {pr : PF} {q q' : Int → Prop} (h : QE K n q pr) (m : ∀ k, q k → q' k) : QE K n q' pr := fun i u j C M D a b e => m _ (h i u j C M D a b e)
theorem askP_E {sm : PF} {de : Option PF} {q : Int → Prop} (t : TkE K n) (g : PG n sm) (h : QE K n q sm) (hd : ∀ a, de = some a → QE K n q a) : QE K n q (askP K sm de) := by
  intro i u j C M D i0 i1 e
  unfold askP at e
  split at e
  · rename_i k
    have i2 := tk_lt t i1 (by omega)
    cases de with
    | none => cases e
    | some a =>
      dsimp only at e
      cases r : a (i + 1) u with
      | inl x => rw [r] at e; cases e
      | inr x =>
        obtain ⟨j3, C3, M3, D3⟩ := x
        rw [r] at e
        cases e
        exact hd a rfl _ _ _ _ _ _ (by omega) i2 r
  · cases r : sm i u with
    | inl x => rw [r] at e; cases e
    | inr x =>
      obtain ⟨j3, C3, M3, D3⟩ := x
      rw [r] at e
      have z := (g i u i0 i1).eq r
      dsimp only [thn] at e
      split at e
      · rename_i k
        have j2 := tk_lt t z.2.1 (by omega)
        cases r2 : sm (j3 + 1) (u + C3.length) with
        | inl x => rw [r2] at e; cases e
        | inr x =>
          obtain ⟨j4, C4, M4, D4⟩ := x
          rw [r2] at e
          cases e
          exact h _ _ _ _ _ _ (by omega) j2 r2
      · cases e
/-! what waits above -/
theorem pm_app {A B : List Int} : pm (A ++ B) = pm A ++ pm B := List.map_append
theorem nc_app : ∀ {A B : List Int}, nc (A ++ B) = nc A + nc B
  | [], B => by simp [nc]
  | x :: A, B => by
    show (if bnd x = 7 ∨ x = 20 then 1 else 0) + nc (A ++ B) = (if bnd x = 7 ∨ x = 20 then 1 else 0) + nc A + nc B
    rw [nc_app (A := A) (B := B)]; omega
def hiP (lo : Int) (P : List Int) : Prop := ∀ x ∈ P, lo ≤ bnd x ∧ bnd x ≤ 6
theorem hiP.cons {lo x : Int} {P : List Int} (h : hiP lo (x :: P)) : (lo ≤ bnd x ∧ bnd x ≤ 6) ∧ hiP lo P := ⟨h x List.mem_cons_self, fun y hy => h y (List.mem_cons_of_mem _ hy)⟩
theorem hiP.mono {lo lo' : Int} {P : List Int} (h : hiP lo P) (e : lo' ≤ lo) : hiP lo' P := fun x hx => ⟨Int.le_trans e (h x hx).1, (h x hx).2⟩
theorem hiP.app {lo : Int} {A B : List Int} (h : hiP lo A) (g : hiP lo B) : hiP lo (A ++ B) := fun x hx => by
  rcases List.mem_append.mp hx with z | z
  · exact h x z
  · exact g x z
theorem hiP.one {lo x : Int} (h : lo ≤ bnd x ∧ bnd x ≤ 6) : hiP lo [x] := fun y hy => by
  rw [List.mem_singleton.mp hy]; exact h
theorem hiP.nil {lo : Int} : hiP lo [] := fun _ h => by cases h
theorem setP_hi {lo l : Int} (h1 : l ≤ lo) : ∀ (P1 P : List Int) (o : Int) (W : MCd), hiP lo P1 → setP l (P1 ++ P) o W = setP l P (o - nc P1) (W ++ pm P1)
  | [], P, o, W, h => by simp [nc, pm]
  | x :: P1, P, o, W, h => by
    obtain ⟨hx, hp⟩ := h.cons
    show (if l ≤ bnd x then setP l (P1 ++ P) (if bnd x = 7 ∨ x = 20 then o - 1 else o) (W ++ [(x, 0)]) else (x :: (P1 ++ P), o, W)) = _
    rw [if_pos (by omega), setP_hi h1 P1 P _ _ hp]
    have e1 : (if bnd x = 7 ∨ x = 20 then o - 1 else o) - nc P1 = o - nc (x :: P1) := by
      show _ = o - ((if bnd x = 7 ∨ x = 20 then 1 else 0) + nc P1)
      split <;> omega
    have e2 : W ++ [(x, 0)] ++ pm P1 = W ++ pm (x :: P1) := by rw [List.append_assoc]; rfl
    rw [e1, e2]
theorem setP_st {l o : Int} {P : List Int} {W : MCd} (h : P = [] ∨ bndT P < l) : setP l P o W = (P, o, W) := by
  cases P with
  | nil => rfl
  | cons x P =>
    have e : bnd x < l := by rcases h with z | z; cases z; exact z
    show (if l ≤ bnd x then _ else (x :: P, o, W)) = _
    rw [if_neg (by omega)]
theorem opn_hi {lo : Int} (h1 : 1 ≤ lo) : ∀ (P1 P : List Int), hiP lo P1 → opnP (P1 ++ P) = opnP P
  | [], P, h => rfl
  | x :: P1, P, h => by
    obtain ⟨hx, hp⟩ := h.cons
    show (if 40 ≤ x then x else opnP (P1 ++ P)) = _
    rw [if_neg (by have := bnd_lt (o := x) (by omega); omega), opn_hi h1 P1 P hp]
theorem cmp_hi : ∀ (P1 P : List Int), hiP 5 P1 → cmpB (P1 ++ P) = cmpB P
  | [], P, h => rfl
  | x :: P1, P, h => by
    obtain ⟨hx, hp⟩ := h.cons
    show (if 4 < bnd x then cmpB (P1 ++ P) else _) = _
    rw [if_pos (by omega), cmp_hi P1 P hp]
def PendG (G : MSt → Prop) (lo : Int) (c : Bool) (j : Int) (P : List Int) (o : Int) (Wt : MCd) : Prop := ∀ (P1 : List Int) (o1 : Int) (W1 : MCd), hiP lo P1 → o1 = o + nc P1 → W1 ++ pm P1 = Wt → (c = true → cmpB (P1 ++ P) = true) → G (j, P1 ++ P, o1, W1, true)
/-- the three ways in -/
def FacG (K : Int → Int) (n : Int) (G : MSt → Prop) (Fl : Int → Int → Prop) (o : Int) (fc : PF) : Prop := ∀ i u P W, 0 ≤ i → i ≤ n - 1 → (K i = 28 → ahdB P = false) → onR Fl (fun j M => rsM Fl G (endM K j P o (W ++ M))) (fc i u) → G (i, P, o, W, false)
def SumG (K : Int → Int) (n : Int) (G : MSt → Prop) (Fl : Int → Int → Prop) (lo o : Int) (pr : PF) : Prop := ∀ i u P W, 0 ≤ i → i ≤ n - 1 → (K i = 28 → ahdB P = false) → (P = [] ∨ (bndT P < lo ∧ ¬ hdP P = 41)) → onR Fl (fun j M => PendG G lo false j P o (W ++ M)) (pr i u) → G (i, P, o, W, false)
def AskG (n : Int) (G : MSt → Prop) (Fl : Int → Int → Prop) (lo o : Int) (pr : PF) : Prop := ∀ i u P W, 0 ≤ i → i ≤ n - 1 → ahdB P = true → (lo = 3 ∨ bndT P < lo) → onR Fl (fun j M => PendG G lo true j P o (W ++ M)) (pr i u) → G (i, P, o, W, false)
def ChoG (n : Int) (G : MSt → Prop) (Fl : Int → Int → Prop) (K : Int → Int) (o : Int) (pr : PF) : Prop := ∀ i u P W, 0 ≤ i → i ≤ n - 1 → onR Fl (fun j M => rsM Fl G (endM K j P (o - 1) (W ++ M))) (pr i u) → G (i, 42 :: P, o, W, false)
theorem endM_st {i o : Int} {P : List Int} {W : MCd} (h : P = [] ∨ (bndT P < 7 ∧ ¬ hdP P = 41)) : endM K i P o W = .inr (i, P, o, W, true) := by
  unfold endM
  rw [setP_st (by rcases h with z | z; exact Or.inl z; exact Or.inr z.1)]
  rw [if_neg]
  rcases h with z | z
  · rw [z]; show ¬ (0 : Int) = 41; decide
  · exact z.2
theorem onR.mono {k k' : Int → MCd → Prop} {r : Res} (h : onR Fl k r) (m : ∀ j C M D, r = .inr (j, C, M, D) → k j M → k' j M) : onR Fl k' r := by
  rcases r with e | ⟨j, C, M, D⟩
  · exact h
  · exact m j C M D rfl h
theorem FacG.sum {o : Int} {fc : PF} (h : FacG K n G Fl o fc) : SumG K n G Fl 7 o fc := by
  intro i u P W i0 i1 na hp r
  refine h i u P W i0 i1 na (r.mono fun j C M D _ k => ?_)
  rw [endM_st hp]
  have z := k [] o (W ++ M) hiP.nil (by simp [nc]) (by simp [pm]) (fun e => by cases e)
  exact z
theorem ahd_lo {x : Int} {P : List Int} (h : 4 ≤ bnd x) : ahdB (x :: P) = false := by
  unfold ahdB
  refine decide_eq_false (fun z => ?_)
  have e : hdP (x :: P) = x := rfl
  have l := bnd_lt (o := x) (by omega)
  rw [e] at z
  omega
theorem beh_ar {i o : Int} {P : List Int} {W : MCd} (h : 47 ≤ K i ∧ K i ≤ 50) : behM K i P o W = some (.inr (i + 1, (K i - 41) :: (setP (bnd (K i - 41)) P o W).1, (setP (bnd (K i - 41)) P o W).2.1, (setP (bnd (K i - 41)) P o W).2.2, false)) := by
  have e : btwM K i P = K i - 41 := by unfold btwM; rw [if_pos h]
  unfold behM
  rw [e, if_pos (by omega), if_neg (by rw [bnd_ar h]; split <;> omega)]
/-- the loops of the signs -/
theorem lp_eqv {a b lo o : Int} {pr : PF} (H : MGo K V s G Fl Sc) (t : TkE K n) (g : PG n pr) (h : SumG K n G Fl (lo + 1) o pr) (ab : 47 ≤ a ∧ b ≤ 50) (hb : ∀ k, a ≤ k → k ≤ b → bnd (k - 41) = lo) (lo5 : 5 ≤ lo ∧ lo ≤ 6) {P : List Int} {W : MCd} (top : P = [] ∨ (bndT P < lo ∧ ¬ hdP P = 41)) :
    ∀ (m : Nat) (j u : Int) (C : List Int) (M : MCd) (D : DV) (P1 : List Int) (W1 : MCd), 0 ≤ j → j ≤ n - 1 → n - j ≤ m → hiP lo P1 → nc P1 = 0 → W1 ++ pm P1 = W ++ M → onR Fl (fun j M => PendG G lo false j P o (W ++ M)) (lpP K a b (-41) pr m j u C M D) → G (j, P1 ++ P, o, W1, true)
  | 0, j, u, C, M, D, P1, W1, j0, j1, jm, hp, hn, hw, r => by omega
  | m + 1, j, u, C, M, D, P1, W1, j0, j1, jm, hp, hn, hw, r => by
    unfold lpP at r
    split at r
    · rename_i kj
      have j2 := tk_lt t j1 (by omega)
      have kb := hb (K j) kj.1 kj.2
      refine H.2 j _ o W1 ?_
      rw [beh_ar (by omega), kb]
      have se : setP lo (P1 ++ P) o W1 = (P, o, W ++ M) := by
        rw [setP_hi (Int.le_refl _) P1 P o W1 hp, hn, hw, Int.sub_zero]
        exact setP_st (by rcases top with z | z; exact Or.inl z; exact Or.inr z.1)
      rw [se]
      refine h (j + 1) (u + C.length) _ _ (by omega) j2 (fun _ => ahd_lo (by omega)) (Or.inr ⟨by show bnd (K j - 41) < lo + 1; omega, by show ¬ K j - 41 = 41; omega⟩) (onR_thn r (fun j3 C3 M3 D3 e3 r3 => ?_))
      have z := (g (j + 1) (u + C.length) (by omega) j2).eq e3
      intro P2 o2 W2 hp2 ho2 hw2 _
      have n2 : nc P2 = 0 := by
        have key : ∀ Q : List Int, hiP (lo + 1) Q → nc Q = 0 := by
          intro Q
          induction Q with
          | nil => intro _; rfl
          | cons x Q ih =>
            intro hQ
            obtain ⟨hx, hq⟩ := hQ.cons
            show (if bnd x = 7 ∨ x = 20 then 1 else 0) + nc Q = 0
            rw [if_neg, ih hq]; rfl
            intro z
            rcases z with z | z
            · omega
            · rw [z] at hx; exact absurd hx.1 (by have : bnd 20 = 3 := by decide
                                                  omega)
        exact key P2 hp2
      have zz := lp_eqv H t g h ab hb lo5 top m j3 u _ _ _ (P2 ++ [K j - 41]) W2 (by omega) z.2.1 (by omega) ((hp2.mono (by omega)).app (hiP.one (by omega))) (by
        rw [nc_app, n2]
        show 0 + ((if bnd (K j - 41) = 7 ∨ K j - 41 = 20 then 1 else 0) + 0) = 0
        rw [if_neg (by omega)]; rfl) (by rw [pm_app, ← List.append_assoc, hw2, List.append_assoc, List.append_assoc]; rfl) r3
      rw [List.append_assoc] at zz
      rw [ho2, n2, Int.add_zero]
      exact zz
    · exact r P1 o W1 hp (by omega) hw (fun e => by cases e)
theorem seq_eqv {a b lo o : Int} {pr : PF} (H : MGo K V s G Fl Sc) (t : TkE K n) (g : PG n pr) (h : SumG K n G Fl (lo + 1) o pr) (ab : 47 ≤ a ∧ b ≤ 50) (hb : ∀ k, a ≤ k → k ≤ b → bnd (k - 41) = lo) (lo5 : 5 ≤ lo ∧ lo ≤ 6) : SumG K n G Fl lo o (seqP K a b (-41) pr) := by
  intro i u P W i0 i1 na top r
  refine h i u P W i0 i1 na (by rcases top with z | z; exact Or.inl z; exact Or.inr ⟨by omega, z.2⟩) (onR_thn r (fun j C M D e r2 => ?_))
  have z := (g i u i0 i1).eq e
  have n1 := t.2.1
  intro P1 o1 W1 hp ho hw _
  have key : ∀ Q : List Int, hiP 5 Q → nc Q = 0 := by
    intro Q
    induction Q with
    | nil => intro _; rfl
    | cons x Q ih =>
      intro hQ
      obtain ⟨hx, hq⟩ := hQ.cons
      show (if bnd x = 7 ∨ x = 20 then 1 else 0) + nc Q = 0
      rw [if_neg, ih hq]; rfl
      intro z
      rcases z with z | z
      · omega
      · rw [z] at hx; exact absurd hx.1 (by decide)
  have n0 := key P1 (hp.mono (by omega))
  rw [ho, n0, Int.add_zero]
  exact lp_eqv H t g h ab hb lo5 top 300 j u C M D P1 W1 (by omega) z.2.1 (by omega) (hp.mono (by omega)) n0 hw r2
theorem beh_cp {i o : Int} {P : List Int} {W : MCd} (h : 41 ≤ K i ∧ K i ≤ 46) (ho : opnP P = 42) (hc : cmpB P = false) : behM K i P o W = some (.inr (i + 1, (K i - 31) :: (setP 5 P o W).1, (setP 5 P o W).2.1, (setP 5 P o W).2.2, false)) := by
  have e : btwM K i P = K i - 31 := by unfold btwM; rw [if_neg (by omega), if_neg (fun z => z ho), if_pos hc, if_pos h]
  unfold behM
  rw [e, if_pos (by omega), if_pos (bnd_cm h)]
theorem beh_jn {i o x : Int} {P : List Int} {W : MCd} (h : (K i = 27 ∧ x = 21) ∨ (K i = 26 ∧ x = 22)) (ho : opnP P = 42) (hc : cmpB P = true) : behM K i P o W = some (.inr (i + 1, x :: (setP (bnd x) P o W).1, (setP (bnd x) P o W).2.1, (setP (bnd x) P o W).2.2, false)) := by
  have e : btwM K i P = x := by unfold btwM; rw [if_neg (by omega), if_neg (fun z => z ho), if_neg (by rw [hc]; decide)]; rcases h with z | z; rw [if_pos z.1, z.2]; rw [if_neg (by omega), if_pos z.1, z.2]
  unfold behM
  rw [e, if_pos (by omega), if_neg (by rcases h with z | z <;> rw [z.2] <;> decide)]
theorem btw_no {i : Int} {P : List Int} (h : ¬ (47 ≤ K i ∧ K i ≤ 50)) (g : ¬ opnP P = 42 ∨ (cmpB P = false ∧ ¬ (41 ≤ K i ∧ K i ≤ 46)) ∨ (cmpB P = true ∧ ¬ K i = 27 ∧ ¬ K i = 26)) : btwM K i P = -1 := by
  unfold btwM
  rw [if_neg h]
  by_cases q : opnP P = 42
  · rw [if_neg (fun z => z q)]
    rcases g with g | g | g
    · exact absurd q g
    · rw [if_pos g.1, if_neg g.2]
    · rw [if_neg (by rw [g.1]; decide), if_neg g.2.1, if_neg g.2.2]
  · rw [if_pos q]
theorem beh_no {i o : Int} {P : List Int} {W : MCd} (b : btwM K i P = -1) (p : prtM K i P = -1) : behM K i P o W = none := by
  unfold behM; rw [b, if_neg (by decide), p, if_pos (by decide)]
theorem beh_end {i o : Int} {P : List Int} {W : MCd} (b : btwM K i P = -1) (p : prtM K i P = 0) : behM K i P o W = some (endM K (i + 1) (setP 1 P o W).1.tail ((setP 1 P o W).2.1 - 1) (if opnP P = 44 then (setP 1 P o W).2.2 ++ [(3, 0)] else (setP 1 P o W).2.2)) := by
  unfold behM; rw [b, if_neg (by decide), p, if_neg (by decide), if_pos rfl]
theorem beh_prt {i o x : Int} {P : List Int} {W : MCd} (b : btwM K i P = -1) (p : prtM K i P = x) (x0 : 0 < x) : behM K i P o W = some (.inr (i + 1, x :: (setP 1 P o W).1.tail, (setP 1 P o W).2.1, (setP 1 P o W).2.2, false)) := by
  unfold behM; rw [b, if_neg (by decide), p, if_neg (by omega), if_neg (by omega)]
theorem ahd_o {P : List Int} (h : ahdB P = true) : opnP P = 42 ∧ (40 ≤ hdP P ∨ (1 ≤ bnd (hdP P) ∧ bnd (hdP P) ≤ 3)) := of_decide_eq_true h
theorem ahd_top {P : List Int} (h : ahdB P = true) : bndT P ≤ 3 ∧ ¬ hdP P = 41 ∧ cmpB P = false := by
  obtain ⟨a, b⟩ := ahd_o h
  cases P with
  | nil => exact absurd a (by decide)
  | cons x P =>
    have b' : 40 ≤ x ∨ (1 ≤ bnd x ∧ bnd x ≤ 3) := b
    have a' : (if 40 ≤ x then x else opnP P) = 42 := a
    have c : bnd x ≤ 3 := by
      rcases b' with z | z
      · unfold bnd; rw [if_pos z]; omega
      · exact z.2
    refine ⟨c, ?_, ?_⟩
    · show ¬ x = 41
      intro z; rw [z, if_pos (by decide)] at a'; exact absurd a' (by decide)
    · show (if 4 < bnd x then cmpB P else decide (bnd x = 4)) = false
      rw [if_neg (by omega)]; exact decide_eq_false (by omega)
theorem ahd_c {x : Int} {P : List Int} (h : opnP P = 42) (b : 1 ≤ bnd x ∧ bnd x ≤ 3) : ahdB (x :: P) = true := by
  have l := bnd_lt (o := x) b.1
  refine decide_eq_true ⟨?_, Or.inr b⟩
  show (if 40 ≤ x then x else opnP P) = 42
  rw [if_neg (by omega)]; exact h
/-- what is asked -/
theorem ask_eqv {o : Int} {sm : PF} {de : Option PF} (H : MGo K V s G Fl Sc) (t : TkE K n) (g : PG n sm) (q : QE K n (fun k => ¬ (47 ≤ k ∧ k ≤ 50)) sm) (h : SumG K n G Fl 5 o sm)
    (hd : (de = none ∧ o = 8) ∨ (¬ o = 8 ∧ ∃ a, de = some a ∧ AskG n G Fl 3 (o + 1) a)) : AskG n G Fl 3 o (askP K sm de) := by
  intro i u P W i0 i1 ha _ r
  obtain ⟨a1, a2, a3⟩ := ahd_top ha
  obtain ⟨a4, a5⟩ := ahd_o ha
  unfold askP at r
  split at r
  · rename_i k
    have i2 := tk_lt t i1 (by omega)
    refine H.1 i P o W ?_
    have e : begM K V s i P o W = opdM 20 i P o W := by
      unfold begM
      rw [if_neg (by omega), if_neg (by omega), if_neg (by omega), if_neg (by omega), if_neg (by omega), if_neg (by omega), if_neg (by omega), if_neg (by omega), if_neg (by omega), if_pos ⟨k, ha⟩]
    rw [e]
    unfold opdM
    rcases hd with ⟨d, o8⟩ | ⟨o8, a, d, had⟩
    · rw [if_pos o8]; subst d; exact r
    · rw [if_neg o8]
      subst d
      refine had (i + 1) u _ W (by omega) i2 (ahd_c a4 (by decide)) (Or.inl rfl) (onR_thn r (fun j C M D e r2 => ?_))
      intro P1 o1 W1 hp ho hw hc
      have z := r2 (P1 ++ [20]) o1 W1 (hp.app (hiP.one (by decide))) (by rw [nc_app, show nc [20] = 1 from by decide]; omega) (by rw [pm_app, ← List.append_assoc, hw, List.append_assoc]; rfl) (fun _ => by rw [List.append_assoc]; exact hc rfl)
      rw [List.append_assoc] at z
      exact z
  · rename_i k
    refine h i u P W i0 i1 (fun z => absurd z k) (Or.inr ⟨by omega, a2⟩) (onR_thn r (fun j C M D e r2 => ?_))
    have z := (g i u i0 i1).eq e
    have nq := q i u j C M D i0 i1 e
    intro P1 o1 W1 hp ho hw _
    have cf : cmpB (P1 ++ P) = false := by rw [cmp_hi P1 P hp]; exact a3
    have of : opnP (P1 ++ P) = 42 := by rw [opn_hi (by omega) P1 P hp]; exact a4
    refine H.2 j _ o1 W1 ?_
    split at r2
    · rename_i kj
      have j2 := tk_lt t z.2.1 (by omega)
      rw [beh_cp kj of cf]
      have se : setP 5 (P1 ++ P) o1 W1 = (P, o, W ++ M) := by
        rw [setP_hi (Int.le_refl _) P1 P o1 W1 hp, hw, show o1 - nc P1 = o by omega]
        exact setP_st (Or.inr (by omega))
      rw [se]
      have b4 := bnd_cm kj
      refine h (j + 1) (u + C.length) _ _ (by omega) j2 (fun _ => ahd_lo (by omega)) (Or.inr ⟨by show bnd (K j - 31) < 5; omega, by show ¬ K j - 31 = 41; omega⟩) (onR_thn r2 (fun j3 C3 M3 D3 e3 r3 => ?_))
      intro P2 o2 W2 hp2 ho2 hw2 _
      have n31 : nc [K j - 31] = 0 := by
        show (if bnd (K j - 31) = 7 ∨ K j - 31 = 20 then 1 else 0) + 0 = 0
        rw [if_neg (by omega)]; rfl
      have zz := r3 (P2 ++ [K j - 31]) o2 W2 ((hp2.mono (by omega)).app (hiP.one (by omega))) (by rw [nc_app, n31]; omega) (by rw [pm_app, ← List.append_assoc, hw2, List.append_assoc, List.append_assoc]; rfl) (fun _ => by
        rw [List.append_assoc, cmp_hi P2 _ hp2]
        show (if 4 < bnd (K j - 31) then _ else decide (bnd (K j - 31) = 4)) = true
        rw [if_neg (by omega)]; exact decide_eq_true b4)
      rw [List.append_assoc] at zz
      exact zz
    · rename_i kj
      rw [beh_no (btw_no nq (Or.inr (Or.inl ⟨cf, kj⟩))) (by
        unfold prtM; rw [of, if_neg (by decide), if_pos rfl, if_neg (fun z => by rw [cf] at z; exact absurd z.2 (by decide))])]
      show if 0 ≤ opnP (P1 ++ P) then Fl 1 j else _
      rw [of, if_pos (by decide)]
      exact r2
theorem lpa_eqv {kd lo o x : Int} {pr : PF} (H : MGo K V s G Fl Sc) (t : TkE K n) (g : PG n pr) (h : AskG n G Fl (lo + 1) o pr) (hx : (kd = 27 ∧ x = 21 ∧ lo = 2) ∨ (kd = 26 ∧ x = 22 ∧ lo = 1)) {P : List Int} {W : MCd} (ho : opnP P = 42) (top : bndT P < lo) :
    ∀ (m : Nat) (j u : Int) (C : List Int) (M : MCd) (D : DV) (P1 : List Int) (o1 : Int) (W1 : MCd), 0 ≤ j → j ≤ n - 1 → n - j ≤ m → hiP lo P1 → o1 = o + nc P1 → W1 ++ pm P1 = W ++ M → cmpB (P1 ++ P) = true → onR Fl (fun j M => PendG G lo true j P o (W ++ M)) (lpP K kd kd (x - kd) pr m j u C M D) → G (j, P1 ++ P, o1, W1, true)
  | 0, j, u, C, M, D, P1, o1, W1, j0, j1, jm, hp, hn, hw, hc, r => by omega
  | m + 1, j, u, C, M, D, P1, o1, W1, j0, j1, jm, hp, hn, hw, hc, r => by
    unfold lpP at r
    have bx : bnd x = lo := by rcases hx with z | z <;> rw [z.2.1, z.2.2] <;> decide
    have cx : nc [x] = 0 := by rcases hx with z | z <;> rw [z.2.1] <;> decide
    split at r
    · rename_i kj
      have j2 := tk_lt t j1 (by omega)
      refine H.2 j _ o1 W1 ?_
      rw [beh_jn (x := x) (by omega) (by rw [opn_hi (by omega) P1 P hp]; exact ho) hc, bx]
      have se : setP lo (P1 ++ P) o1 W1 = (P, o, W ++ M) := by
        rw [setP_hi (Int.le_refl _) P1 P o1 W1 hp, hw, show o1 - nc P1 = o by omega]
        exact setP_st (Or.inr top)
      rw [se]
      refine h (j + 1) (u + C.length) _ _ (by omega) j2 (ahd_c ho (by omega)) (Or.inr (by show bnd x < lo + 1; omega)) (onR_thn r (fun j3 C3 M3 D3 e3 r3 => ?_))
      have z := (g (j + 1) (u + C.length) (by omega) j2).eq e3
      intro P2 o2 W2 hp2 ho2 hw2 hc2
      have zz := lpa_eqv H t g h hx ho top m j3 u _ _ _ (P2 ++ [x]) o2 W2 (by omega) z.2.1 (by omega) ((hp2.mono (by omega)).app (hiP.one (by omega))) (by rw [nc_app, cx]; omega) (by
        rw [pm_app, ← List.append_assoc, hw2, List.append_assoc, List.append_assoc, show K j + (x - kd) = x by omega]; rfl) (by rw [List.append_assoc]; exact hc2 rfl) r3
      rw [List.append_assoc] at zz
      exact zz
    · exact r P1 o1 W1 hp hn hw (fun _ => hc)
theorem seqa_eqv {kd lo o x : Int} {pr : PF} (H : MGo K V s G Fl Sc) (t : TkE K n) (g : PG n pr) (h : AskG n G Fl (lo + 1) o pr) (hx : (kd = 27 ∧ x = 21 ∧ lo = 2) ∨ (kd = 26 ∧ x = 22 ∧ lo = 1)) : AskG n G Fl lo o (seqP K kd kd (x - kd) pr) := by
  intro i u P W i0 i1 ha top r
  refine h i u P W i0 i1 ha (by omega) (onR_thn r (fun j C M D e r2 => ?_))
  have z := (g i u i0 i1).eq e
  have n1 := t.2.1
  intro P1 o1 W1 hp ho hw hc
  exact lpa_eqv H t g h hx (ahd_o ha).1 (by omega) 300 j u C M D P1 o1 W1 (by omega) z.2.1 (by omega) (hp.mono (by omega)) ho hw (hc rfl) r2
theorem cho_eqv {o : Int} {ei sm : PF} (H : MGo K V s G Fl Sc) (t : TkE K n) (ge : PG n ei) (gs : PG n sm) (qe : QE K n (fun k => ¬ (47 ≤ k ∧ k ≤ 50) ∧ ¬ k = 27 ∧ ¬ k = 26) ei) (qs : QE K n (fun k => ¬ (47 ≤ k ∧ k ≤ 50)) sm)
    (he : AskG n G Fl 1 o ei) (hs : SumG K n G Fl 5 o sm) : ChoG n G Fl K o (choP K ei sm) := by
  intro i u P W i0 i1 r
  unfold choP at r
  have b42 : bnd 42 = 0 := by decide
  refine he i u (42 :: P) W i0 i1 (decide_eq_true ⟨rfl, Or.inl (by show (40 : Int) ≤ 42; decide)⟩) (Or.inr (by show bnd 42 < 1; omega)) (onR_thn r (fun j C M D e r1 => ?_))
  have z := (ge i u i0 i1).eq e
  obtain ⟨x1, x2, x3⟩ := qe i u j C M D i0 i1 e
  intro P1 o1 W1 hp ho hw hc
  have hc := hc rfl
  have of : opnP (P1 ++ 42 :: P) = 42 := opn_hi (by omega) P1 _ hp
  have bt : btwM K j (P1 ++ 42 :: P) = -1 := btw_no x1 (Or.inr (Or.inr ⟨hc, x2, x3⟩))
  refine H.2 j _ o1 W1 ?_
  split at r1
  · rename_i kj
    have j2 := tk_lt t z.2.1 (by omega)
    have se : setP 1 (P1 ++ 42 :: P) o1 W1 = (42 :: P, o, W ++ M) := by
      rw [setP_hi (Int.le_refl _) P1 _ o1 W1 hp, hw, show o1 - nc P1 = o by omega]
      exact setP_st (Or.inr (by show bnd 42 < 1; omega))
    rw [beh_prt (x := 43) bt (by unfold prtM; rw [of, if_neg (by decide), if_pos rfl, if_pos ⟨kj, hc⟩]) (by decide), se]
    have a43 : ∀ X : List Int, ahdB (43 :: X) = false := fun X => decide_eq_false (fun z => absurd z.1 (by show ¬ (if 40 ≤ (43 : Int) then (43 : Int) else opnP X) = 42; rw [if_pos (by decide)]; decide))
    have a44 : ∀ X : List Int, ahdB (44 :: X) = false := fun X => decide_eq_false (fun z => absurd z.1 (by show ¬ (if 40 ≤ (44 : Int) then (44 : Int) else opnP X) = 42; rw [if_pos (by decide)]; decide))
    refine hs (j + 1) (u + C.length + 2) (43 :: P) _ (by omega) j2 (fun _ => a43 P) (Or.inr ⟨by show bnd 43 < 5; decide, by show ¬ (43 : Int) = 41; decide⟩) (onR_thn r1 (fun j1 C1 M1 D1 e1 r2 => ?_))
    have z1 := (gs (j + 1) (u + C.length + 2) (by omega) j2).eq e1
    have y1 := qs _ _ _ _ _ _ (by omega) j2 e1
    intro P2 o2 W2 hp2 ho2 hw2 _
    have of2 : opnP (P2 ++ 43 :: P) = 43 := opn_hi (by omega) P2 _ hp2
    have bt2 : btwM K j1 (P2 ++ 43 :: P) = -1 := btw_no y1 (Or.inl (by rw [of2]; decide))
    refine H.2 j1 _ o2 W2 ?_
    split at r2
    · rename_i kj1
      have j3 := tk_lt t z1.2.1 (by omega)
      have se2 : setP 1 (P2 ++ 43 :: P) o2 W2 = (43 :: P, o, W ++ M ++ M1) := by
        rw [setP_hi (l := 1) (lo := 5) (by omega) P2 _ o2 W2 hp2, hw2, show o2 - nc P2 = o by omega]
        exact setP_st (Or.inr (by show bnd 43 < 1; decide))
      rw [beh_prt (x := 44) bt2 (by unfold prtM; rw [of2, if_neg (by decide), if_neg (by decide), if_pos rfl, if_pos kj1]) (by decide), se2]
      refine hs (j1 + 1) (u + C.length + 2 + C1.length + 2) (44 :: P) _ (by omega) j3 (fun _ => a44 P) (Or.inr ⟨by show bnd 44 < 5; decide, by show ¬ (44 : Int) = 41; decide⟩) (onR_thn r2 (fun j4 C4 M4 D4 e4 r3 => ?_))
      have z4 := (gs (j1 + 1) (u + C.length + 2 + C1.length + 2) (by omega) j3).eq e4
      have y4 := qs _ _ _ _ _ _ (by omega) j3 e4
      intro P3 o3 W3 hp3 ho3 hw3 _
      have of3 : opnP (P3 ++ 44 :: P) = 44 := opn_hi (by omega) P3 _ hp3
      have bt3 : btwM K j4 (P3 ++ 44 :: P) = -1 := btw_no y4 (Or.inl (by rw [of3]; decide))
      refine H.2 j4 _ o3 W3 ?_
      split at r3
      · rename_i kj4
        have se3 : setP 1 (P3 ++ 44 :: P) o3 W3 = (44 :: P, o, W ++ M ++ M1 ++ M4) := by
          rw [setP_hi (l := 1) (lo := 5) (by omega) P3 _ o3 W3 hp3, hw3, show o3 - nc P3 = o by omega]
          exact setP_st (Or.inr (by show bnd 44 < 1; decide))
        rw [beh_end bt3 (by unfold prtM; rw [of3, if_neg (by decide), if_neg (by decide), if_neg (by decide), if_pos rfl, if_pos kj4]), of3, if_pos rfl, se3]
        show rsM Fl G (endM K (j4 + 1) P (o - 1) (W ++ M ++ M1 ++ M4 ++ [(3, 0)]))
        rw [show W ++ M ++ M1 ++ M4 ++ [(3, 0)] = W ++ (M ++ (M1 ++ (M4 ++ [(3, 0)]))) by simp only [List.append_assoc]]
        exact r3
      · rename_i kj4
        rw [beh_no bt3 (by unfold prtM; rw [of3, if_neg (by decide), if_neg (by decide), if_neg (by decide), if_pos rfl, if_neg kj4])]
        show if 0 ≤ opnP (P3 ++ 44 :: P) then Fl 1 j4 else _
        rw [of3, if_pos (by decide)]
        exact r3
    · rename_i kj1
      rw [beh_no bt2 (by unfold prtM; rw [of2, if_neg (by decide), if_neg (by decide), if_pos rfl, if_neg kj1])]
      show if 0 ≤ opnP (P2 ++ 43 :: P) then Fl 1 j1 else _
      rw [of2, if_pos (by decide)]
      exact r2
  · rename_i kj
    rw [beh_no bt (by unfold prtM; rw [of, if_neg (by decide), if_pos rfl, if_neg (fun z => kj z.1)])]
    show if 0 ≤ opnP (P1 ++ 42 :: P) then Fl 1 j else _
    rw [of, if_pos (by decide)]
    exact r1
theorem ahd_nil {x : Int} {P : List Int} (h : 40 ≤ x) (e : ¬ x = 42) : ahdB (x :: P) = false := decide_eq_false (fun z => e (by
  have a : (if 40 ≤ x then x else opnP P) = 42 := z.1
  rw [if_pos h] at a; exact a))
theorem fac_eqv {o : Int} {rest : Option PF4} (H : MGo K V s G Fl Sc) (t : TkE K n)
    (hd : (rest = none ∧ o = 8) ∨ (¬ o = 8 ∧ ∃ q, rest = some q ∧ (PG n q.1 ∧ PG n q.2.1) ∧ QE K n (fun k => ¬ (47 ≤ k ∧ k ≤ 50)) q.1 ∧ SumG K n G Fl 5 (o + 1) q.1 ∧ FacG K n G Fl (o + 1) q.2.1 ∧ ChoG n G Fl K (o + 1) q.2.2.1)) : FacG K n G Fl o (facP K V s rest) := by
  intro i u P W i0 i1 na r
  refine H.1 i P o W ?_
  unfold facP at r
  unfold begM
  by_cases k40 : K i = 40
  · rw [if_pos k40] at r
    by_cases v : 9999 < V i
    · rw [if_pos v] at r
      rw [if_pos ⟨k40, v⟩]; exact r
    · rw [if_neg v] at r
      rw [if_neg (fun z => v z.2), if_neg (fun z => by omega), if_pos k40]; exact r
  rw [if_neg k40] at r
  rw [if_neg (fun z => k40 z.1)]
  by_cases k10 : K i < 10
  · rw [if_pos k10] at r
    by_cases bad : (s = 0 ∧ K i = 9) ∨ (¬ s = 0 ∧ (K i = 7 ∨ K i = 8))
    · rw [if_pos bad] at r
      rw [if_pos ⟨k10, bad⟩]; exact r
    · rw [if_neg bad] at r
      rw [if_neg (fun z => bad z.2), if_neg k40, if_pos k10]; exact r
  rw [if_neg k10] at r
  rw [if_neg (fun z => k10 z.1), if_neg k40, if_neg k10]
  by_cases ko : K i = 51 ∨ K i = 48 ∨ K i = 21 ∨ K i = 19 ∨ K i = 22
  · rw [if_pos ko] at r
    have i2 := tk_lt t i1 (by omega)
    rcases hd with ⟨d, o8⟩ | ⟨o8, q, d, ⟨gs, gf⟩, qs, hs, hf, hc⟩
    · subst d
      have e : ∀ x, opdM x i P o W = .inl (3, i) := fun x => by unfold opdM; rw [if_pos o8]
      rw [e, e, e, e, e]
      have r' : Fl 3 i := r
      repeat' split
      all_goals first | exact r' | (exfalso; omega)
    · subst d
      have e : ∀ x, opdM x i P o W = .inr (i + 1, x :: P, o + 1, W, false) := fun x => by unfold opdM; rw [if_neg o8]
      rw [e, e, e, e, e]
      have r' : onR Fl (fun j M => rsM Fl G (endM K j P o (W ++ M))) (facO K q.1 q.2.1 q.2.2.1 i u) := r
      clear r
      unfold facO at r'
      by_cases k51 : K i = 51
      · rw [if_pos k51] at r'
        rw [if_pos k51]
        refine hs (i + 1) u (40 :: P) W (by omega) i2 (fun _ => ahd_nil (by decide) (by decide)) (Or.inr ⟨by show bnd 40 < 5; decide, by show ¬ (40 : Int) = 41; decide⟩) (onR_thn r' (fun j C M D e1 r1 => ?_))
        have z := (gs (i + 1) u (by omega) i2).eq e1
        have y := qs _ _ _ _ _ _ (by omega) i2 e1
        intro P1 o1 W1 hp ho hw _
        have of : opnP (P1 ++ 40 :: P) = 40 := opn_hi (by omega) P1 _ hp
        have bt : btwM K j (P1 ++ 40 :: P) = -1 := btw_no y (Or.inl (by rw [of]; decide))
        refine H.2 j _ o1 W1 ?_
        split at r1
        · rename_i kj
          have se : setP 1 (P1 ++ 40 :: P) o1 W1 = (40 :: P, o + 1, W ++ M) := by
            rw [setP_hi (l := 1) (lo := 5) (by omega) P1 _ o1 W1 hp, hw, show o1 - nc P1 = o + 1 by omega]
            exact setP_st (Or.inr (by show bnd 40 < 1; decide))
          rw [beh_end bt (by unfold prtM; rw [of, if_pos rfl, if_pos kj]), of, if_neg (by decide), se]
          show rsM Fl G (endM K (j + 1) P (o + 1 - 1) (W ++ M))
          rw [show o + 1 - 1 = o by omega]
          exact r1
        · rename_i kj
          rw [beh_no bt (by unfold prtM; rw [of, if_pos rfl, if_neg kj])]
          show if 0 ≤ opnP (P1 ++ 40 :: P) then Fl 1 j else _
          rw [of, if_pos (by decide)]
          exact r1
      rw [if_neg k51] at r'
      rw [if_neg k51]
      have un : ∀ (x : Int) (j : Int) (M : MCd), bnd x = 7 → endM K j (x :: P) (o + 1) (W ++ M) = endM K j P o (W ++ (M ++ [(x, 0)])) := fun x j M bx => by
        have e : setP 7 (x :: P) (o + 1) (W ++ M) = setP 7 P o (W ++ (M ++ [(x, 0)])) := by
          show (if 7 ≤ bnd x then setP 7 P (if bnd x = 7 ∨ x = 20 then o + 1 - 1 else o + 1) (W ++ M ++ [(x, 0)]) else _) = _
          rw [if_pos (by omega), if_pos (Or.inl bx), show o + 1 - 1 = o by omega, List.append_assoc]
        unfold endM; rw [e]
      by_cases k48 : K i = 48
      · rw [if_pos k48] at r'
        rw [if_pos k48]
        refine hf (i + 1) u (5 :: P) W (by omega) i2 (fun _ => ahd_lo (by decide)) (onR_thn r' (fun j C M D e1 r1 => ?_))
        rw [un 5 j M (by decide)]; exact r1
      rw [if_neg k48] at r'
      rw [if_neg k48]
      by_cases k19 : K i = 19
      · rw [if_neg (by omega), if_pos k19] at r'
        rw [if_pos k19]
        refine hf (i + 1) u (41 :: P) W (by omega) i2 (fun _ => ahd_nil (by decide) (by decide)) (onR_thn r' (fun j C M D e1 r1 => ?_))
        have z := (gf (i + 1) u (by omega) i2).eq e1
        have e41 : setP 7 (41 :: P) (o + 1) (W ++ M) = (41 :: P, o + 1, W ++ M) := setP_st (Or.inr (by show bnd 41 < 7; decide))
        unfold endM
        rw [e41]
        show rsM Fl G (if hdP (41 :: P) = 41 then (if K j = 20 then .inr (j + 1, 4 :: P, o + 1, W ++ M, false) else .inl (1, j)) else _)
        rw [if_pos (show hdP (41 :: P) = 41 from rfl)]
        split at r1
        · rename_i kj
          rw [if_pos kj]
          refine hf (j + 1) (u + C.length) (4 :: P) (W ++ M) (by omega) (tk_lt t z.2.1 (by omega)) (fun _ => ahd_lo (by decide)) (onR_thn r1 (fun j2 C2 M2 D2 e2 r2 => ?_))
          have := un 4 j2 (M ++ M2) (by decide)
          rw [show W ++ M ++ M2 = W ++ (M ++ M2) by rw [List.append_assoc], this, List.append_assoc]
          exact r2
        · rename_i kj
          rw [if_neg kj]; exact r1
      rw [if_neg k19]
      by_cases k21 : K i = 21
      · rw [if_pos k21] at r'
        rw [if_pos k21]
        refine hf (i + 1) u (2 :: P) W (by omega) i2 (fun _ => ahd_lo (by decide)) (onR_thn r' (fun j C M D e1 r1 => ?_))
        rw [un 2 j M (by decide)]; exact r1
      rw [if_neg k21, if_neg k19] at r'
      rw [if_neg k21, if_pos (by omega)]
      refine hc (i + 1) u P W (by omega) i2 ?_
      rw [show o + 1 - 1 = o by omega]
      exact r'
  · rw [if_neg ko] at r
    rw [if_neg (by omega), if_neg (by omega), if_neg (by omega), if_neg (by omega), if_neg (by omega), if_neg (fun z => by rw [na z.1] at z; exact absurd z.2 (by decide))]
    exact r
/-- all levels -/
theorem lv_eqv (H : MGo K V s G Fl Sc) (t : TkE K n) : ∀ d : Nat, d ≤ 8 → (SumG K n G Fl 5 (8 - d) (lvP K V s d).1 ∧ QE K n (fun k => ¬ (47 ≤ k ∧ k ≤ 50)) (lvP K V s d).1) ∧ FacG K n G Fl (8 - d) (lvP K V s d).2.1 ∧ ChoG n G Fl K (8 - d) (lvP K V s d).2.2.1 ∧ AskG n G Fl 3 (8 - d) (lvP K V s d).2.2.2 ∧ QE K n (fun k => ¬ (47 ≤ k ∧ k ≤ 50)) (lvP K V s d).2.2.2 := by
  have all : ∀ (d : Nat) (rest : Option PF4) (dk : Option PF), PG n (facP K V s rest) → (∀ a, dk = some a → PG n a ∧ QE K n (fun k => ¬ (47 ≤ k ∧ k ≤ 50)) a) → FacG K n G Fl (8 - d) (facP K V s rest) → ((dk = none ∧ (8 - d : Int) = 8) ∨ (¬ (8 - d : Int) = 8 ∧ ∃ a, dk = some a ∧ AskG n G Fl 3 (8 - d + 1) a)) →
      (SumG K n G Fl 5 (8 - d) (seqP K 47 48 (-41) (seqP K 49 50 (-41) (facP K V s rest))) ∧ QE K n (fun k => ¬ (47 ≤ k ∧ k ≤ 50)) (seqP K 47 48 (-41) (seqP K 49 50 (-41) (facP K V s rest)))) ∧ FacG K n G Fl (8 - d) (facP K V s rest) ∧
      ChoG n G Fl K (8 - d) (choP K (seqP K 26 26 (-4) (seqP K 27 27 (-6) (askP K (seqP K 47 48 (-41) (seqP K 49 50 (-41) (facP K V s rest))) dk))) (seqP K 47 48 (-41) (seqP K 49 50 (-41) (facP K V s rest)))) ∧
      AskG n G Fl 3 (8 - d) (askP K (seqP K 47 48 (-41) (seqP K 49 50 (-41) (facP K V s rest))) dk) ∧ QE K n (fun k => ¬ (47 ≤ k ∧ k ≤ 50)) (askP K (seqP K 47 48 (-41) (seqP K 49 50 (-41) (facP K V s rest))) dk) := by
    intro d rest dk gf hk hf hdk
    have gp : PG n (seqP K 49 50 (-41) (facP K V s rest)) := seqP_G t gf (by omega)
    have gs : PG n (seqP K 47 48 (-41) (seqP K 49 50 (-41) (facP K V s rest))) := seqP_G t gp (by omega)
    have ga : PG n (askP K (seqP K 47 48 (-41) (seqP K 49 50 (-41) (facP K V s rest))) dk) := askP_G t gs (fun q e => (hk q e).1)
    have gb : PG n (seqP K 27 27 (-6) (askP K (seqP K 47 48 (-41) (seqP K 49 50 (-41) (facP K V s rest))) dk)) := seqP_G t ga (by omega)
    have ge : PG n (seqP K 26 26 (-4) (seqP K 27 27 (-6) (askP K (seqP K 47 48 (-41) (seqP K 49 50 (-41) (facP K V s rest))) dk))) := seqP_G t gb (by omega)
    have qs : QE K n (fun k => ¬ (47 ≤ k ∧ k ≤ 50)) (seqP K 47 48 (-41) (seqP K 49 50 (-41) (facP K V s rest))) := (seqP_E t gp (seqP_E t gf QE.t (by omega)) (by omega)).mono (fun k z => by omega)
    have sm : SumG K n G Fl 5 (8 - d) (seqP K 47 48 (-41) (seqP K 49 50 (-41) (facP K V s rest))) := seq_eqv H t gp (seq_eqv (lo := 6) H t gf hf.sum (by omega) (fun k a b => by rw [bnd_ar (by omega), if_neg (by omega)]) (by omega)) (by omega) (fun k a b => by rw [bnd_ar (by omega), if_pos (by omega)]) (by omega)
    have ak := ask_eqv (de := dk) H t gs qs sm hdk
    have qa : QE K n (fun k => ¬ (47 ≤ k ∧ k ≤ 50)) (askP K (seqP K 47 48 (-41) (seqP K 49 50 (-41) (facP K V s rest))) dk) := askP_E t gs qs (fun a e => (hk a e).2)
    have qe : QE K n (fun k => ¬ (47 ≤ k ∧ k ≤ 50) ∧ ¬ k = 27 ∧ ¬ k = 26) (seqP K 26 26 (-4) (seqP K 27 27 (-6) (askP K (seqP K 47 48 (-41) (seqP K 49 50 (-41) (facP K V s rest))) dk))) := (seqP_E t gb (seqP_E t ga qa (by omega)) (by omega)).mono (fun k z => by omega)
    have bo := seqa_eqv (kd := 27) (lo := 2) (x := 21) H t ga ak (Or.inl ⟨rfl, rfl, rfl⟩)
    have ei := seqa_eqv (kd := 26) (lo := 1) (x := 22) H t gb bo (Or.inr ⟨rfl, rfl, rfl⟩)
    exact ⟨⟨sm, qs⟩, hf, cho_eqv H t ge gs qe qs ei sm, ak, qa⟩
  intro d
  induction d with
  | zero =>
    intro _
    have gf : PG n (facP K V s none) := facP_G t (fun q e => by cases e)
    exact all 0 none none gf (fun a e => by cases e) (fac_eqv H t (Or.inl ⟨rfl, by omega⟩)) (Or.inl ⟨rfl, by omega⟩)
  | succ d ih =>
    intro d8
    obtain ⟨⟨a, qa⟩, b, c, e, qe⟩ := ih (by omega)
    obtain ⟨g1, g2, g3, g4⟩ := lvP_G (s := s) (V := V) t d
    have eq : (8 - (d : Int)) = 8 - ((d + 1 : Nat) : Int) + 1 := by omega
    rw [eq] at a b c e
    obtain ⟨q, hq⟩ : ∃ q, q = lvP K V s d := ⟨_, rfl⟩
    show (SumG K n G Fl 5 (8 - ((d + 1 : Nat) : Int)) (seqP K 47 48 (-41) (seqP K 49 50 (-41) (facP K V s (some (lvP K V s d))))) ∧ QE K n (fun k => ¬ (47 ≤ k ∧ k ≤ 50)) (seqP K 47 48 (-41) (seqP K 49 50 (-41) (facP K V s (some (lvP K V s d)))))) ∧ FacG K n G Fl (8 - ((d + 1 : Nat) : Int)) (facP K V s (some (lvP K V s d))) ∧
      ChoG n G Fl K (8 - ((d + 1 : Nat) : Int)) (choP K (seqP K 26 26 (-4) (seqP K 27 27 (-6) (askP K (seqP K 47 48 (-41) (seqP K 49 50 (-41) (facP K V s (some (lvP K V s d))))) (some (lvP K V s d).2.2.2)))) (seqP K 47 48 (-41) (seqP K 49 50 (-41) (facP K V s (some (lvP K V s d)))))) ∧
      AskG n G Fl 3 (8 - ((d + 1 : Nat) : Int)) (askP K (seqP K 47 48 (-41) (seqP K 49 50 (-41) (facP K V s (some (lvP K V s d))))) (some (lvP K V s d).2.2.2)) ∧ QE K n (fun k => ¬ (47 ≤ k ∧ k ≤ 50)) (askP K (seqP K 47 48 (-41) (seqP K 49 50 (-41) (facP K V s (some (lvP K V s d))))) (some (lvP K V s d).2.2.2))
    rw [← hq] at a qa b c e qe g1 g2 g3 g4 ⊢
    clear hq ih
    have gf : PG n (facP K V s (some q)) := facP_G t (fun x z => by cases z; exact ⟨g1, g2, g3⟩)
    exact all (d + 1) (some q) (some q.2.2.2) gf (fun x z => by cases z; exact ⟨g4, qe⟩) (fac_eqv H t (Or.inr ⟨by omega, q, rfl, ⟨g1, g2⟩, qa, a, b, c⟩)) (Or.inr ⟨by omega, _, rfl, e⟩)
/-- a whole sum -/
theorem sum_eqv (H : MGo K V s G Fl Sc) (t : TkE K n) {i u : Int} {W : MCd} (i0 : 0 ≤ i) (i1 : i ≤ n - 1) (r : onR Fl (fun j M => Sc j (W ++ M)) ((lvP K V s 8).1 i u)) : G (i, [], 0, W, false) := by
  obtain ⟨⟨a, qa⟩, _⟩ := lv_eqv H t 8 (Nat.le_refl 8)
  rw [show (8 : Int) - ((8 : Nat) : Int) = 0 by decide] at a
  refine a i u [] W i0 i1 (fun _ => rfl) (Or.inl rfl) (r.mono fun j C M D e k => ?_)
  have y := qa _ _ _ _ _ _ i0 i1 e
  intro P1 o1 W1 hp ho hw _
  have of : opnP (P1 ++ []) = -1 := opn_hi (by omega) P1 _ hp
  refine H.2 j _ o1 W1 ?_
  rw [beh_no (btw_no y (Or.inl (by rw [of]; decide))) (by unfold prtM; rw [of, if_neg (by decide), if_neg (by decide), if_neg (by decide), if_neg (by decide)])]
  show if 0 ≤ opnP (P1 ++ []) then Fl 1 j else Sc j (setP 1 (P1 ++ []) o1 W1).2.2
  rw [of, if_neg (by decide), setP_hi (l := 1) (lo := 5) (by omega) P1 _ o1 W1 hp, hw]
  exact k
end EQV
