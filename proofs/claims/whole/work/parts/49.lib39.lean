/-! the grammar: K the tokens' kinds, V their values; a result: the fault and its token, or the next token, the class's code, the model's, the value -/
abbrev MCd : Type := List (Int × Int)
abbrev DV : Type := (Int → Int) → Int → Int
abbrev Res : Type := (Int × Int) ⊕ (Int × List Int × MCd × DV)
abbrev PF : Type := Int → Int → Res
abbrev PF4 : Type := PF × PF × PF × PF
def thn (r : Res) (f : Int → List Int → MCd → DV → Res) : Res := match r with
  | .inl e => .inl e
  | .inr (j, C, M, D) => f j C M D
def facO (K : Int → Int) (sm fc ch : PF) : PF := fun i u =>
  if K i = 51 then thn (sm (i + 1) u) (fun j C M D => if K j = 52 then .inr (j + 1, C, M, D) else .inl (1, j))
  else if K i = 48 then thn (fc (i + 1) u) (fun j C M D => .inr (j, C ++ [60], M ++ [(5, 0)], fun nm lit => -(D nm lit)))
  else if K i = 21 then thn (fc (i + 1) u) (fun j C M D => .inr (j, C ++ [21], M ++ [(2, 0)], fun nm lit => one 21 (D nm lit) lit))
  else if K i = 19 then thn (fc (i + 1) u) (fun j C M D => if K j = 20 then thn (fc (j + 1) (u + C.length)) (fun j2 C2 M2 D2 => .inr (j2, C ++ (C2 ++ [19]), M ++ (M2 ++ [(4, 0)]), fun nm lit => apI (D nm lit) (D2 nm lit))) else .inl (1, j))
  else ch (i + 1) u
def facP (K V : Int → Int) (s : Int) (rest : Option PF4) : PF := fun i u =>
  if K i = 40 then (if 9999 < V i then .inl (2, i) else .inr (i + 1, [40, V i], [(0, V i)], fun _ _ => V i))
  else if K i < 10 then (if (s = 0 ∧ K i = 9) ∨ (¬ s = 0 ∧ (K i = 7 ∨ K i = 8)) then .inl (5, i) else .inr (i + 1, [K i], [(1, m2c (K i))], fun nm _ => nm (K i)))
  else if K i = 51 ∨ K i = 48 ∨ K i = 21 ∨ K i = 19 ∨ K i = 22 then (match rest with
    | none => .inl (3, i)
    | some q => facO K q.1 q.2.1 q.2.2.1 i u)
  else .inl (1, i)
def lpP (K : Int → Int) (a b mo : Int) (pr : PF) : Nat → Int → Int → List Int → MCd → DV → Res
  | 0, j, _, C, M, D => .inr (j, C, M, D)
  | m + 1, j, u, C, M, D => if a ≤ K j ∧ K j ≤ b then thn (pr (j + 1) (u + C.length)) (fun j2 C2 M2 D2 => lpP K a b mo pr m j2 u (C ++ (C2 ++ [K j])) (M ++ (M2 ++ [(K j + mo, 0)])) (fun nm lit => two (K j) (D nm lit) (D2 nm lit))) else .inr (j, C, M, D)
def seqP (K : Int → Int) (a b mo : Int) (pr : PF) : PF := fun i u => thn (pr i u) (fun j C M D => lpP K a b mo pr 300 j u C M D)
def askP (K : Int → Int) (sm : PF) (deeper : Option PF) : PF := fun i u =>
  if K i = 28 then (match deeper with
    | none => .inl (3, i)
    | some ak => thn (ak (i + 1) u) (fun j C M D => .inr (j, C ++ [28], M ++ [(20, 0)], fun nm lit => one 28 (D nm lit) lit)))
  else thn (sm i u) (fun j C M D => if 41 ≤ K j ∧ K j ≤ 46 then thn (sm (j + 1) (u + C.length)) (fun j2 C2 M2 D2 => .inr (j2, C ++ (C2 ++ [K j]), M ++ (M2 ++ [(K j + -31, 0)]), fun nm lit => two (K j) (D nm lit) (D2 nm lit))) else .inl (1, j))
def choP (K : Int → Int) (ei sm : PF) : PF := fun i u => thn (ei i u) (fun j C M D => if K j = 23 then
    thn (sm (j + 1) (u + C.length + 2)) (fun j1 C1 M1 D1 => if K j1 = 24 then
      thn (sm (j1 + 1) (u + C.length + 2 + C1.length + 2)) (fun j2 C2 M2 D2 => if K j2 = 25 then
        .inr (j2 + 1, C ++ (62 :: (u + C.length + 2 + C1.length + 2) :: (C1 ++ (61 :: (u + C.length + 2 + C1.length + 2 + C2.length) :: C2))), M ++ (M1 ++ (M2 ++ [(3, 0)])), fun nm lit => if D nm lit = 0 then D2 nm lit else D1 nm lit)
      else .inl (1, j2))
    else .inl (1, j1))
  else .inl (1, j))
/-- sum, factor, choice, ask, with so many levels left -/
def lvP (K V : Int → Int) (s : Int) : Nat → PF4
  | 0 => (seqP K 47 48 (-41) (seqP K 49 50 (-41) (facP K V s none)), facP K V s none,
      choP K (seqP K 26 26 (-4) (seqP K 27 27 (-6) (askP K (seqP K 47 48 (-41) (seqP K 49 50 (-41) (facP K V s none))) none))) (seqP K 47 48 (-41) (seqP K 49 50 (-41) (facP K V s none))),
      askP K (seqP K 47 48 (-41) (seqP K 49 50 (-41) (facP K V s none))) none)
  | d + 1 => (seqP K 47 48 (-41) (seqP K 49 50 (-41) (facP K V s (some (lvP K V s d)))), facP K V s (some (lvP K V s d)),
      choP K (seqP K 26 26 (-4) (seqP K 27 27 (-6) (askP K (seqP K 47 48 (-41) (seqP K 49 50 (-41) (facP K V s (some (lvP K V s d))))) (some (lvP K V s d).2.2.2)))) (seqP K 47 48 (-41) (seqP K 49 50 (-41) (facP K V s (some (lvP K V s d))))),
      askP K (seqP K 47 48 (-41) (seqP K 49 50 (-41) (facP K V s (some (lvP K V s d))))) (some (lvP K V s d).2.2.2))
/-! how far it goes -/
def TkE (K : Int → Int) (n : Int) : Prop := 1 ≤ n ∧ n ≤ 301 ∧ K (n - 1) = 54
def RG (n i : Int) (r : Res) : Prop := match r with
  | .inl (_, j) => i ≤ j ∧ j ≤ n - 1
  | .inr (j, C, M, _) => i < j ∧ j ≤ n - 1 ∧ (C.length : Int) ≤ 2 * (j - i) ∧ (M.length : Int) ≤ j - i
def PG (n : Int) (pr : PF) : Prop := ∀ i u, 0 ≤ i → i ≤ n - 1 → RG n i (pr i u)
theorem tk_lt {K : Int → Int} {n j : Int} (t : TkE K n) (h : j ≤ n - 1) (e : ¬ K j = 54) : j + 1 ≤ n - 1 := by
  have := t.2.2
  by_cases q : j = n - 1
  · rw [q] at e; exact absurd this e
  · omega
theorem RG.thn {n i i0 : Int} {r : Res} {f : Int → List Int → MCd → DV → Res} (h : RG n i r) (le : i0 ≤ i) (g : ∀ j C M D, i < j → j ≤ n - 1 → (C.length : Int) ≤ 2 * (j - i) → (M.length : Int) ≤ j - i → r = .inr (j, C, M, D) → RG n i0 (f j C M D)) : RG n i0 (thn r f) := by
  rcases r with e | ⟨j, C, M, D⟩
  · exact ⟨by have := h.1; omega, h.2⟩
  · exact g j C M D h.1 h.2.1 h.2.2.1 h.2.2.2 rfl
theorem RG.l {n i j f : Int} (a : i ≤ j) (b : j ≤ n - 1) : RG n i (.inl (f, j)) := ⟨a, b⟩
theorem RG.r {n i j : Int} {C : List Int} {M : MCd} {D : DV} (a : i < j) (b : j ≤ n - 1) (c : (C.length : Int) ≤ 2 * (j - i)) (d : (M.length : Int) ≤ j - i) : RG n i (.inr (j, C, M, D)) := ⟨a, b, c, d⟩
section RGS
variable {K V : Int → Int} {n s : Int}
theorem RG.up {i i0 : Int} {r : Res} (h : RG n i r) (le : i0 ≤ i) : RG n i0 r := by
  rcases r with ⟨e, j⟩ | ⟨j, C, M, D⟩
  · exact ⟨Int.le_trans le h.1, h.2⟩
  · obtain ⟨a, b, c, d⟩ := h
    exact ⟨by omega, b, by omega, by omega⟩
theorem RG.eq {i j : Int} {C : List Int} {M : MCd} {D : DV} {r : Res} (h : RG n i r) (e : r = .inr (j, C, M, D)) : i < j ∧ j ≤ n - 1 ∧ (C.length : Int) ≤ 2 * (j - i) ∧ (M.length : Int) ≤ j - i := by
  rw [e] at h; exact h
theorem facO_G {sm fc ch : PF} (t : TkE K n) (hs : PG n sm) (hf : PG n fc) (hc : PG n ch) (i u : Int) (i0 : 0 ≤ i) (i1 : i ≤ n - 1) (ne : ¬ K i = 54) : RG n i (facO K sm fc ch i u) := by
  have i2 := tk_lt t i1 ne
  unfold facO
  split
  · refine (hs (i + 1) u (by omega) i2).thn (by omega) (fun j C M D a b c d _ => ?_)
    split
    · exact RG.r (by omega) (tk_lt t b (by omega)) (by omega) (by omega)
    · exact RG.l (by omega) b
  split
  · refine (hf (i + 1) u (by omega) i2).thn (by omega) (fun j C M D a b c d _ => RG.r (by omega) b ?_ ?_)
    · rw [List.length_append]; simp only [List.length_cons, List.length_nil]; omega
    · rw [List.length_append]; simp only [List.length_cons, List.length_nil]; omega
  split
  · refine (hf (i + 1) u (by omega) i2).thn (by omega) (fun j C M D a b c d _ => RG.r (by omega) b ?_ ?_)
    · rw [List.length_append]; simp only [List.length_cons, List.length_nil]; omega
    · rw [List.length_append]; simp only [List.length_cons, List.length_nil]; omega
  split
  · refine (hf (i + 1) u (by omega) i2).thn (by omega) (fun j C M D a b c d _ => ?_)
    split
    · refine (hf (j + 1) _ (by omega) (tk_lt t b (by omega))).thn (by omega) (fun j2 C2 M2 D2 a2 b2 c2 d2 _ => RG.r (by omega) b2 ?_ ?_)
      · simp only [List.length_append, List.length_cons, List.length_nil]; omega
      · simp only [List.length_append, List.length_cons, List.length_nil]; omega
    · exact RG.l (by omega) b
  · exact (hc (i + 1) u (by omega) i2).up (by omega)
theorem facP_G {rest : Option PF4} (t : TkE K n) (h : ∀ q, rest = some q → PG n q.1 ∧ PG n q.2.1 ∧ PG n q.2.2.1) : PG n (facP K V s rest) := by
  intro i u i0 i1
  unfold facP
  split
  · split
    · exact RG.l (by omega) i1
    · refine RG.r (by omega) (tk_lt t i1 (by omega)) ?_ ?_ <;> simp only [List.length_cons, List.length_nil] <;> omega
  split
  · split
    · exact RG.l (by omega) i1
    · refine RG.r (by omega) (tk_lt t i1 (by omega)) ?_ ?_ <;> simp only [List.length_cons, List.length_nil] <;> omega
  split
  · cases rest with
    | none => exact RG.l (by omega) i1
    | some q =>
      obtain ⟨a, b, c⟩ := h q rfl
      exact facO_G t a b c i u i0 i1 (by omega)
  · exact RG.l (by omega) i1
theorem lpP_G {a b mo : Int} {pr : PF} (t : TkE K n) (hp : PG n pr) (hb : b < 54) (i : Int) : ∀ (m : Nat) (j u : Int) (C : List Int) (M : MCd) (D : DV), 0 ≤ i → i < j → j ≤ n - 1 → (C.length : Int) ≤ 2 * (j - i) → (M.length : Int) ≤ j - i → RG n i (lpP K a b mo pr m j u C M D)
  | 0, j, u, C, M, D, i0, i1, i2, i3, i4 => RG.r i1 i2 i3 i4
  | m + 1, j, u, C, M, D, i0, i1, i2, i3, i4 => by
    unfold lpP
    split
    · refine (hp (j + 1) _ (by omega) (tk_lt t i2 (by omega))).thn (by omega) (fun j2 C2 M2 D2 a2 b2 c2 d2 _ => lpP_G t hp hb i m _ _ _ _ _ i0 (by omega) b2 ?_ ?_)
      · simp only [List.length_append, List.length_cons, List.length_nil]; omega
      · simp only [List.length_append, List.length_cons, List.length_nil]; omega
    · exact RG.r i1 i2 i3 i4
theorem seqP_G {a b mo : Int} {pr : PF} (t : TkE K n) (hp : PG n pr) (hb : b < 54) : PG n (seqP K a b mo pr) := fun i u i0 i1 =>
  (hp i u i0 i1).thn (by omega) (fun j C M D a2 b2 c2 d2 _ => lpP_G t hp hb i 300 j u C M D i0 a2 b2 c2 d2)
theorem askP_G {sm : PF} {de : Option PF} (t : TkE K n) (hs : PG n sm) (hd : ∀ q, de = some q → PG n q) : PG n (askP K sm de) := by
  intro i u i0 i1
  unfold askP
  split
  · cases de with
    | none => exact RG.l (by omega) i1
    | some q =>
      refine (hd q rfl (i + 1) u (by omega) (tk_lt t i1 (by omega))).thn (by omega) (fun j C M D a b c d _ => RG.r (by omega) b ?_ ?_)
      · simp only [List.length_append, List.length_cons, List.length_nil]; omega
      · simp only [List.length_append, List.length_cons, List.length_nil]; omega
  · refine (hs i u i0 i1).thn (by omega) (fun j C M D a b c d _ => ?_)
    split
    · refine (hs (j + 1) _ (by omega) (tk_lt t b (by omega))).thn (by omega) (fun j2 C2 M2 D2 a2 b2 c2 d2 _ => RG.r (by omega) b2 ?_ ?_)
      · simp only [List.length_append, List.length_cons, List.length_nil]; omega
      · simp only [List.length_append, List.length_cons, List.length_nil]; omega
    · exact RG.l (by omega) b
theorem choP_G {ei sm : PF} (t : TkE K n) (he : PG n ei) (hs : PG n sm) : PG n (choP K ei sm) := by
  intro i u i0 i1
  unfold choP
  refine (he i u i0 i1).thn (by omega) (fun j C M D a b c d _ => ?_)
  split
  · refine (hs (j + 1) _ (by omega) (tk_lt t b (by omega))).thn (by omega) (fun j1 C1 M1 D1 a1 b1 c1 d1 _ => ?_)
    split
    · refine (hs (j1 + 1) _ (by omega) (tk_lt t b1 (by omega))).thn (by omega) (fun j2 C2 M2 D2 a2 b2 c2 d2 _ => ?_)
      split
      · refine RG.r (by omega) (tk_lt t b2 (by omega)) ?_ ?_
        · simp only [List.length_append, List.length_cons, List.length_nil]; omega
        · simp only [List.length_append, List.length_cons, List.length_nil]; omega
      · exact RG.l (by omega) b2
    · exact RG.l (by omega) b1
  · exact RG.l (by omega) b
theorem lvP_G (t : TkE K n) : ∀ d, PG n (lvP K V s d).1 ∧ PG n (lvP K V s d).2.1 ∧ PG n (lvP K V s d).2.2.1 ∧ PG n (lvP K V s d).2.2.2
  | 0 => by
    have f : PG n (facP K V s none) := facP_G t (fun q e => by cases e)
    have sm := seqP_G (a := 47) (b := 48) (mo := -41) t (seqP_G (a := 49) (b := 50) (mo := -41) t f (by omega)) (by omega)
    have ak := askP_G (de := none) t sm (fun q e => by cases e)
    exact ⟨sm, f, choP_G t (seqP_G t (seqP_G t ak (by omega)) (by omega)) sm, ak⟩
  | d + 1 => by
    obtain ⟨a, b, c, e⟩ := lvP_G t d
    have f : PG n (facP K V s (some (lvP K V s d))) := facP_G t (fun q z => by cases z; exact ⟨a, b, c⟩)
    have sm := seqP_G (a := 47) (b := 48) (mo := -41) t (seqP_G (a := 49) (b := 50) (mo := -41) t f (by omega)) (by omega)
    have ak := askP_G (de := some (lvP K V s d).2.2.2) t sm (fun q z => by cases z; exact e)
    exact ⟨sm, f, choP_G t (seqP_G t (seqP_G t ak (by omega)) (by omega)) sm, ak⟩
end RGS
