/-! the picture of a town: the class's objects at t stand for the row R -/
def SPR (h : Nat → Int → Int) (s : Nat) (R : Int → Int) (a n b : Int) : Prop :=
  h s 0 = R a ∧ h s 3 = R n ∧ h s 4 = R (n + 1) ∧ h s 1 = R (n + 2) ∧ h s 2 = R (n + 3) ∧ h s 5 = R (n + 4) ∧
  (∀ p : Int, 0 ≤ p → p < R a → h (s + 1) p = R (n + 5 + 2 * p)) ∧ (∀ p : Int, 0 ≤ p → p < R a → h (s + 2) p = R (n + 6 + 2 * p)) ∧ (∀ k : Int, 0 ≤ k → k < R (n + 4) → h (s + 3) k = R (b + k))
def SV (R : Int → Int) (a n b : Int) : Prop :=
  0 ≤ R a ∧ R a ≤ 4 ∧ 0 ≤ R n ∧ R n ≤ 9999 ∧ 0 ≤ R (n + 1) ∧ R (n + 1) < 30869 ∧ 0 ≤ R (n + 2) ∧ R (n + 2) < 1024 ∧ 0 ≤ R (n + 3) ∧ R (n + 3) ≤ 9 ∧ 0 ≤ R (n + 4) ∧ R (n + 4) ≤ 25 ∧
  (∀ p : Int, 0 ≤ p → p < R a → 0 ≤ R (n + 5 + 2 * p) ∧ R (n + 5 + 2 * p) ≤ 99) ∧ (∀ p : Int, 0 ≤ p → p < R a → 0 ≤ R (n + 6 + 2 * p) ∧ R (n + 6 + 2 * p) ≤ 9999) ∧ (∀ k : Int, 0 ≤ k → k < R (n + 4) → 0 ≤ R (b + k) ∧ R (b + k) < 400000000)
def TD (h : Nat → Int → Int) (o : Nat) (n : Int) (f : Int → Int) : Prop := h o 1 = n ∧ ∀ k : Int, 0 ≤ k → k < n → h (o + 1) k = f k
def TPic (h : Nat → Int → Int) (t : Nat) (R : Int → Int) : Prop :=
  SPR h (t + 1) R 0 8 1253 ∧ TD h (t + 5) (R 0) (fun p => R (21 + p)) ∧ TD h (t + 7) (R 1) (fun d => R (29 + d)) ∧ TD h (t + 9) (R 5) (fun k => R (37 + k)) ∧
  TD h (t + 11) (R 6) (fun k => R (43 + 2 * k) * 2 + R (44 + 2 * k)) ∧ TD h (t + 13) (R 7) (fun k => (R (59 + 3 * k) * 4 + R (60 + 3 * k)) * 10 + R (61 + 3 * k)) ∧
  (h t 7 = R 2 ∧ h t 8 = R 3 ∧ h t 11 = R 4 ∧ 0 ≤ h t 10 ∧ h t 10 < 30) ∧
  ∀ j : Int, 0 ≤ j → j < R 4 → SPR h (t + 36 + 4 * ((h t 10 + j) % 30).toNat) R (83 + 39 * j) (84 + 39 * j) (97 + 39 * j)
def RVn (R : Int → Int) : Prop := (0 ≤ R 0 ∧ R 0 ≤ 4) ∧ (0 ≤ R 1 ∧ R 1 ≤ 8) ∧ (0 ≤ R 2 ∧ R 2 ≤ 4) ∧ (-1 ≤ R 3 ∧ R 3 < R 2) ∧ (0 ≤ R 4 ∧ R 4 ≤ 30) ∧ (0 ≤ R 5 ∧ R 5 ≤ 6) ∧ (0 ≤ R 6 ∧ R 6 ≤ 8) ∧ (0 ≤ R 7 ∧ R 7 ≤ 8)
def RV (R : Int → Int) : Prop := RVn R ∧ SV R 0 8 1253 ∧
  (∀ p : Int, 0 ≤ p → p < R 0 → 0 ≤ R (21 + p) ∧ R (21 + p) ≤ 10) ∧ (∀ p : Int, 0 ≤ p → p < R 0 → 0 ≤ R (25 + p) ∧ R (25 + p) ≤ 99) ∧ (∀ d : Int, 0 ≤ d → d < R 1 → 0 ≤ R (29 + d) ∧ R (29 + d) < 1024) ∧
  (∀ k : Int, 0 ≤ k → k < R 5 → 1 ≤ R (37 + k) ∧ R (37 + k) < 1024) ∧ (∀ k : Int, 0 ≤ k → k < R 6 → 0 ≤ R (43 + 2 * k) ∧ R (43 + 2 * k) < R 0 ∧ 0 ≤ R (44 + 2 * k) ∧ R (44 + 2 * k) ≤ 1) ∧
  (∀ k : Int, 0 ≤ k → k < R 7 → 0 ≤ R (59 + 3 * k) ∧ R (59 + 3 * k) < R 1 ∧ 0 ≤ R (60 + 3 * k) ∧ R (60 + 3 * k) < R 0 ∧ 0 ≤ R (61 + 3 * k) ∧ R (61 + 3 * k) ≤ 9) ∧
  ∀ j : Int, 0 ≤ j → j < R 4 → SV R (83 + 39 * j) (84 + 39 * j) (97 + 39 * j) ∧ R (83 + 39 * j) ≤ R 0
section PIC
variable {h : Nat → Int → Int} {R : Int → Int}
theorem RV.n (V : RV R) : (0 ≤ R 0 ∧ R 0 ≤ 4) ∧ (0 ≤ R 1 ∧ R 1 ≤ 8) ∧ (0 ≤ R 2 ∧ R 2 ≤ 4) ∧ (-1 ≤ R 3 ∧ R 3 < R 2) ∧ (0 ≤ R 4 ∧ R 4 ≤ 30) ∧ (0 ≤ R 5 ∧ R 5 ≤ 6) ∧ (0 ≤ R 6 ∧ R 6 ≤ 8) ∧ (0 ≤ R 7 ∧ R 7 ≤ 8) := V.1
theorem RV.w (V : RV R) : (0 ≤ R 8 ∧ R 8 ≤ 9999) ∧ (0 ≤ R 9 ∧ R 9 < 30869) ∧ (0 ≤ R 10 ∧ R 10 < 1024) ∧ (0 ≤ R 11 ∧ R 11 ≤ 9) ∧ (0 ≤ R 12 ∧ R 12 ≤ 25) := by
  obtain ⟨_, _, a, b, c, d, e, f, g, i, j, k, _⟩ := V.2.1
  exact ⟨⟨a, b⟩, ⟨c, d⟩, ⟨e, f⟩, ⟨g, i⟩, ⟨j, k⟩⟩
theorem RV.oil (V : RV R) : ∀ p : Int, 0 ≤ p → p < R 0 → 0 ≤ R (13 + 2 * p) ∧ R (13 + 2 * p) ≤ 99 := V.2.1.2.2.2.2.2.2.2.2.2.2.2.2.1
theorem RV.wr (V : RV R) : ∀ p : Int, 0 ≤ p → p < R 0 → 0 ≤ R (14 + 2 * p) ∧ R (14 + 2 * p) ≤ 9999 := V.2.1.2.2.2.2.2.2.2.2.2.2.2.2.2.1
theorem RV.bk (V : RV R) : ∀ k : Int, 0 ≤ k → k < R 12 → 0 ≤ R (1253 + k) ∧ R (1253 + k) < 400000000 := V.2.1.2.2.2.2.2.2.2.2.2.2.2.2.2.2
theorem RV.sl (V : RV R) : ∀ p : Int, 0 ≤ p → p < R 0 → 0 ≤ R (21 + p) ∧ R (21 + p) ≤ 10 := V.2.2.1
theorem RV.td (V : RV R) : ∀ p : Int, 0 ≤ p → p < R 0 → 0 ≤ R (25 + p) ∧ R (25 + p) ≤ 99 := V.2.2.2.1
theorem RV.di (V : RV R) : ∀ d : Int, 0 ≤ d → d < R 1 → 0 ≤ R (29 + d) ∧ R (29 + d) < 1024 := V.2.2.2.2.1
theorem RV.st (V : RV R) : ∀ k : Int, 0 ≤ k → k < R 5 → 1 ≤ R (37 + k) ∧ R (37 + k) < 1024 := V.2.2.2.2.2.1
theorem RV.ve (V : RV R) : ∀ k : Int, 0 ≤ k → k < R 6 → 0 ≤ R (43 + 2 * k) ∧ R (43 + 2 * k) < R 0 ∧ 0 ≤ R (44 + 2 * k) ∧ R (44 + 2 * k) ≤ 1 := V.2.2.2.2.2.2.1
theorem RV.sa (V : RV R) : ∀ k : Int, 0 ≤ k → k < R 7 → 0 ≤ R (59 + 3 * k) ∧ R (59 + 3 * k) < R 1 ∧ 0 ≤ R (60 + 3 * k) ∧ R (60 + 3 * k) < R 0 ∧ 0 ≤ R (61 + 3 * k) ∧ R (61 + 3 * k) ≤ 9 := V.2.2.2.2.2.2.2.1
theorem RV.sp (V : RV R) : ∀ j : Int, 0 ≤ j → j < R 4 → SV R (83 + 39 * j) (84 + 39 * j) (97 + 39 * j) ∧ R (83 + 39 * j) ≤ R 0 := V.2.2.2.2.2.2.2.2
theorem TPic.f (P : TPic h 2 R) : (h 3 0 = R 0 ∧ h 3 3 = R 8 ∧ h 3 4 = R 9 ∧ h 3 1 = R 10 ∧ h 3 2 = R 11 ∧ h 3 5 = R 12) ∧ (h 7 1 = R 0 ∧ h 9 1 = R 1 ∧ h 11 1 = R 5 ∧ h 13 1 = R 6 ∧ h 15 1 = R 7) ∧ (h 2 7 = R 2 ∧ h 2 8 = R 3 ∧ h 2 11 = R 4 ∧ 0 ≤ h 2 10 ∧ h 2 10 < 30) := by
  obtain ⟨⟨a, b, c, d, e, f, _⟩, ⟨s, _⟩, ⟨g, _⟩, ⟨i, _⟩, ⟨j, _⟩, ⟨k, _⟩, m, _⟩ := P
  exact ⟨⟨a, b, c, d, e, f⟩, ⟨s, g, i, j, k⟩, m⟩
theorem TPic.oil (P : TPic h 2 R) : ∀ p : Int, 0 ≤ p → p < R 0 → h 4 p = R (13 + 2 * p) := P.1.2.2.2.2.2.2.1
theorem TPic.wr (P : TPic h 2 R) : ∀ p : Int, 0 ≤ p → p < R 0 → h 5 p = R (14 + 2 * p) := P.1.2.2.2.2.2.2.2.1
theorem TPic.bk (P : TPic h 2 R) : ∀ k : Int, 0 ≤ k → k < R 12 → h 6 k = R (1253 + k) := P.1.2.2.2.2.2.2.2.2
theorem TPic.sl (P : TPic h 2 R) : ∀ p : Int, 0 ≤ p → p < R 0 → h 8 p = R (21 + p) := P.2.1.2
theorem TPic.di (P : TPic h 2 R) : ∀ p : Int, 0 ≤ p → p < R 1 → h 10 p = R (29 + p) := P.2.2.1.2
theorem TPic.st (P : TPic h 2 R) : ∀ p : Int, 0 ≤ p → p < R 5 → h 12 p = R (37 + p) := P.2.2.2.1.2
theorem TPic.ve (P : TPic h 2 R) : ∀ k : Int, 0 ≤ k → k < R 6 → h 14 k = R (43 + 2 * k) * 2 + R (44 + 2 * k) := P.2.2.2.2.1.2
theorem TPic.sa (P : TPic h 2 R) : ∀ k : Int, 0 ≤ k → k < R 7 → h 16 k = (R (59 + 3 * k) * 4 + R (60 + 3 * k)) * 10 + R (61 + 3 * k) := P.2.2.2.2.2.1.2
theorem TPic.slA (P : TPic h 2 R) {p : Int} (p0 : 0 ≤ p) (p1 : p < R 0) : tdA h 7 p = R (21 + p) := by
  rw [tdA_i p0 (by rw [P.f.2.1.1]; exact p1)]; exact P.sl p p0 p1
theorem TPic.diA (P : TPic h 2 R) {p : Int} (p0 : 0 ≤ p) (p1 : p < R 1) : tdA h 9 p = R (29 + p) := by
  rw [tdA_i p0 (by rw [P.f.2.1.2.1]; exact p1)]; exact P.di p p0 p1
/-- a picture looks at its own objects alone -/
theorem SPR.c {h' : Nat → Int → Int} {s : Nat} {a n b : Int} (P : SPR h s R a n b) (e : ∀ o, s ≤ o → o ≤ s + 3 → h' o = h o) : SPR h' s R a n b := by
  unfold SPR at *
  rw [e s (by omega) (by omega), e (s + 1) (by omega) (by omega), e (s + 2) (by omega) (by omega), e (s + 3) (by omega) (by omega)]
  exact P
theorem TD.c {h' : Nat → Int → Int} {o : Nat} {n : Int} {f : Int → Int} (P : TD h o n f) (e : ∀ q, o ≤ q → q ≤ o + 1 → h' q = h q) : TD h' o n f := by
  unfold TD at *
  rw [e o (by omega) (by omega), e (o + 1) (by omega) (by omega)]
  exact P
/-- all but the laws' machine (t + 17 .. t + 19) and the scripts (t + 20 .. t + 35) -/
theorem TPic.c {h' : Nat → Int → Int} {t : Nat} (P : TPic h t R) (e : ∀ o, t ≤ o → o ≤ t + 155 → (o ≤ t + 14 ∨ t + 36 ≤ o) → h' o = h o) : TPic h' t R := by
  obtain ⟨a, b, c, d, f, g, i, j⟩ := P
  refine ⟨a.c (fun o h0 h1 => e o (by omega) (by omega) (by omega)), b.c (fun o h0 h1 => e o (by omega) (by omega) (by omega)), c.c (fun o h0 h1 => e o (by omega) (by omega) (by omega)), d.c (fun o h0 h1 => e o (by omega) (by omega) (by omega)), f.c (fun o h0 h1 => e o (by omega) (by omega) (by omega)), g.c (fun o h0 h1 => e o (by omega) (by omega) (by omega)), ?_, ?_⟩
  · rw [e t (by omega) (by omega) (by omega)]; exact i
  · intro k k0 k1
    rw [e t (by omega) (by omega) (by omega)]
    exact (j k k0 k1).c (fun o h0 h1 => e o (by omega) (by omega) (by omega))
end PIC
theorem wX6_atX {G : GT} {δ : Nat} {h h0 hl : Nat → Int → Int} {b : Bool × Bool} {Q : V → Hp → Prop} {o m : Nat} {i : Int} (S : List Nat) (hδ : δ ≤ 1700) (ho : ty TT o = some (.inl 6)) (ha : ty TT (o + 1) = some (.inr (0, m))) (hE : eqX S h0 h) (n1 : o ∉ S) (n2 : o + 1 ∉ S) (hm : m < 100) (s0 : 0 ≤ h0 o 1) (s1 : h0 o 1 ≤ m) (hQ : Q (vi (tdA h0 o i)) (HS h hl b)) : WP G δ 0 0 MX6_at 0 [vr (o), vi i] [] (HS h hl b) Q := by
  have e1 := hE o n1
  have e2 := hE (o + 1) n2
  refine wX6_at hδ ho ha hm (by rw [e1]; exact s0) (by rw [e1]; exact s1) ?_
  refine qv hQ ?_
  unfold tdA
  rw [e1, e2]
/-! what the laws are told -/
def mk (s : Int) (nm : Int → Int) : Int → Int := fun i => if 0 ≤ i ∧ i ≤ 9 ∧ (if s = 0 then i ≠ 9 else i ≠ 7 ∧ i ≠ 8) then nm i else 0
def nB (R : Int → Int) (d p : Int) : Int → Int := fun i => if i = 0 then R 8 else if i = 1 then R (21 + p) else if i = 2 then pc (R 10) else if i = 3 then d else if i = 4 then pc (R (29 + d)) else if i = 5 then R (13 + 2 * p) else if i = 6 then R (14 + 2 * p) else 0
def nF (R : Int → Int) (d p : Int) : Int → Int := fun i => if i = 9 then p else nB R d p i
def nL (R : Int → Int) (d p q : Int) : Int → Int := fun i => if i = 7 then R (21 + q) else if i = 8 then R (13 + 2 * q) else nB R d p i
abbrev Law := Option ((Int → Int) → Int → Int)
abbrev Laws := Int → Int → Law
def fillsV (L : Laws) (R : Int → Int) (t d p : Int) : Int :=
  if 0 ≤ t ∧ t < R 2 then (match L t 1 with
    | none => min (pc (R (29 + d))) 9
    | some D => max 0 (min (D (nF R d p) (R 10)) 9)) else min (pc (R (29 + d))) 9
def oddsV (L : Laws) (R : Int → Int) (d p q : Int) : Int :=
  if 0 ≤ R 3 ∧ R 3 < R 2 then (match L (R 3) 0 with
    | none => R (21 + p)
    | some D => max 0 (min (D (nL R d p q) (R 10)) 10)) else R (21 + p)
theorem fillsV_R {L : Laws} {R : Int → Int} {t d p : Int} : 0 ≤ fillsV L R t d p ∧ fillsV L R t d p ≤ 9 := by
  have := pc_R (x := R (29 + d))
  unfold fillsV
  split
  · split <;> omega
  · omega
/-- the class's code of a law: E the entries, fr its beginning -/
def LawC (E : Int → Int) (s fr : Int) : Law → Prop
  | none => fr = -1
  | some D => 0 ≤ fr ∧ ∃ stop, E stop = 53 ∧ ∀ (nm : Int → Int) (lit : Int), (∀ i, MI (mk s nm i)) → 0 ≤ lit → lit < 1024 → ∃ n, n < 600 ∧ cReach E nm lit n (fr, []) (stop, [D (mk s nm) lit])
/-- the scripts of the town at t -/
def LwC (h : Nat → Int → Int) (t : Nat) (n : Int) (L : Laws) : Prop :=
  ∀ i : Int, 0 ≤ i → i < n → h (t + 20 + 4 * i.toNat) 2 ≤ 600 ∧ LawC (ety h (t + 20 + 4 * i.toNat)) 0 (h (t + 20 + 4 * i.toNat) 3) (L i 0) ∧ LawC (ety h (t + 20 + 4 * i.toNat)) 1 (h (t + 20 + 4 * i.toNat) 4) (L i 1)
theorem mk_F {R : Int → Int} {d p : Int} {nm : Int → Int} (a : ∀ i : Int, 0 ≤ i → i ≤ 6 → nm i = nB R d p i) (c : nm 9 = p) : mk 1 nm = nF R d p := by
  funext i
  unfold mk
  by_cases e : 0 ≤ i ∧ i ≤ 6
  · rw [if_pos (by simp; omega), a i e.1 e.2]
    unfold nF; rw [if_neg (by omega)]
  · by_cases e9 : i = 9
    · subst e9; rw [if_pos (by simp), c]; rfl
    · rw [if_neg (by simp; omega)]
      unfold nF nB
      simp [e9, show i ≠ 0 by omega, show i ≠ 1 by omega, show i ≠ 2 by omega, show i ≠ 3 by omega, show i ≠ 4 by omega, show i ≠ 5 by omega, show i ≠ 6 by omega]
theorem mk_L {R : Int → Int} {d p q : Int} {nm : Int → Int} (a : ∀ i : Int, 0 ≤ i → i ≤ 6 → nm i = nB R d p i) (c : nm 7 = R (21 + q)) (e8 : nm 8 = R (13 + 2 * q)) : mk 0 nm = nL R d p q := by
  funext i
  unfold mk
  by_cases e : 0 ≤ i ∧ i ≤ 6
  · rw [if_pos (by simp; omega), a i e.1 e.2]
    unfold nL; rw [if_neg (by omega), if_neg (by omega)]
  · by_cases e9 : i = 7
    · subst e9; rw [if_pos (by simp), c]; rfl
    · by_cases e10 : i = 8
      · subst e10; rw [if_pos (by simp), e8]; rfl
      · rw [if_neg (by simp; omega)]
        unfold nL nB
        simp [e9, e10, show i ≠ 0 by omega, show i ≠ 1 by omega, show i ≠ 2 by omega, show i ≠ 3 by omega, show i ≠ 4 by omega, show i ≠ 5 by omega, show i ≠ 6 by omega]
theorem nB_R {R : Int → Int} (V : RV R) {d p : Int} (d0 : 0 ≤ d) (d1 : d < R 1) (p0 : 0 ≤ p) (p1 : p < R 0) (i : Int) : MI (nB R d p i) := by
  have a := V.n; have c := V.w; have e := V.oil p p0 p1; have f := V.wr p p0 p1; have g := V.sl p p0 p1
  have x1 := pc_R (x := R 10); have x2 := pc_R (x := R (29 + d))
  unfold nB MI
  repeat' split
  all_goals omega
theorem nF_R {R : Int → Int} (V : RV R) {d p : Int} (d0 : 0 ≤ d) (d1 : d < R 1) (p0 : 0 ≤ p) (p1 : p < R 0) (i : Int) : MI (nF R d p i) := by
  have a := V.n
  unfold nF
  split
  · unfold MI; omega
  · exact nB_R V d0 d1 p0 p1 i
theorem nL_R {R : Int → Int} (V : RV R) {d p q : Int} (d0 : 0 ≤ d) (d1 : d < R 1) (p0 : 0 ≤ p) (p1 : p < R 0) (q0 : 0 ≤ q) (q1 : q < R 0) (i : Int) : MI (nL R d p q i) := by
  have e := V.oil q q0 q1; have g := V.sl q q0 q1
  unfold nL
  split
  · unfold MI; omega
  · split
    · unfold MI; omega
    · exact nB_R V d0 d1 p0 p1 i
theorem LwC.at2 {h : Nat → Int → Int} {n : Int} {L : Laws} (C : LwC h 2 n L) {i : Int} (h0 : 0 ≤ i) (h1 : i < n) : h (22 + 4 * i.toNat) 2 ≤ 600 ∧ LawC (ety h (22 + 4 * i.toNat)) 0 (h (22 + 4 * i.toNat) 3) (L i 0) ∧ LawC (ety h (22 + 4 * i.toNat)) 1 (h (22 + 4 * i.toNat) 4) (L i 1) := C i h0 h1
theorem rr17 {b : Bool × Bool} {i : Int} (h0 : 0 ≤ i) (h1 : i < 4) : RR b 17 i = 22 + 4 * i.toNat := by
  unfold RR; rw [tt17]; dsimp only; rw [if_pos rfl, if_pos ⟨h0, h1⟩]
theorem rr18 {b : Bool × Bool} {i : Int} (h0 : 0 ≤ i) (h1 : i < 30) : RR b 18 i = 38 + 4 * i.toNat := by
  unfold RR; rw [tt18]; dsimp only; rw [if_neg (by decide), if_pos rfl, if_pos ⟨h0, h1⟩]
theorem LawC.some {E : Int → Int} {s fr : Int} {l : Law} (c : LawC E s fr l) (n : fr ≠ -1) : ∃ D, l = some D := by
  cases l with
  | none => exact absurd c n
  | some D => exact ⟨D, rfl⟩
theorem LawC.none {E : Int → Int} {s fr : Int} {l : Law} (c : LawC E s fr l) (n : fr = -1) : l = none := by
  cases l with
  | none => rfl
  | some D => have := c.1; omega
theorem ety_c {h h' : Nat → Int → Int} {o : Nat} (e0 : h' o = h o) (e3 : h' (o + 3) = h (o + 3)) : ety h' o = ety h o := by
  funext i; unfold ety; rw [e0, e3]

theorem wX7_nameAll {G : GT} {δ : Nat} {h hl : Nat → Int → Int} {b : Bool × Bool} {Q : V → Hp → Prop} {d p : Int} {R : Int → Int} (hδ : δ ≤ 1680) (P : TPic h 2 R) (V : RV R) (d0 : 0 ≤ d) (d1 : d < R 1) (p0 : 0 ≤ p) (p1 : p < R 0) (hQ : ∀ h', eqX [20] h h' → (∀ i : Int, 0 ≤ i → i ≤ 6 → h' 20 i = nB R d p i) → Q vn (HS h' hl b)) : WP G δ 0 0 MX7_nameAll 0 [vr (2), vi d, vi p] [] (HS h hl b) Q := by
  obtain ⟨⟨f0, f3, f4, f1, f2, f5⟩, ⟨s7, s9, s11, s13, s15⟩, ⟨g7, g8, g11, g10, g10x⟩⟩ := P.f
  obtain ⟨⟨v0, v0x⟩, ⟨v1, v1x⟩, ⟨v2, v2x⟩, ⟨v3, v3x⟩, ⟨v4, v4x⟩, ⟨v5, v5x⟩, ⟨v6, v6x⟩, ⟨v7, v7x⟩⟩ := V.n
  obtain ⟨⟨w8, w8x⟩, ⟨w9, w9x⟩, ⟨wa, wax⟩, ⟨wb, wbx⟩, ⟨wc, wcx⟩⟩ := V.w
  have vd := V.di d d0 d1
  have pd := P.diA d0 d1
  have ps := P.slA p0 p1
  have po := P.oil p p0 p1
  have pw := P.wr p p0 p1
  refine al_0 dX7_nameAll_0 ?_
  refine g_X7_56 (19) dX7_nameAll_1 rfl tt2 (rr7_12 tt2) (by omega) ?_
  refine g_X7_124 (20) dX7_nameAll_4 rfl tt19 (rr1_0 tt19) (by omega) ?_
  refine ic_0 dX7_nameAll_7 ?_
  refine al_0 dX7_nameAll_8 ?_
  refine g_X7_12 (3) dX7_nameAll_9 rfl tt2 (rr7_0 tt2) (by omega) ?_
  refine g_X7_152 dX7_nameAll_12 rfl tt3 ?_
  refine wp_iastore dX7_nameAll_15 tt20 (by omega) (by omega) ?_
  refine al_0 dX7_nameAll_16 ?_
  refine g_X7_56 (19) dX7_nameAll_17 rfl tt2 (rr7_12 tt2) (by omega) ?_
  refine g_X7_124 (20) dX7_nameAll_20 rfl tt19 (rr1_0 tt19) (by omega) ?_
  refine ic_2 dX7_nameAll_23 ?_
  refine al_0 dX7_nameAll_24 ?_
  refine g_X7_12 (3) dX7_nameAll_25 rfl tt2 (rr7_0 tt2) (by omega) ?_
  refine g_X7_127 dX7_nameAll_28 rfl tt3 ?_
  rw [up_o (o := 20) (q := 3) (by decide)]
  refine c_X7_141 dX7_nameAll_31 rfl (Nat.le_of_ble_eq_true rfl) (by omega) ?_
  refine wJ6_bitCount (by omega) (by omega) ?_
  refine pv_i ?_
  refine wp_iastore dX7_nameAll_34 tt20 (by omega) (by omega) ?_
  refine al_0 dX7_nameAll_35 ?_
  refine g_X7_56 (19) dX7_nameAll_36 rfl tt2 (rr7_12 tt2) (by omega) ?_
  refine g_X7_124 (20) dX7_nameAll_39 rfl tt19 (rr1_0 tt19) (by omega) ?_
  refine ic_3 dX7_nameAll_42 ?_
  refine il_1 dX7_nameAll_43 ?_
  refine wp_iastore dX7_nameAll_44 tt20 (by omega) (by omega) ?_
  refine al_0 dX7_nameAll_45 ?_
  refine g_X7_56 (19) dX7_nameAll_46 rfl tt2 (rr7_12 tt2) (by omega) ?_
  refine g_X7_124 (20) dX7_nameAll_49 rfl tt19 (rr1_0 tt19) (by omega) ?_
  refine ic_4 dX7_nameAll_52 ?_
  refine al_0 dX7_nameAll_53 ?_
  refine g_X7_27 (9) dX7_nameAll_54 rfl tt2 (rr7_2 tt2) (by omega) ?_
  refine il_1 dX7_nameAll_57 ?_
  refine c_X7_116 dX7_nameAll_58 rfl tt9 (Nat.le_of_ble_eq_true rfl) (by omega) ?_
  refine wX6_atX (h0 := h) [20] (by omega) tt9 tt10 (by repeat' first | exact eqX.rf | refine eqX.up ?_ (by decide)) (by decide) (by decide) (by decide) (by omega) (by omega) ?_
  refine pv_i ?_
  refine c_X7_141 dX7_nameAll_61 rfl (Nat.le_of_ble_eq_true rfl) (by omega) ?_
  refine wJ6_bitCount (by omega) (by omega) ?_
  refine pv_i ?_
  refine wp_iastore dX7_nameAll_64 tt20 (by omega) (by omega) ?_
  refine al_0 dX7_nameAll_65 ?_
  refine g_X7_56 (19) dX7_nameAll_66 rfl tt2 (rr7_12 tt2) (by omega) ?_
  refine g_X7_124 (20) dX7_nameAll_69 rfl tt19 (rr1_0 tt19) (by omega) ?_
  refine ic_1 dX7_nameAll_72 ?_
  refine al_0 dX7_nameAll_73 ?_
  refine g_X7_23 (7) dX7_nameAll_74 rfl tt2 (rr7_1 tt2) (by omega) ?_
  refine il_2 dX7_nameAll_77 ?_
  refine c_X7_116 dX7_nameAll_78 rfl tt7 (Nat.le_of_ble_eq_true rfl) (by omega) ?_
  refine wX6_atX (h0 := h) [20] (by omega) tt7 tt8 (by repeat' first | exact eqX.rf | refine eqX.up ?_ (by decide)) (by decide) (by decide) (by decide) (by omega) (by omega) ?_
  refine pv_i ?_
  refine wp_iastore dX7_nameAll_81 tt20 (by omega) (by omega) ?_
  refine al_0 dX7_nameAll_82 ?_
  refine g_X7_56 (19) dX7_nameAll_83 rfl tt2 (rr7_12 tt2) (by omega) ?_
  refine g_X7_124 (20) dX7_nameAll_86 rfl tt19 (rr1_0 tt19) (by omega) ?_
  refine ic_5 dX7_nameAll_89 ?_
  refine al_0 dX7_nameAll_90 ?_
  refine g_X7_12 (3) dX7_nameAll_91 rfl tt2 (rr7_0 tt2) (by omega) ?_
  refine g_X7_100 (4) dX7_nameAll_94 rfl tt3 (rr5_6 tt3) (by omega) ?_
  refine il_2 dX7_nameAll_97 ?_
  refine wp_iaload dX7_nameAll_98 tt4 (by omega) (by omega) ?_
  rw [up_o (o := 20) (q := 4) (by decide)]
  rw [up_o (o := 20) (q := 4) (by decide)]
  rw [up_o (o := 20) (q := 4) (by decide)]
  rw [up_o (o := 20) (q := 4) (by decide)]
  rw [up_o (o := 20) (q := 4) (by decide)]
  refine wp_iastore dX7_nameAll_99 tt20 (by omega) (by omega) ?_
  refine al_0 dX7_nameAll_100 ?_
  refine g_X7_56 (19) dX7_nameAll_101 rfl tt2 (rr7_12 tt2) (by omega) ?_
  refine g_X7_124 (20) dX7_nameAll_104 rfl tt19 (rr1_0 tt19) (by omega) ?_
  refine bi_6 dX7_nameAll_107 ?_
  refine al_0 dX7_nameAll_109 ?_
  refine g_X7_12 (3) dX7_nameAll_110 rfl tt2 (rr7_0 tt2) (by omega) ?_
  refine g_X7_104 (5) dX7_nameAll_113 rfl tt3 (rr5_7 tt3) (by omega) ?_
  refine il_2 dX7_nameAll_116 ?_
  refine wp_iaload dX7_nameAll_117 tt5 (by omega) (by omega) ?_
  rw [up_o (o := 20) (q := 5) (by decide)]
  rw [up_o (o := 20) (q := 5) (by decide)]
  rw [up_o (o := 20) (q := 5) (by decide)]
  rw [up_o (o := 20) (q := 5) (by decide)]
  rw [up_o (o := 20) (q := 5) (by decide)]
  rw [up_o (o := 20) (q := 5) (by decide)]
  refine wp_iastore dX7_nameAll_118 tt20 (by omega) (by omega) ?_
  refine wp_vret dX7_nameAll_119 rfl ?_
  refine hQ _ (eqX.up (eqX.up (eqX.up (eqX.up (eqX.up (eqX.up (eqX.up eqX.rf (by decide)) (by decide)) (by decide)) (by decide)) (by decide)) (by decide)) (by decide)) (fun i i0 i1 => ?_)
  rcases (show i = 0 ∨ i = 1 ∨ i = 2 ∨ i = 3 ∨ i = 4 ∨ i = 5 ∨ i = 6 by omega) with e | e | e | e | e | e | e <;> subst e <;> simp [up, nB, f3, f1, pd, ps, po, pw]

theorem wX7_fillsBy {G : GT} {δ : Nat} {h hl : Nat → Int → Int} {b : Bool × Bool} {Q : V → Hp → Prop} {t d p : Int} {R : Int → Int} {L : Laws} (hδ : δ ≤ 1640) (P : TPic h 2 R) (V : RV R) (C : LwC h 2 (R 2) L) (d0 : 0 ≤ d) (d1 : d < R 1) (p0 : 0 ≤ p) (p1 : p < R 0) (hQ : ∀ h', eqX [19, 20, 21] h h' → Q (vi (fillsV L R t d p)) (HS h' hl b)) : WP G δ 0 0 MX7_fillsBy 0 [vr (2), vi t, vi d, vi p] [] (HS h hl b) Q := by
  obtain ⟨⟨f0, f3, f4, f1, f2, f5⟩, ⟨s7, s9, s11, s13, s15⟩, ⟨g7, g8, g11, g10, g10x⟩⟩ := P.f
  obtain ⟨⟨v0, v0x⟩, ⟨v1, v1x⟩, ⟨v2, v2x⟩, ⟨v3, v3x⟩, ⟨v4, v4x⟩, ⟨v5, v5x⟩, ⟨v6, v6x⟩, ⟨v7, v7x⟩⟩ := V.n
  obtain ⟨⟨w8, w8x⟩, ⟨w9, w9x⟩, ⟨wa, wax⟩, ⟨wb, wbx⟩, ⟨wc, wcx⟩⟩ := V.w
  have vd := V.di d d0 d1
  have pd := P.diA d0 d1
  refine al_0 dX7_fillsBy_0 ?_
  refine il_1 dX7_fillsBy_1 ?_
  refine c_X7_110 dX7_fillsBy_2 rfl tt2 (Nat.le_of_ble_eq_true rfl) (by omega) ?_
  refine wX7_hasText (by omega) ?_
  refine pv_i ?_
  refine wp_if_eq 21 dX7_fillsBy_5 rfl (fun c5 => ?_) (fun c5 => ?_)
  · rw [b2i_0] at c5
    refine al_0 dX7_fillsBy_21 ?_
    refine g_X7_27 (9) dX7_fillsBy_22 rfl tt2 (rr7_2 tt2) (by omega) ?_
    refine il_2 dX7_fillsBy_25 ?_
    refine c_X7_116 dX7_fillsBy_26 rfl tt9 (Nat.le_of_ble_eq_true rfl) (by omega) ?_
    refine wX6_at (by omega) tt9 tt10 (by decide) (by omega) (by omega) ?_
    refine pv_i ?_
    refine c_X7_141 dX7_fillsBy_29 rfl (Nat.le_of_ble_eq_true rfl) (by omega) ?_
    refine wJ6_bitCount (by omega) (by omega) ?_
    refine pv_i ?_
    refine bi_9 dX7_fillsBy_32 ?_
    refine c_X7_146 dX7_fillsBy_34 rfl (by simp) (by omega) ?_
    refine wp_ireti dX7_fillsBy_37 rfl ?_
    refine qv (hQ _ eqX.rf) ?_
    rw [pd]
    unfold fillsV
    first
      | rw [if_neg (by omega)]
      | (rw [if_pos (by omega), ((C.at2 (i := t) (by omega) (by omega)).2.2).none c18])
  · rw [b2i_n0] at c5
    refine al_0 dX7_fillsBy_8 ?_
    refine g_X7_41 (17) dX7_fillsBy_9 rfl tt2 (rr7_6 tt2) (by omega) ?_
    have ts := (tt_scripts t.toNat (by omega)).1
    refine il_1 dX7_fillsBy_12 ?_
    refine wp_aaload (22 + 4 * t.toNat) dX7_fillsBy_13 tt17 (Or.inl rfl) (by omega) (by omega) (rr17 (by omega) (by omega)) (by omega) ?_
    refine g_X7_138 dX7_fillsBy_14 rfl ts ?_
    refine ic_m1 dX7_fillsBy_17 ?_
    refine wp_icmp_ne 38 dX7_fillsBy_18 rfl (fun c18 => ?_) (fun c18 => ?_)
    · refine al_0 dX7_fillsBy_38 ?_
      refine il_2 dX7_fillsBy_39 ?_
      refine il_3 dX7_fillsBy_40 ?_
      refine c_X7_120 dX7_fillsBy_41 rfl tt2 (Nat.le_of_ble_eq_true rfl) (by omega) ?_
      refine wX7_nameAll (by omega) P V d0 d1 p0 p1 (fun h1 E1 N1 => ?_)
      refine pv_n ?_
      refine al_0 dX7_fillsBy_44 ?_
      refine g_X7_56 (19) dX7_fillsBy_45 rfl tt2 (rr7_12 tt2) (by omega) ?_
      refine g_X7_124 (20) dX7_fillsBy_48 rfl tt19 (rr1_0 tt19) (by omega) ?_
      refine bi_9 dX7_fillsBy_51 ?_
      refine il_3 dX7_fillsBy_53 ?_
      refine wp_iastore dX7_fillsBy_54 tt20 (by omega) (by omega) ?_
      obtain ⟨h2, e2⟩ : ∃ h2, h2 = up h1 20 9 p := ⟨_, rfl⟩
      rw [← e2]
      have E2 : eqX [20] h h2 := by rw [e2]; exact E1.up (by decide)
      have N2 : ∀ i : Int, 0 ≤ i → i ≤ 6 → h2 20 i = nB R d p i := fun i i0 i1 => by rw [e2, up_k (by omega)]; exact N1 i i0 i1
      have N9 : h2 20 9 = p := by rw [e2, up_s]
      have k1 := E2 (22 + 4 * t.toNat) (by simp; omega)
      have k3 := E2 3 (by decide)
      refine ic_0 dX7_fillsBy_55 ?_
      refine al_0 dX7_fillsBy_56 ?_
      refine g_X7_56 (19) dX7_fillsBy_57 rfl tt2 (rr7_12 tt2) (by omega) ?_
      refine al_0 dX7_fillsBy_60 ?_
      refine g_X7_41 (17) dX7_fillsBy_61 rfl tt2 (rr7_6 tt2) (by omega) ?_
      refine il_1 dX7_fillsBy_64 ?_
      refine wp_aaload (22 + 4 * t.toNat) dX7_fillsBy_65 tt17 (Or.inl rfl) (by omega) (by omega) (rr17 (by omega) (by omega)) (by omega) ?_
      refine al_0 dX7_fillsBy_66 ?_
      refine g_X7_41 (17) dX7_fillsBy_67 rfl tt2 (rr7_6 tt2) (by omega) ?_
      refine il_1 dX7_fillsBy_70 ?_
      refine wp_aaload (22 + 4 * t.toNat) dX7_fillsBy_71 tt17 (Or.inl rfl) (by omega) (by omega) (rr17 (by omega) (by omega)) (by omega) ?_
      refine g_X7_138 dX7_fillsBy_72 rfl ts ?_
      refine al_0 dX7_fillsBy_75 ?_
      refine g_X7_12 (3) dX7_fillsBy_76 rfl tt2 (rr7_0 tt2) (by omega) ?_
      refine g_X7_127 dX7_fillsBy_79 rfl tt3 ?_
      refine c_X7_130 dX7_fillsBy_82 rfl tt19 (Nat.le_of_ble_eq_true rfl) (by omega) ?_
      rw [k1, k3, f1]
      obtain ⟨lu, _, lc⟩ := C.at2 (i := t) (by omega) (by omega)
      obtain ⟨D, eD⟩ := lc.some c18
      rw [eD] at lc
      obtain ⟨l0, stop, hs, hr⟩ := lc
      have mf := mk_F (R := R) (d := d) (p := p) N2 N9
      obtain ⟨n, hn, hr⟩ := hr (h2 20) (R 10) (fun i => by rw [mf]; exact nF_R V d0 d1 p0 p1 i) wa (by omega)
      rw [mf] at hr
      have ee : ety h2 (22 + 4 * t.toNat) = ety h (22 + 4 * t.toNat) := ety_c k1 (E2 _ (by simp; omega))
      rw [← ee] at hs hr
      refine wX1_value (by omega) ts wa (by omega) (by rw [k1]; exact lu) hs hn hr (fun h3 E3 => ?_)
      refine pv_i ?_
      refine bi_9 dX7_fillsBy_85 ?_
      refine c_X7_134 dX7_fillsBy_87 rfl (Nat.le_of_ble_eq_true rfl) (by omega) ?_
      refine wX8_between (by omega) ?_
      refine pv_i ?_
      refine wp_ireti dX7_fillsBy_90 rfl ?_
      refine qv (hQ _ ((E2.mono (by decide)).tr (E3.mono (by decide)))) ?_
      unfold fillsV
      rw [if_pos (by omega), eD]
    · refine al_0 dX7_fillsBy_21 ?_
      refine g_X7_27 (9) dX7_fillsBy_22 rfl tt2 (rr7_2 tt2) (by omega) ?_
      refine il_2 dX7_fillsBy_25 ?_
      refine c_X7_116 dX7_fillsBy_26 rfl tt9 (Nat.le_of_ble_eq_true rfl) (by omega) ?_
      refine wX6_at (by omega) tt9 tt10 (by decide) (by omega) (by omega) ?_
      refine pv_i ?_
      refine c_X7_141 dX7_fillsBy_29 rfl (Nat.le_of_ble_eq_true rfl) (by omega) ?_
      refine wJ6_bitCount (by omega) (by omega) ?_
      refine pv_i ?_
      refine bi_9 dX7_fillsBy_32 ?_
      refine c_X7_146 dX7_fillsBy_34 rfl (by simp) (by omega) ?_
      refine wp_ireti dX7_fillsBy_37 rfl ?_
      refine qv (hQ _ eqX.rf) ?_
      rw [pd]
      unfold fillsV
      first
        | rw [if_neg (by omega)]
        | (rw [if_pos (by omega), ((C.at2 (i := t) (by omega) (by omega)).2.2).none c18])

theorem wX7_oddsOf {G : GT} {δ : Nat} {h hl : Nat → Int → Int} {b : Bool × Bool} {Q : V → Hp → Prop} {d p q : Int} {R : Int → Int} {L : Laws} (hδ : δ ≤ 1640) (P : TPic h 2 R) (V : RV R) (C : LwC h 2 (R 2) L) (d0 : 0 ≤ d) (d1 : d < R 1) (p0 : 0 ≤ p) (p1 : p < R 0) (q0 : 0 ≤ q) (q1 : q < R 0) (hQ : ∀ h', eqX [19, 20, 21] h h' → Q (vi (oddsV L R d p q)) (HS h' hl b)) : WP G δ 0 0 MX7_oddsOf 0 [vr (2), vi d, vi p, vi q] [] (HS h hl b) Q := by
  obtain ⟨⟨f0, f3, f4, f1, f2, f5⟩, ⟨s7, s9, s11, s13, s15⟩, ⟨g7, g8, g11, g10, g10x⟩⟩ := P.f
  obtain ⟨⟨v0, v0x⟩, ⟨v1, v1x⟩, ⟨v2, v2x⟩, ⟨v3, v3x⟩, ⟨v4, v4x⟩, ⟨v5, v5x⟩, ⟨v6, v6x⟩, ⟨v7, v7x⟩⟩ := V.n
  obtain ⟨⟨w8, w8x⟩, ⟨w9, w9x⟩, ⟨wa, wax⟩, ⟨wb, wbx⟩, ⟨wc, wcx⟩⟩ := V.w
  have ps := P.slA p0 p1
  have qs := P.slA q0 q1
  have qo := P.oil q q0 q1
  have vp := V.sl p p0 p1
  have vq := V.sl q q0 q1
  refine al_0 dX7_oddsOf_0 ?_
  refine al_0 dX7_oddsOf_1 ?_
  refine g_X7_45 dX7_oddsOf_2 rfl tt2 ?_
  rw [g8]
  refine c_X7_110 dX7_oddsOf_5 rfl tt2 (Nat.le_of_ble_eq_true rfl) (by omega) ?_
  refine wX7_hasText (by omega) ?_
  refine pv_i ?_
  refine wp_if_eq 27 dX7_oddsOf_8 rfl (fun c8 => ?_) (fun c8 => ?_)
  · rw [b2i_0] at c8
    refine al_0 dX7_oddsOf_27 ?_
    refine g_X7_23 (7) dX7_oddsOf_28 rfl tt2 (rr7_1 tt2) (by omega) ?_
    refine il_2 dX7_oddsOf_31 ?_
    refine c_X7_116 dX7_oddsOf_32 rfl tt7 (Nat.le_of_ble_eq_true rfl) (by omega) ?_
    refine wX6_at (by omega) tt7 tt8 (by decide) (by omega) (by omega) ?_
    refine pv_i ?_
    refine wp_ireti dX7_oddsOf_35 rfl ?_
    refine qv (hQ _ eqX.rf) ?_
    rw [ps]
    unfold oddsV
    first
      | rw [if_neg (by omega)]
      | (rw [if_pos (by omega), ((C.at2 (i := R 3) (by omega) (by omega)).2.1).none c24])
  · rw [b2i_n0] at c8
    refine al_0 dX7_oddsOf_11 ?_
    refine g_X7_41 (17) dX7_oddsOf_12 rfl tt2 (rr7_6 tt2) (by omega) ?_
    refine al_0 dX7_oddsOf_15 ?_
    refine g_X7_45 dX7_oddsOf_16 rfl tt2 ?_
    rw [g8]
    have ts := (tt_scripts (R 3).toNat (by omega)).1
    refine wp_aaload (22 + 4 * (R 3).toNat) dX7_oddsOf_19 tt17 (Or.inl rfl) (by omega) (by omega) (rr17 (by omega) (by omega)) (by omega) ?_
    refine g_X7_113 dX7_oddsOf_20 rfl ts ?_
    refine ic_m1 dX7_oddsOf_23 ?_
    refine wp_icmp_ne 36 dX7_oddsOf_24 rfl (fun c24 => ?_) (fun c24 => ?_)
    · refine al_0 dX7_oddsOf_36 ?_
      refine il_1 dX7_oddsOf_37 ?_
      refine il_2 dX7_oddsOf_38 ?_
      refine c_X7_120 dX7_oddsOf_39 rfl tt2 (Nat.le_of_ble_eq_true rfl) (by omega) ?_
      refine wX7_nameAll (by omega) P V d0 d1 p0 p1 (fun h1 E1 N1 => ?_)
      refine pv_n ?_
      refine al_0 dX7_oddsOf_42 ?_
      refine g_X7_56 (19) dX7_oddsOf_43 rfl tt2 (rr7_12 tt2) (by omega) ?_
      refine g_X7_124 (20) dX7_oddsOf_46 rfl tt19 (rr1_0 tt19) (by omega) ?_
      refine bi_7 dX7_oddsOf_49 ?_
      refine al_0 dX7_oddsOf_51 ?_
      refine g_X7_23 (7) dX7_oddsOf_52 rfl tt2 (rr7_1 tt2) (by omega) ?_
      refine il_3 dX7_oddsOf_55 ?_
      refine c_X7_116 dX7_oddsOf_56 rfl tt7 (Nat.le_of_ble_eq_true rfl) (by omega) ?_
      refine wX6_atX (h0 := h) [20] (by omega) tt7 tt8 E1 (by decide) (by decide) (by decide) (by omega) (by omega) ?_
      rw [qs]
      refine pv_i ?_
      refine wp_iastore dX7_oddsOf_59 tt20 (by omega) (by omega) ?_
      refine al_0 dX7_oddsOf_60 ?_
      refine g_X7_56 (19) dX7_oddsOf_61 rfl tt2 (rr7_12 tt2) (by omega) ?_
      refine g_X7_124 (20) dX7_oddsOf_64 rfl tt19 (rr1_0 tt19) (by omega) ?_
      refine bi_8 dX7_oddsOf_67 ?_
      refine al_0 dX7_oddsOf_69 ?_
      refine g_X7_12 (3) dX7_oddsOf_70 rfl tt2 (rr7_0 tt2) (by omega) ?_
      refine g_X7_100 (4) dX7_oddsOf_73 rfl tt3 (rr5_6 tt3) (by omega) ?_
      refine il_3 dX7_oddsOf_76 ?_
      refine wp_iaload dX7_oddsOf_77 tt4 (by omega) (by omega) ?_
      rw [show (up h1 20 7 (R (21 + q))) 4 q = R (13 + 2 * q) by rw [up_o (by decide), E1 4 (by decide), qo]]
      refine wp_iastore dX7_oddsOf_78 tt20 (by omega) (by omega) ?_
      obtain ⟨h2, e2⟩ : ∃ h2, h2 = up (up h1 20 7 (R (21 + q))) 20 8 (R (13 + 2 * q)) := ⟨_, rfl⟩
      rw [← e2]
      have E2 : eqX [20] h h2 := by rw [e2]; exact (E1.up (by decide)).up (by decide)
      have N2 : ∀ i : Int, 0 ≤ i → i ≤ 6 → h2 20 i = nB R d p i := fun i i0 i1 => by rw [e2, up_k (by omega), up_k (by omega)]; exact N1 i i0 i1
      have N7 : h2 20 7 = R (21 + q) := by rw [e2, up_k (by decide), up_s]
      have N8 : h2 20 8 = R (13 + 2 * q) := by rw [e2, up_s]
      have k1 := E2 (22 + 4 * (R 3).toNat) (by simp; omega)
      have k3 := E2 3 (by decide)
      refine ic_0 dX7_oddsOf_79 ?_
      refine al_0 dX7_oddsOf_80 ?_
      refine g_X7_56 (19) dX7_oddsOf_81 rfl tt2 (rr7_12 tt2) (by omega) ?_
      refine al_0 dX7_oddsOf_84 ?_
      refine g_X7_41 (17) dX7_oddsOf_85 rfl tt2 (rr7_6 tt2) (by omega) ?_
      refine al_0 dX7_oddsOf_88 ?_
      refine g_X7_45 dX7_oddsOf_89 rfl tt2 ?_
      rw [E2 2 (by decide), g8]
      refine wp_aaload (22 + 4 * (R 3).toNat) dX7_oddsOf_92 tt17 (Or.inl rfl) (by omega) (by omega) (rr17 (by omega) (by omega)) (by omega) ?_
      refine al_0 dX7_oddsOf_93 ?_
      refine g_X7_41 (17) dX7_oddsOf_94 rfl tt2 (rr7_6 tt2) (by omega) ?_
      refine al_0 dX7_oddsOf_97 ?_
      refine g_X7_45 dX7_oddsOf_98 rfl tt2 ?_
      rw [E2 2 (by decide), g8]
      refine wp_aaload (22 + 4 * (R 3).toNat) dX7_oddsOf_101 tt17 (Or.inl rfl) (by omega) (by omega) (rr17 (by omega) (by omega)) (by omega) ?_
      refine g_X7_113 dX7_oddsOf_102 rfl ts ?_
      refine al_0 dX7_oddsOf_105 ?_
      refine g_X7_12 (3) dX7_oddsOf_106 rfl tt2 (rr7_0 tt2) (by omega) ?_
      refine g_X7_127 dX7_oddsOf_109 rfl tt3 ?_
      refine c_X7_130 dX7_oddsOf_112 rfl tt19 (Nat.le_of_ble_eq_true rfl) (by omega) ?_
      rw [k1, k3, f1]
      obtain ⟨lu, lc, _⟩ := C.at2 (i := R 3) (by omega) (by omega)
      obtain ⟨D, eD⟩ := lc.some c24
      rw [eD] at lc
      obtain ⟨l0, stop, hs, hr⟩ := lc
      have mf := mk_L (R := R) (d := d) (p := p) (q := q) N2 N7 N8
      obtain ⟨n, hn, hr⟩ := hr (h2 20) (R 10) (fun i => by rw [mf]; exact nL_R V d0 d1 p0 p1 q0 q1 i) wa (by omega)
      rw [mf] at hr
      have ee : ety h2 (22 + 4 * (R 3).toNat) = ety h (22 + 4 * (R 3).toNat) := ety_c k1 (E2 _ (by simp; omega))
      rw [← ee] at hs hr
      refine wX1_value (by omega) ts wa (by omega) (by rw [k1]; exact lu) hs hn hr (fun h3 E3 => ?_)
      refine pv_i ?_
      refine bi_10 dX7_oddsOf_115 ?_
      refine c_X7_134 dX7_oddsOf_117 rfl (Nat.le_of_ble_eq_true rfl) (by omega) ?_
      refine wX8_between (by omega) ?_
      refine pv_i ?_
      refine wp_ireti dX7_oddsOf_120 rfl ?_
      refine qv (hQ _ ((E2.mono (by decide)).tr (E3.mono (by decide)))) ?_
      unfold oddsV
      rw [if_pos (by omega), eD]
    · refine al_0 dX7_oddsOf_27 ?_
      refine g_X7_23 (7) dX7_oddsOf_28 rfl tt2 (rr7_1 tt2) (by omega) ?_
      refine il_2 dX7_oddsOf_31 ?_
      refine c_X7_116 dX7_oddsOf_32 rfl tt7 (Nat.le_of_ble_eq_true rfl) (by omega) ?_
      refine wX6_at (by omega) tt7 tt8 (by decide) (by omega) (by omega) ?_
      refine pv_i ?_
      refine wp_ireti dX7_oddsOf_35 rfl ?_
      refine qv (hQ _ eqX.rf) ?_
      rw [ps]
      unfold oddsV
      first
        | rw [if_neg (by omega)]
        | (rw [if_pos (by omega), ((C.at2 (i := R 3) (by omega) (by omega)).2.1).none c24])
