/-! every text's codes mean one and the same -/
def TkR (K V : Int → Int) (n : Int) : Prop := ∀ i, 0 ≤ i → i ≤ n - 1 → 0 ≤ K i ∧ 0 ≤ V i
section SEMP
variable {K V : Int → Int} {n s : Int}
theorem SEM.r3 {tf : Bool} {dep : Nat} {u i j : Int} {C : List Int} {M : MCd} {D : DV} {r : Res} (h : SEM s tf dep u r) (e : r = .inr (j, C, M, D)) : SR3 s tf dep u C M D := by
  rw [e] at h; exact h
theorem SR3.at {tf : Bool} {dep : Nat} {u u' : Int} {C : List Int} {M : MCd} {D : DV} (h : SR3 s tf dep u C M D) (e : u = u') : SR3 s tf dep u' C M D := e ▸ h
theorem num_S {dep : Nat} {u x : Int} (x0 : 0 ≤ x) (x1 : x ≤ 9999) (dp : dep ≤ 60) : SR3 s false dep u [40, x] [(0, x)] (fun _ _ => x) := by
  refine ⟨fun nm lit hn => ⟨by show MI x; unfold MI; omega, fun z => by cases z⟩, ?_, ?_⟩
  · intro E nm lit st hE u0 u1 hn hv hl
    obtain ⟨a, c, _⟩ := hE
    simp only [List.length_cons, List.length_nil] at u1 ⊢
    refine ⟨1, by omega, ⟨u0, by dsimp only; omega, by rw [a]; decide, by dsimp only; omega, hv, by rw [a]; exact Or.inl rfl⟩, ?_⟩
    rw [cs_num a, c]
    show _ = _
    congr 1; omega
  · intro T nm lit w st ts hT hn hv ht hl
    rw [if_neg (by decide)]
    obtain ⟨⟨a, c⟩, _⟩ := hT
    refine ⟨⟨by dsimp only; omega, by dsimp only; omega, hv, ht, by rw [a, c]; unfold mAr; left; omega⟩, ?_⟩
    rw [ms_num a, c]
    rfl
theorem nam_S {dep : Nat} {u k : Int} (k0 : 0 ≤ k) (k1 : k < 10) (nb : ¬ ((s = 0 ∧ k = 9) ∨ (¬ s = 0 ∧ (k = 7 ∨ k = 8)))) (dp : dep ≤ 60) : SR3 s false dep u [k] [(1, m2c k)] (fun nm _ => nm k) := by
  have mk_e : ∀ nm : Int → Int, mk s nm k = nm k := fun nm => by
    unfold mk; rw [if_pos]
    refine ⟨k0, by omega, ?_⟩
    split <;> omega
  refine ⟨fun nm lit hn => ⟨hn k, fun z => by cases z⟩, ?_, ?_⟩
  · intro E nm lit st hE u0 u1 hn hv hl
    obtain ⟨a, _⟩ := hE
    simp only [List.length_cons, List.length_nil] at u1 ⊢
    refine ⟨1, by omega, ⟨u0, by dsimp only; omega, by rw [a]; omega, by dsimp only; omega, hv, by rw [a]; exact Or.inr (Or.inl ⟨k0, k1⟩)⟩, ?_⟩
    rw [cs_nam (by rw [a]; exact k0) (by rw [a]; exact k1), a, mk_e]
    show _ = _
    congr 1
  · intro T nm lit w st ts hT hn hv ht hl
    rw [if_neg (by decide)]
    obtain ⟨⟨a, c⟩, _⟩ := hT
    refine ⟨⟨by dsimp only; omega, by dsimp only; omega, hv, ht, ?_⟩, ?_⟩
    · rw [a, c]; unfold mAr m2c; right; left
      split
      · omega
      · split <;> omega
    rw [ms_nam a, c]
    have z := mk_e (fun j => nm (m2c j))
    show (nm (m2c k) :: st, ts) = (mk s (fun j => nm (m2c j)) k :: st, ts)
    rw [z]
theorem apMI {x z : Int} : MI (apI x z) := by have := apI_R (x := x) (z := z); unfold MI; omega
theorem one60_MI {x lit : Int} (h : MI x) : MI (one 60 x lit) := by unfold one; rw [if_pos rfl]; unfold MI at *; omega
theorem one21_MI {x lit : Int} : MI (one 21 x lit) := by unfold one MI; rw [if_neg (by decide), if_pos rfl]; split <;> (try split) <;> omega
theorem one28_01 {x lit : Int} : one 28 x lit = 0 ∨ one 28 x lit = 1 := by unfold one; rw [if_neg (by decide), if_neg (by decide)]; exact b2i_01
theorem two19 {x z : Int} : two 19 x z = apI x z := by
  have e : twoR 19 x z = apI x z := by unfold twoR; rw [if_neg (by decide), if_neg (by decide), if_neg (by decide), if_neg (by decide), if_pos rfl]
  have := apI_R (x := x) (z := z)
  unfold two clipI; rw [e, if_neg (by omega), if_neg (by omega)]
theorem thn_G {i j : Int} {C : List Int} {M : MCd} {D : DV} {pr : PF} {u : Int} (g : PG n pr) (i0 : 0 ≤ i) (i1 : i ≤ n - 1) : RG n i (pr i u) := g i u i0 i1
theorem facO_S {sm fc ch : PF} {dep : Nat} (t : TkE K n) (gs : PG n sm) (gf : PG n fc) (hs : PSm n s false dep sm) (hf : PSm n s false (dep + 1) fc) (hc : PSm n s false dep ch) (dp : dep ≤ 58) (i u : Int) (i0 : 0 ≤ i) (i1 : i ≤ n - 1) (u0 : 0 ≤ u) (ne : ¬ K i = 54) : SEM s false dep u (facO K sm fc ch i u) := by
  have i2 := tk_lt t i1 ne
  have hf' : PSm n s false dep fc := hf.dn (by omega)
  unfold facO
  split
  · refine SEM.thn (gs (i + 1) u (by omega) i2) (hs (i + 1) u (by omega) i2 u0) (fun j C M D a b h => ?_)
    split
    · exact h
    · trivial
  split
  · refine SEM.thn (gf (i + 1) u (by omega) i2) (hf' (i + 1) u (by omega) i2 u0) (fun j C M D a b h => ?_)
    refine ⟨fun nm lit hn => ⟨?_, fun z => by cases z⟩, h.2.1.un (Or.inl rfl) h.1 (fun nm lit _ => by unfold one; rw [if_pos rfl]) (by omega), h.2.2.unV (Or.inl rfl) h.1 (fun nm lit => by rw [if_pos rfl]) (by omega)⟩
    have := (h.1 nm lit hn).1
    show MI (-(D (mk s nm) lit))
    unfold MI at *; omega
  split
  · refine SEM.thn (gf (i + 1) u (by omega) i2) (hf' (i + 1) u (by omega) i2 u0) (fun j C M D a b h => ?_)
    exact ⟨fun nm lit hn => ⟨one21_MI, fun z => by cases z⟩, h.2.1.un (Or.inr (Or.inl rfl)) h.1 (fun nm lit _ => rfl) (by omega), h.2.2.unV (Or.inr rfl) h.1 (fun nm lit => by rw [if_neg (by decide)]) (by omega)⟩
  split
  · refine SEM.thn (gf (i + 1) u (by omega) i2) (hf' (i + 1) u (by omega) i2 u0) (fun j C M D a b h => ?_)
    split
    · have j2 := tk_lt t b (by omega)
      refine SEM.thn (gf (j + 1) (u + C.length) (by omega) j2) (hf (j + 1) (u + C.length) (by omega) j2 (by omega)) (fun j2 C2 M2 D2 a2 b2 h2 => ?_)
      exact ⟨fun nm lit hn => ⟨apMI, fun z => by cases z⟩, SCc.bin (e := 19) (by unfold isTwo; omega) h.2.1 h2.2.1 h.1 h2.1 (fun nm lit _ => two19.symm) (by omega), SMm.binV (Or.inl rfl) h.2.2 h2.2.2 h.1 h2.1 (fun nm lit => by rw [if_pos rfl]) (by omega)⟩
    · trivial
  · exact hc (i + 1) u (by omega) i2 u0
theorem facP_S {rest : Option PF4} {dep : Nat} (t : TkE K n) (r : TkR K V n) (dp : dep ≤ 58) (h : ∀ q, rest = some q → (PG n q.1 ∧ PG n q.2.1) ∧ PSm n s false dep q.1 ∧ PSm n s false (dep + 1) q.2.1 ∧ PSm n s false dep q.2.2.1) : PSm n s false dep (facP K V s rest) := by
  intro i u i0 i1 u0
  have ri := r i i0 i1
  unfold facP
  split
  · split
    · trivial
    · exact num_S ri.2 (by omega) (by omega)
  split
  · split
    · trivial
    · exact nam_S ri.1 (by assumption) (by assumption) (by omega)
  split
  · cases rest with
    | none => trivial
    | some q =>
      obtain ⟨a, b, c, d⟩ := h q rfl
      exact facO_S t a.1 a.2 b c d dp i u i0 i1 u0 (by omega)
  · trivial
theorem two_MI {e x z : Int} : MI (two e x z) := clipI_R _
theorem two01 {e x z : Int} (he : 41 ≤ e ∧ e ≤ 46) : two e x z = 0 ∨ two e x z = 1 := by
  have q := askR (e := e - 31) (x := x) (z := z) (by omega) (by omega)
  rw [show e - 31 + 31 = e by omega] at q
  unfold two; rw [clip01 q]; exact q
theorem twoJ {a c : Int} (ha : a = 0 ∨ a = 1) (hc : c = 0 ∨ c = 1) : two 27 a c = mJoin 21 a c ∧ two 26 a c = mJoin 22 a c := by
  rcases ha with rfl | rfl <;> rcases hc with rfl | rfl <;> decide
/-- the four signs' loops, and the joins' -/
theorem lpP_S {pr : PF} {a b mo : Int} {tf : Bool} {dep : Nat} (t : TkE K n) (g : PG n pr) (h : PSm n s tf (dep + 1) pr) (dp : dep ≤ 58) (u : Int) (u0 : 0 ≤ u)
    (ok : (tf = false ∧ mo = -41 ∧ 47 ≤ a ∧ b ≤ 50) ∨ (tf = true ∧ a = 27 ∧ b = 27 ∧ mo = -6) ∨ (tf = true ∧ a = 26 ∧ b = 26 ∧ mo = -4)) : ∀ (m : Nat) (j : Int) (C : List Int) (M : MCd) (D : DV), 0 ≤ j → j ≤ n - 1 → SR3 s tf dep u C M D → SEM s tf dep u (lpP K a b mo pr m j u C M D)
  | 0, j, C, M, D, j0, j1, q => q
  | m + 1, j, C, M, D, j0, j1, q => by
    unfold lpP
    split
    · rename_i kj
      have j2 := tk_lt t j1 (by omega)
      refine SEM.thn (g (j + 1) _ (by omega) j2) (h (j + 1) (u + C.length) (by omega) j2 (by omega)) (fun j2 C2 M2 D2 a2 b2 q2 => lpP_S t g h dp u u0 ok m j2 _ _ _ (by omega) b2 ?_)
      rcases ok with ⟨e, e1, e2, e3⟩ | ⟨e, e1, e2, e3⟩ | ⟨e, e1, e2, e3⟩
      · subst e; subst e1
        refine ⟨fun nm lit hn => ⟨two_MI, fun z => by cases z⟩, SCc.bin (by unfold isTwo; omega) q.2.1 q2.2.1 q.1 q2.1 (fun nm lit _ => rfl) (by omega), SMm.binV (Or.inr (by omega)) q.2.2 q2.2.2 q.1 q2.1 (fun nm lit => by rw [if_neg (by omega), show K j + -41 + 41 = K j by omega]) (by omega)⟩
      · have e4 : K j = 27 := by omega
        subst e; subst e3
        rw [e4]
        refine ⟨fun nm lit hn => ?_, SCc.bin (by unfold isTwo; omega) q.2.1 q2.2.1 q.1 q2.1 (fun nm lit _ => rfl) (by omega), SMm.binJ (Or.inl (by decide)) q.2.2 q2.2.2 q.1 q2.1 (fun nm lit hn => (twoJ ((q.1 nm lit hn).2 rfl) ((q2.1 nm lit hn).2 rfl)).1) (by omega)⟩
        show MI (two 27 (D (mk s nm) lit) (D2 (mk s nm) lit)) ∧ (true = true → two 27 (D (mk s nm) lit) (D2 (mk s nm) lit) = 0 ∨ two 27 (D (mk s nm) lit) (D2 (mk s nm) lit) = 1)
        rw [(twoJ ((q.1 nm lit hn).2 rfl) ((q2.1 nm lit hn).2 rfl)).1]
        exact ⟨MI_b mJoin_R, fun _ => mJoin_R⟩
      · have e4 : K j = 26 := by omega
        subst e; subst e3
        rw [e4]
        refine ⟨fun nm lit hn => ?_, SCc.bin (by unfold isTwo; omega) q.2.1 q2.2.1 q.1 q2.1 (fun nm lit _ => rfl) (by omega), SMm.binJ (Or.inr (by decide)) q.2.2 q2.2.2 q.1 q2.1 (fun nm lit hn => (twoJ ((q.1 nm lit hn).2 rfl) ((q2.1 nm lit hn).2 rfl)).2) (by omega)⟩
        show MI (two 26 (D (mk s nm) lit) (D2 (mk s nm) lit)) ∧ (true = true → two 26 (D (mk s nm) lit) (D2 (mk s nm) lit) = 0 ∨ two 26 (D (mk s nm) lit) (D2 (mk s nm) lit) = 1)
        rw [(twoJ ((q.1 nm lit hn).2 rfl) ((q2.1 nm lit hn).2 rfl)).2]
        exact ⟨MI_b mJoin_R, fun _ => mJoin_R⟩
    · exact q
theorem seqP_S {pr : PF} {a b mo : Int} {tf : Bool} {dep : Nat} (t : TkE K n) (g : PG n pr) (h : PSm n s tf (dep + 1) pr) (dp : dep ≤ 58)
    (ok : (tf = false ∧ mo = -41 ∧ 47 ≤ a ∧ b ≤ 50) ∨ (tf = true ∧ a = 27 ∧ b = 27 ∧ mo = -6) ∨ (tf = true ∧ a = 26 ∧ b = 26 ∧ mo = -4)) : PSm n s tf dep (seqP K a b mo pr) := fun i u i0 i1 u0 =>
  SEM.thn (g i u i0 i1) ((h.dn (Nat.le_succ dep)) i u i0 i1 u0) (fun j C M D a2 b2 q => lpP_S t g h dp u u0 ok 300 j C M D (by omega) b2 q)
theorem askP_S {sm : PF} {de : Option PF} {dep : Nat} (t : TkE K n) (gs : PG n sm) (hs : PSm n s false (dep + 1) sm) (dp : dep ≤ 58) (hd : ∀ q, de = some q → PG n q ∧ PSm n s true dep q) : PSm n s true dep (askP K sm de) := by
  intro i u i0 i1 u0
  unfold askP
  split
  · have i2 := tk_lt t i1 (by omega)
    cases de with
    | none => trivial
    | some q =>
      obtain ⟨g, h⟩ := hd q rfl
      refine SEM.thn (g (i + 1) u (by omega) i2) (h (i + 1) u (by omega) i2 u0) (fun j C M D a b h => ?_)
      exact ⟨fun nm lit hn => ⟨MI_b one28_01, fun _ => one28_01⟩, h.2.1.un (Or.inr (Or.inr rfl)) h.1 (fun nm lit _ => rfl) (by omega), h.2.2.unN h.1 (fun nm lit => rfl) (by omega)⟩
  · refine SEM.thn (gs i u i0 i1) ((hs.dn (Nat.le_succ dep)) i u i0 i1 u0) (fun j C M D a b h => ?_)
    split
    · rename_i kj
      have j2 := tk_lt t b (by omega)
      refine SEM.thn (gs (j + 1) _ (by omega) j2) (hs (j + 1) (u + C.length) (by omega) j2 (by omega)) (fun j2 C2 M2 D2 a2 b2 h2 => ?_)
      exact ⟨fun nm lit hn => ⟨two_MI, fun _ => two01 kj⟩, SCc.bin (by unfold isTwo; omega) h.2.1 h2.2.1 h.1 h2.1 (fun nm lit _ => rfl) (by omega), SMm.binA (by omega) h.2.2 h2.2.2 h.1 h2.1 (fun nm lit => by rw [show K j + -31 + 31 = K j by omega]) (by omega)⟩
    · trivial
theorem choP_S {ei sm : PF} {dep : Nat} (t : TkE K n) (ge : PG n ei) (gs : PG n sm) (he : PSm n s true dep ei) (hs : PSm n s false (dep + 2) sm) (dp : dep ≤ 56) : PSm n s false dep (choP K ei sm) := by
  intro i u i0 i1 u0
  unfold choP
  refine SEM.thn (ge i u i0 i1) (he i u i0 i1 u0) (fun j C M D a b h => ?_)
  split
  · have j2 := tk_lt t b (by omega)
    refine SEM.thn (gs (j + 1) _ (by omega) j2) (hs (j + 1) (u + C.length + 2) (by omega) j2 (by omega)) (fun j1 C1 M1 D1 a1 b1 h1 => ?_)
    split
    · have j3 := tk_lt t b1 (by omega)
      refine SEM.thn (gs (j1 + 1) _ (by omega) j3) (hs (j1 + 1) (u + C.length + 2 + C1.length + 2) (by omega) j3 (by omega)) (fun j2 C2 M2 D2 a2 b2 h2 => ?_)
      split
      · refine ⟨fun nm lit hn => ⟨?_, fun z => by cases z⟩, SCc.sel h.2.1 (h1.2.1.dn (by omega)) (h2.2.1.dn (by omega)) h.1 (fun nm lit => rfl) h1.1 (by omega), SMm.sel h.2.2 (h1.2.2.dn (by omega)) h2.2.2 h.1 h1.1 h2.1 (fun nm lit => rfl) (by omega)⟩
        show MI (if D (mk s nm) lit = 0 then D2 (mk s nm) lit else D1 (mk s nm) lit)
        split
        · exact (h2.1 nm lit hn).1
        · exact (h1.1 nm lit hn).1
      · trivial
    · trivial
  · trivial
theorem lvP_S (t : TkE K n) (r : TkR K V n) : ∀ d, d ≤ 8 → PSm n s false (55 - 5 * d) (lvP K V s d).1 ∧ PSm n s false (57 - 5 * d) (lvP K V s d).2.1 ∧ PSm n s false (52 - 5 * d) (lvP K V s d).2.2.1 ∧ PSm n s true (54 - 5 * d) (lvP K V s d).2.2.2
  | 0, d8 => by
    have gf : PG n (facP K V s none) := facP_G t (fun q e => by cases e)
    have gp : PG n (seqP K 49 50 (-41) (facP K V s none)) := seqP_G t gf (by omega)
    have gs : PG n (seqP K 47 48 (-41) (seqP K 49 50 (-41) (facP K V s none))) := seqP_G t gp (by omega)
    have ga : PG n (askP K (seqP K 47 48 (-41) (seqP K 49 50 (-41) (facP K V s none))) none) := askP_G t gs (fun q e => by cases e)
    have gb : PG n (seqP K 27 27 (-6) (askP K (seqP K 47 48 (-41) (seqP K 49 50 (-41) (facP K V s none))) none)) := seqP_G t ga (by omega)
    have ge : PG n (seqP K 26 26 (-4) (seqP K 27 27 (-6) (askP K (seqP K 47 48 (-41) (seqP K 49 50 (-41) (facP K V s none))) none))) := seqP_G t gb (by omega)
    have f : PSm n s false 57 (facP K V s none) := facP_S t r (by omega) (fun q e => by cases e)
    have sm : PSm n s false 55 (seqP K 47 48 (-41) (seqP K 49 50 (-41) (facP K V s none))) := seqP_S t gp (seqP_S t gf f (by omega) (Or.inl ⟨rfl, rfl, by omega, by omega⟩)) (by omega) (Or.inl ⟨rfl, rfl, by omega, by omega⟩)
    have ak : PSm n s true 54 (askP K (seqP K 47 48 (-41) (seqP K 49 50 (-41) (facP K V s none))) none) := askP_S t gs sm (by omega) (fun q e => by cases e)
    exact ⟨sm, f, choP_S t ge gs (seqP_S t gb (seqP_S t ga ak (by omega) (Or.inr (Or.inl ⟨rfl, rfl, rfl, rfl⟩))) (by omega) (Or.inr (Or.inr ⟨rfl, rfl, rfl, rfl⟩))) (sm.dn (by omega)) (by omega), ak⟩
  | d + 1, d8 => by
    obtain ⟨a, b, c, e⟩ := lvP_S t r d (by omega)
    obtain ⟨g1, g2, g3, g4⟩ := lvP_G (s := s) (V := V) t d
    obtain ⟨q, hq⟩ : ∃ q, q = lvP K V s d := ⟨_, rfl⟩
    show PSm n s false (55 - 5 * (d + 1)) (seqP K 47 48 (-41) (seqP K 49 50 (-41) (facP K V s (some (lvP K V s d))))) ∧ PSm n s false (57 - 5 * (d + 1)) (facP K V s (some (lvP K V s d))) ∧
      PSm n s false (52 - 5 * (d + 1)) (choP K (seqP K 26 26 (-4) (seqP K 27 27 (-6) (askP K (seqP K 47 48 (-41) (seqP K 49 50 (-41) (facP K V s (some (lvP K V s d))))) (some (lvP K V s d).2.2.2)))) (seqP K 47 48 (-41) (seqP K 49 50 (-41) (facP K V s (some (lvP K V s d)))))) ∧
      PSm n s true (54 - 5 * (d + 1)) (askP K (seqP K 47 48 (-41) (seqP K 49 50 (-41) (facP K V s (some (lvP K V s d))))) (some (lvP K V s d).2.2.2))
    rw [← hq] at a b c e g1 g2 g3 g4 ⊢
    clear hq
    have gf : PG n (facP K V s (some q)) := facP_G t (fun q z => by cases z; exact ⟨g1, g2, g3⟩)
    have gp : PG n (seqP K 49 50 (-41) (facP K V s (some q))) := seqP_G t gf (by omega)
    have gs : PG n (seqP K 47 48 (-41) (seqP K 49 50 (-41) (facP K V s (some q)))) := seqP_G t gp (by omega)
    have ga : PG n (askP K (seqP K 47 48 (-41) (seqP K 49 50 (-41) (facP K V s (some q)))) (some q.2.2.2)) := askP_G t gs (fun q z => by cases z; exact g4)
    have gb : PG n (seqP K 27 27 (-6) (askP K (seqP K 47 48 (-41) (seqP K 49 50 (-41) (facP K V s (some q)))) (some q.2.2.2))) := seqP_G t ga (by omega)
    have ge : PG n (seqP K 26 26 (-4) (seqP K 27 27 (-6) (askP K (seqP K 47 48 (-41) (seqP K 49 50 (-41) (facP K V s (some q)))) (some q.2.2.2)))) := seqP_G t gb (by omega)
    have f : PSm n s false (57 - 5 * (d + 1)) (facP K V s (some q)) := facP_S t r (by omega) (fun q z => by cases z; exact ⟨⟨g1, g2⟩, a.dn (by omega), b.dn (by omega), c.dn (by omega)⟩)
    have sm : PSm n s false (55 - 5 * (d + 1)) (seqP K 47 48 (-41) (seqP K 49 50 (-41) (facP K V s (some q)))) := seqP_S t gp (seqP_S t gf (f.dn (by omega)) (by omega) (Or.inl ⟨rfl, rfl, by omega, by omega⟩)) (by omega) (Or.inl ⟨rfl, rfl, by omega, by omega⟩)
    have ak : PSm n s true (54 - 5 * (d + 1)) (askP K (seqP K 47 48 (-41) (seqP K 49 50 (-41) (facP K V s (some q)))) (some q.2.2.2)) := askP_S t gs (sm.dn (by omega)) (by omega) (fun q z => by cases z; exact ⟨g4, e.dn (by omega)⟩)
    exact ⟨sm, f, choP_S t ge gs (seqP_S t gb (seqP_S t ga (ak.dn (by omega)) (by omega) (Or.inr (Or.inl ⟨rfl, rfl, rfl, rfl⟩))) (by omega) (Or.inr (Or.inr ⟨rfl, rfl, rfl, rfl⟩))) (sm.dn (by omega)) (by omega), ak⟩
end SEMP
