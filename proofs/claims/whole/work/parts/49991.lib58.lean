/-! what was read means one and the same -/
def lwOK (cls : List CRc) (CC : List Int) (MM : MCd) (s f : Int) : Law → Prop
  | none => f = -1 ∧ ∀ (q : Nat) (r : CRc), cls[q]? = some r → ¬ r.1 = s
  | some D => ∃ (A C B : List Int) (A' M B' : MCd), CC = A ++ ((C ++ [53]) ++ B) ∧ f = A.length ∧ MM = A' ++ (M ++ B') ∧ C.length < 600 ∧ (CC.length ≤ 700) ∧ SR3 s false 15 A.length C M D ∧
      ∃ q : Nat, cls[q]? = some (s, (A'.length : Int), (A'.length : Int) + M.length, 0) ∧ ∀ (q' : Nat) (r : CRc), q' < q → cls[q']? = some r → ¬ r.1 = s
def RI (st : RSt) : Prop := (∀ (q : Nat) (r : CRc), st.1[q]? = some r → (0 ≤ r.1 ∧ r.1 ≤ 7) ∧ ClOK r.1 r.2.1 r.2.2.1 r.2.2.2) ∧ lwOK st.1 st.2.1 st.2.2.1 0 st.2.2.2.1.1 st.2.2.2.2.1 ∧ lwOK st.1 st.2.1 st.2.2.1 1 st.2.2.2.1.2 st.2.2.2.2.2
theorem lwOK.more {cls : List CRc} {CC CC' : List Int} {MM MM' : MCd} {s f : Int} {l : Law} (h : lwOK cls CC MM s f l) {r : CRc} (hr : ¬ r.1 = s) (lc : (CC ++ CC').length ≤ 700) : lwOK (cls ++ [r]) (CC ++ CC') (MM ++ MM') s f l := by
  cases l with
  | none =>
    refine ⟨h.1, fun q r' hq => ?_⟩
    rcases snoc_at hq with ⟨_, z⟩ | ⟨_, z⟩
    · exact h.2 q r' z
    · rw [← z]; exact hr
  | some D =>
    obtain ⟨A, C, B, A', M, B', e1, e2, e3, e4, e5, e6, q, e7, e8⟩ := h
    refine ⟨A, C, B ++ CC', A', M, B' ++ MM', ?_, e2, ?_, e4, lc, e6, q, ?_, fun q' r' hq hr' => ?_⟩
    · rw [e1]; simp only [List.append_assoc]
    · rw [e3]; simp only [List.append_assoc]
    · have ql := (List.getElem?_eq_some_iff.mp e7).1
      rw [List.getElem?_append_left ql]; exact e7
    · rcases snoc_at hr' with ⟨_, z⟩ | ⟨z1, z⟩
      · exact e8 q' r' hq z
      · have ql := (List.getElem?_eq_some_iff.mp e7).1
        omega
theorem lwOK.new {cls : List CRc} {CC C : List Int} {MM M : MCd} {s f : Int} {l : Law} {D : DV} (h : lwOK cls CC MM s f l) (hf : f = -1) (lc : (CC ++ (C ++ [53])).length ≤ 700) (l6 : C.length < 600) (S : SR3 s false 15 CC.length C M D) : lwOK (cls ++ [(s, (MM.length : Int), (MM.length : Int) + M.length, 0)]) (CC ++ (C ++ [53])) (MM ++ M) s CC.length (some D) := by
  have n : ∀ (q : Nat) (r : CRc), cls[q]? = some r → ¬ r.1 = s := by
    cases l with
    | none => exact h.2
    | some D' =>
      obtain ⟨A, C, B, A', M, B', e1, e2, -⟩ := h
      omega
  refine ⟨CC, C, [], MM, M, [], by simp, rfl, by simp, l6, lc, S, cls.length, by simp, fun q r hq hr => ?_⟩
  rcases snoc_at hr with ⟨_, z⟩ | ⟨z, _⟩
  · exact n q r z
  · omega
/-- an order's numbers -/
def itR (K V : Int → Int) : List Itm → List Int → Prop
  | [], l => l = []
  | .inl r :: it, l => ∃ v l', l = v :: l' ∧ r.1 ≤ v ∧ v ≤ r.2 ∧ itR K V it l'
  | .inr _ :: it, l => itR K V it l
theorem itP_R {K V : Int → Int} : ∀ (it : List Itm) (i : Int) (x : Int × List Int), itP K V it i = .inr x → itR K V it x.2
  | [], i, x, h => by cases h; rfl
  | .inl r :: it, i, x, h => by
    unfold itP at h
    split at h
    · split at h
      · cases h
      · rename_i v
        cases q : itP K V it (i + 1) with
        | inl e => rw [q] at h; cases h
        | inr y => rw [q] at h; cases h; exact ⟨V i, y.2, rfl, by omega, by omega, itP_R it _ y q⟩
    · cases h
  | .inr w :: it, i, x, h => by
    unfold itP at h
    split at h
    · exact itP_R it _ x h
    · cases h
theorem itR_OK {K V : Int → Int} {k : Int} {l : List Int} (hk : k = 0 ∨ (12 ≤ k ∧ k ≤ 16)) (h : itR K V (itK k) l) : ClOK (msK k) (l.getD 0 0) (l.getD 1 0) (l.getD 2 0) := by
  rcases (show k = 0 ∨ k = 12 ∨ k = 13 ∨ k = 14 ∨ k = 15 ∨ k = 16 by omega) with e | e | e | e | e | e <;> subst e
  · obtain ⟨v, l', rfl, a, c, -⟩ := h
    exact ⟨fun z => absurd z (by decide), fun z => absurd z (by decide), fun z => absurd z (by decide), fun z => absurd z (by decide), fun z => absurd z (by decide), fun _ => ⟨a, c⟩⟩
  · obtain ⟨v, l', rfl, a, c, v2, l2, rfl, a2, c2, -⟩ := h
    exact ⟨fun _ => ⟨⟨a, c⟩, a2, c2⟩, fun z => absurd z (by decide), fun z => absurd z (by decide), fun z => absurd z (by decide), fun z => absurd z (by decide), fun z => absurd z (by decide)⟩
  · obtain ⟨v, l', rfl, a, c, v2, l2, rfl, a2, c2, -⟩ := h
    exact ⟨fun z => absurd z (by decide), fun _ => ⟨⟨a, c⟩, a2, c2⟩, fun z => absurd z (by decide), fun z => absurd z (by decide), fun z => absurd z (by decide), fun z => absurd z (by decide)⟩
  · obtain ⟨v, l', rfl, a, c, v2, l2, rfl, a2, c2, v3, l3, rfl, a3, c3, -⟩ := h
    exact ⟨fun z => absurd z (by decide), fun z => absurd z (by decide), fun _ => ⟨⟨a, c⟩, ⟨a2, c2⟩, a3, c3⟩, fun z => absurd z (by decide), fun z => absurd z (by decide), fun z => absurd z (by decide)⟩
  · obtain ⟨v, l', rfl, a, c, v2, l2, rfl, a2, c2, -⟩ := h
    exact ⟨fun z => absurd z (by decide), fun z => absurd z (by decide), fun z => absurd z (by decide), fun _ => ⟨⟨a, c⟩, a2, c2⟩, fun z => absurd z (by decide), fun z => absurd z (by decide)⟩
  · obtain ⟨v, l', rfl, a, c, -⟩ := h
    exact ⟨fun z => absurd z (by decide), fun z => absurd z (by decide), fun z => absurd z (by decide), fun z => absurd z (by decide), fun _ => ⟨a, c⟩, fun z => absurd z (by decide)⟩
theorem clP_I {K V : Int → Int} {n i : Int} {st : RSt} {x : Int × RSt} (t : TkE K n) (r : TkR K V n) (i0 : 0 ≤ i) (i1 : i ≤ n - 1) (cl : (st.2.1.length : Int) ≤ 2 * i) (I : RI st) (h : clP K V i st = .inr x) : RI x.2 := by
  have g := clP_G (V := V) t i st i0 i1
  rw [h] at g
  obtain ⟨g1, g2, g3, -, -⟩ := g
  have n1 := t.2.1
  unfold clP at h
  split at h
  · cases h
  rename_i hk
  have i2 := tk_lt t i1 (by omega)
  split at h
  · cases h
  rename_i tw
  split at h
  · cases h
  obtain ⟨I1, I2, I3⟩ := I
  split at h
  · rename_i k1
    obtain ⟨s, hs⟩ : ∃ s, s = K i - 10 := ⟨_, rfl⟩
    rw [← hs] at h
    have gg := (lvP_G (V := V) (s := s) t 8).1 (i + 1) st.2.1.length (by omega) i2
    have ss := (lvP_S (s := s) t r 8 (Nat.le_refl 8)).1 (i + 1) st.2.1.length (by omega) i2 (by omega)
    cases q : (lvP K V s 8).1 (i + 1) st.2.1.length with
    | inl e => rw [q] at h; cases h
    | inr y =>
      obtain ⟨j, C, M, D⟩ := y
      rw [q] at h gg ss
      have ss : SR3 s false 15 st.2.1.length C M D := ss
      obtain ⟨a1, a2, a3, a4⟩ := gg
      dsimp only at h
      split at h
      · cases h
        have lc : (st.2.1 ++ (C ++ [53])).length ≤ 700 := by
          have g3 : ((st.2.1 ++ (C ++ [53])).length : Int) ≤ st.2.1.length + 2 * (j + 1 - i) := g3
          have g2 : j + 1 ≤ n - 1 := g2
          omega
        have recs : ∀ (q : Nat) (r : CRc), (st.1 ++ [(s, (st.2.2.1.length : Int), (st.2.2.1.length : Int) + M.length, 0)])[q]? = some r → (0 ≤ r.1 ∧ r.1 ≤ 7) ∧ ClOK r.1 r.2.1 r.2.2.1 r.2.2.2 := fun q r hq => by
          rcases snoc_at hq with ⟨_, z⟩ | ⟨_, z⟩
          · exact I1 q r z
          · subst z
            exact ⟨by show 0 ≤ s ∧ s ≤ 7; omega, fun z => by have z : s = 2 := z; omega, fun z => by have z : s = 3 := z; omega, fun z => by have z : s = 4 := z; omega, fun z => by have z : s = 5 := z; omega, fun z => by have z : s = 6 := z; omega, fun z => by have z : s = 7 := z; omega⟩
        by_cases k10 : K i = 10
        · have s0 : s = 0 := by omega
          subst s0
          simp only [if_pos k10]
          exact ⟨recs, I2.new (by omega) lc (by omega) ss, I3.more (by show ¬ (0 : Int) = 1; decide) lc⟩
        · have s1 : s = 1 := by omega
          rw [s1] at recs ss ⊢
          simp only [if_neg k10]
          exact ⟨recs, I2.more (by show ¬ (1 : Int) = 0; decide) lc, I3.new (by omega) lc (by omega) ss⟩
      · cases h
  · rename_i k1
    cases q : itP K V (itK (K i)) (i + 1) with
    | inl e => rw [q] at h; cases h
    | inr y =>
      rw [q] at h
      dsimp only at h
      split at h
      · cases h
        have hk2 : K i = 0 ∨ (12 ≤ K i ∧ K i ≤ 16) := by omega
        have ok := itR_OK hk2 (itP_R _ _ y q)
        have km := kmp_ms (k := K i) (by omega)
        have ms : 2 ≤ msK (K i) ∧ msK (K i) ≤ 7 := by
          rcases hk2 with z | z
          · rw [z]; decide
          · rw [km.2.2 (by omega)]; omega
        have m1 : ∀ s, (s = 0 ∨ s = 1) → ∀ f l, lwOK st.1 st.2.1 st.2.2.1 s f l → lwOK (st.1 ++ [numR (msK (K i)) y.2]) st.2.1 st.2.2.1 s f l := fun s s01 f l hl => by
          have g3 : (st.2.1.length : Int) ≤ st.2.1.length + 2 * (y.1 + 1 - i) := g3
          have z := hl.more (CC' := []) (MM' := []) (r := numR (msK (K i)) y.2) (by show ¬ msK (K i) = s; omega) (by rw [List.append_nil]; omega)
          rw [List.append_nil, List.append_nil] at z; exact z
        refine ⟨fun q r hq => ?_, m1 0 (Or.inl rfl) _ _ I2, m1 1 (Or.inr rfl) _ _ I3⟩
        rcases snoc_at hq with ⟨_, z⟩ | ⟨_, z⟩
        · exact I1 q r z
        · subst z
          exact ⟨by show 0 ≤ msK (K i) ∧ msK (K i) ≤ 7; omega, ok⟩
      · cases h
theorem rdP_I {K V : Int → Int} {n : Int} (t : TkE K n) (r : TkR K V n) : ∀ (m : Nat) (i : Int) (st : RSt), 0 ≤ i → i ≤ n - 1 → (st.2.1.length : Int) ≤ 2 * i → RI st → st.1.length ≤ 24 → ∀ y, rdP K V m i st = .inr y → RI y ∧ y.1.length ≤ 24 ∧ (y.2.1.length : Int) ≤ 2 * (n - 1)
  | 0, i, st, i0, i1, cl, I, l24, y, h => by cases h; exact ⟨I, l24, by omega⟩
  | m + 1, i, st, i0, i1, cl, I, l24, y, h => by
    unfold rdP at h
    split at h
    · cases h; exact ⟨I, l24, by omega⟩
    · have g := clP_G (V := V) t i st i0 i1
      cases q : clP K V i st with
      | inl e => rw [q] at h; cases h
      | inr x =>
        rw [q] at h g
        obtain ⟨g1, g2, g3, g4, g5⟩ := g
        exact rdP_I t r m x.1 x.2 (by omega) g2 (by omega) (clP_I t r i0 i1 cl I q) (clP_24 q l24) y h
theorem RI_0 : RI st0 := ⟨fun q r h => by simp [st0] at h, ⟨rfl, fun q r h => by simp [st0] at h⟩, ⟨rfl, fun q r h => by simp [st0] at h⟩⟩
theorem hasC_at {E : Int → Int} : ∀ (C : List Int) (u : Int) (k : Nat) (c : Int), hasC E u C → C[k]? = some c → E (u + k) = c
  | [], u, k, c, h, g => by simp at g
  | x :: C, u, 0, c, h, g => by simp at g; rw [← g, show u + ((0 : Nat) : Int) = u by omega]; exact h.1
  | x :: C, u, k + 1, c, h, g => by
    simp at g
    have z := hasC_at C (u + 1) k c h.2 g
    rw [show u + ((k + 1 : Nat) : Int) = u + 1 + k by omega]; exact z
/-- the class's code of a law read -/
theorem lwOK.C {cls : List CRc} {CC : List Int} {MM : MCd} {s f : Int} {l : Law} {E : Int → Int} (h : lwOK cls CC MM s f l) (hE : hasC E 0 CC) : LawC E s f l := by
  cases l with
  | none => exact h.1
  | some D =>
    obtain ⟨A, C, B, A', M, B', e1, e2, e3, e4, e5, e6, -⟩ := h
    rw [e1] at hE e5
    rw [hasC_app, hasC_app, hasC_app] at hE
    obtain ⟨-, ⟨h1, h2, -⟩, -⟩ := hE
    rw [List.length_append, List.length_append, List.length_append] at e5
    rw [show (0 : Int) + A.length = A.length by omega] at h1 h2
    refine ⟨by omega, (A.length : Int) + C.length, h2, fun nm lit hn _ _ => ?_⟩
    obtain ⟨m, m1, m2⟩ := e6.2.1 E nm lit [] h1 (by omega) (by omega) hn (fun v hv => by cases hv) (by decide)
    rw [e2]
    exact ⟨m, by omega, m2⟩
/-- the model's -/
theorem lwOK.M {cls : List CRc} {CC : List Int} {MM : MCd} {s f : Int} {l : Law} {h : Nat → Int → Int} {i : Int} (w : lwOK cls CC MM s f l) (l24 : cls.length ≤ 24) (lm : MM.length ≤ 304) (h0 : h 339 (705 * i) = cls.length) (hW : hasM (fun k => h 339 (705 * i + 97 + k)) 0 MM) (hr : ∀ (q : Nat) (r : CRc), cls[q]? = some r → MRk h (705 * i + 1 + 4 * q) r) (s01 : s = 0 ∨ s = 1) : LawM (h 339) i s l := by
  have at_ : ∀ k : Int, 0 ≤ k → k < h 339 (705 * i) → ∃ r, cls[k.toNat]? = some r ∧ MRk h (705 * i + 1 + 4 * k) r := fun k k0 k1 => by
    have kl : k.toNat < cls.length := by omega
    refine ⟨cls[k.toNat], List.getElem?_eq_getElem kl, ?_⟩
    have z := hr k.toNat _ (List.getElem?_eq_getElem kl)
    rw [show ((k.toNat : Nat) : Int) = k by omega] at z; exact z
  cases l with
  | none =>
    intro k k0 k1
    obtain ⟨r, r1, r2⟩ := at_ k k0 k1
    rw [r2.1]; exact w.2 _ r r1
  | some D =>
    obtain ⟨A, C, B, A', M, B', e1, e2, e3, e4, e5, e6, q, e7, e8⟩ := w
    have ql := (List.getElem?_eq_some_iff.mp e7).1
    obtain ⟨m1, m2, m3, m4⟩ := hr q _ e7
    have m1 : h 339 (705 * i + 1 + 4 * q) = s := m1
    have m2 : h 339 (705 * i + 1 + 4 * q + 1) = A'.length := m2
    have m3 : h 339 (705 * i + 1 + 4 * q + 2) = (A'.length : Int) + M.length := m3 (by show s ≤ 5; omega)
    have lm' : A'.length + M.length ≤ 304 := by rw [e3, List.length_append, List.length_append] at lm; omega
    refine ⟨q, ⟨by omega, by omega⟩, m1, fun j j0 j1 => ?_, ⟨by omega, by omega, by omega⟩, fun nm lit hn _ _ => ?_⟩
    · obtain ⟨r, r1, r2⟩ := at_ j j0 (by omega)
      rw [r2.1]; exact e8 _ r (by omega) r1
    · rw [m2, m3, show ((A'.length : Int) + M.length - A'.length).toNat = M.length by omega]
      rw [e3, hasM_app, hasM_app] at hW
      rw [show (0 : Int) + A'.length = A'.length by omega] at hW
      have z := e6.2.2 (fun k => h 339 (705 * i + 97 + k)) nm lit A'.length [] [] hW.2.1 hn (fun v hv => by cases hv) (fun v hv => by cases hv) (by decide)
      rw [if_neg (by decide)] at z
      exact z
/-- the draft and the model's slot are one text -/
theorem txt_cl {h : Nat → Int → Int} {i : Int} {st : RSt} (D : DrI h st) (Mo : MoI h (705 * i) st) (I : RI st) (l24 : st.1.length ≤ 24) : ClS h 316 (h 339) i := by
  obtain ⟨d0, d1, d3, d4, d5⟩ := D
  obtain ⟨m0, m1, m2, m3⟩ := Mo
  refine ⟨d0.trans m0.symm, by omega, fun k k0 k1 => ?_⟩
  have kl : k.toNat < st.1.length := by omega
  obtain ⟨r, hr⟩ : ∃ r, st.1[k.toNat]? = some r := ⟨_, List.getElem?_eq_getElem kl⟩
  have a := d5 k.toNat r hr
  have c := m3 k.toNat r hr
  obtain ⟨b1, b2⟩ := I.1 k.toNat r hr
  rw [show ((k.toNat : Nat) : Int) = k by omega] at a c
  obtain ⟨a1, a2, a3, a4⟩ := a
  obtain ⟨c1, c2, c3, c4⟩ := c
  have z2 : ∀ {x : Int}, r.1 = x → 2 ≤ x → h (316 + 2) (k * 3 + 0) = r.2.1 := fun e e2 => a2 (by omega)
  refine ⟨by rw [c1]; exact b1, by rw [c1]; exact a1, ?_, fun e => ?_, fun e e5 => ?_, fun e => ?_⟩
  · rw [c1]
    show ClOK r.1 (h 318 (k * 3 + 0)) (h 318 (k * 3 + 1)) (h 318 (k * 3 + 2))
    obtain ⟨o1, o2, o3, o4, o5, o6⟩ := b2
    refine ⟨fun e => ?_, fun e => ?_, fun e => ?_, fun e => ?_, fun e => ?_, fun e => ?_⟩
    · rw [a2 (by omega), a3 (by omega) (by omega)]; exact o1 e
    · rw [a2 (by omega), a3 (by omega) (by omega)]; exact o2 e
    · rw [a2 (by omega), a3 (by omega) (by omega), a4 (by omega)]; exact o3 e
    · rw [a2 (by omega), a3 (by omega) (by omega)]; exact o4 e
    · rw [a2 (by omega)]; exact o5 e
    · rw [a2 (by omega)]; exact o6 e
  · rw [c1] at e; rw [c2]; exact a2 e
  · rw [c1] at e e5; rw [c3 e5]; exact a3 e e5
  · rw [c1] at e; rw [c4 e]; exact a4 e
