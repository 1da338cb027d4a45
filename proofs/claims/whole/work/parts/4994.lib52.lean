/-! all levels of the class's reader -/
theorem imp_lv {G : GT} {hl : Nat → Int → Int} {b : Bool × Bool} {K Vf Pf : Int → Int} {n l s : Int} (t : TkE K n) (hls : l = 10 + s) (kr : ∀ i, 0 ≤ i → i ≤ n - 1 → 0 ≤ K i) : ∀ d : Nat, d ≤ 8 → ∀ o : Int, o = 8 - d →
    ImpF G hl b K Vf Pf n (1000 + 10 * (8 - d)) MX2_sum [vr 314, vi l, vi o, vn, vn] (lvP K Vf s d).1 ∧ ImpF G hl b K Vf Pf n (1000 + 10 * (8 - d) + 2) MX2_factor [vr 314, vi l, vi o, vn] (lvP K Vf s d).2.1 ∧
    ImpF G hl b K Vf Pf n (1000 + 10 * (8 - d) - 5) MX2_choice [vr 314, vi l, vi o, vn, vn] (lvP K Vf s d).2.2.1 ∧ ImpF G hl b K Vf Pf n (1000 + 10 * (8 - d) - 2) MX2_ask [vr 314, vi l, vi o, vn] (lvP K Vf s d).2.2.2 := by
  have dn : ∀ {D D' : Nat} {y : Md} {ls : List V} {pr : PF}, D' ≤ D → ImpF G hl b K Vf Pf n D y ls pr → ImpF G hl b K Vf Pf n D' y ls pr := fun e f δ h Q i CC hd => f δ h Q i CC (Nat.le_trans hd e)
  have all : ∀ (d : Nat) (o : Int) (rest : Option PF4) (de : Option PF), d ≤ 8 → o = 8 - d → PG n (facP K Vf s rest) → (∀ a, de = some a → PG n a) →
      (Unit → (rest = none ∧ o = 8) ∨ (o < 8 ∧ 0 ≤ o ∧ ∃ qq : PF4, rest = some qq ∧ ImpF G hl b K Vf Pf n (1000 + 10 * (8 - d) + 2 + 1) MX2_sum [vr 314, vi l, vi (o + 1), vn, vn] qq.1 ∧ ImpF G hl b K Vf Pf n (1000 + 10 * (8 - d) + 2 + 1) MX2_factor [vr 314, vi l, vi (o + 1), vn] qq.2.1 ∧ ImpF G hl b K Vf Pf n (1000 + 10 * (8 - d) + 2 + 1) MX2_choice [vr 314, vi l, vi (o + 1), vn, vn] qq.2.2.1 ∧ PG n qq.1 ∧ PG n qq.2.1)) →
      (Unit → (de = none ∧ o = 8) ∨ (o < 8 ∧ ∃ ak : PF, de = some ak ∧ ImpF G hl b K Vf Pf n (1000 + 10 * (8 - d) - 2 + 1) MX2_ask [vr 314, vi l, vi (o + 1), vn] ak ∧ PG n ak)) →
      ImpF G hl b K Vf Pf n (1000 + 10 * (8 - d)) MX2_sum [vr 314, vi l, vi o, vn, vn] (seqP K 47 48 (-41) (seqP K 49 50 (-41) (facP K Vf s rest))) ∧ ImpF G hl b K Vf Pf n (1000 + 10 * (8 - d) + 2) MX2_factor [vr 314, vi l, vi o, vn] (facP K Vf s rest) ∧
      ImpF G hl b K Vf Pf n (1000 + 10 * (8 - d) - 5) MX2_choice [vr 314, vi l, vi o, vn, vn] (choP K (seqP K 26 26 (-4) (seqP K 27 27 (-6) (askP K (seqP K 47 48 (-41) (seqP K 49 50 (-41) (facP K Vf s rest))) de))) (seqP K 47 48 (-41) (seqP K 49 50 (-41) (facP K Vf s rest)))) ∧
      ImpF G hl b K Vf Pf n (1000 + 10 * (8 - d) - 2) MX2_ask [vr 314, vi l, vi o, vn] (askP K (seqP K 47 48 (-41) (seqP K 49 50 (-41) (facP K Vf s rest))) de) := by
    intro d o rest de d8 ho gf gd hd hk
    have gp : PG n (seqP K 49 50 (-41) (facP K Vf s rest)) := seqP_G t gf (by omega)
    have gs : PG n (seqP K 47 48 (-41) (seqP K 49 50 (-41) (facP K Vf s rest))) := seqP_G t gp (by omega)
    have ga : PG n (askP K (seqP K 47 48 (-41) (seqP K 49 50 (-41) (facP K Vf s rest))) de) := askP_G t gs gd
    have gb : PG n (seqP K 27 27 (-6) (askP K (seqP K 47 48 (-41) (seqP K 49 50 (-41) (facP K Vf s rest))) de)) := seqP_G t ga (by omega)
    have ge : PG n (seqP K 26 26 (-4) (seqP K 27 27 (-6) (askP K (seqP K 47 48 (-41) (seqP K 49 50 (-41) (facP K Vf s rest))) de))) := seqP_G t gb (by omega)
    have F := imp_factor (G := G) (hl := hl) (b := b) (Pf := Pf) t hls kr (o := o) (D := 1000 + 10 * (8 - d) + 2) (rest := rest) (by omega) (by omega) hd
    have P := imp_product (G := G) (hl := hl) (b := b) (Pf := Pf) (Vf := Vf) t hls (o := o) (D := 1000 + 10 * (8 - d) + 1) (Dd := 1000 + 10 * (8 - d) + 2) (by omega) (by omega) gf F
    have S := imp_sum (G := G) (hl := hl) (b := b) (Pf := Pf) (Vf := Vf) t hls (o := o) (D := 1000 + 10 * (8 - d)) (Dd := 1000 + 10 * (8 - d) + 1) (by omega) (by omega) gp P
    have A := imp_ask (G := G) (hl := hl) (b := b) (Pf := Pf) (Vf := Vf) t hls (o := o) (D := 1000 + 10 * (8 - d) - 2) (de := de) (by omega) (by omega) (by omega) gs (dn (by omega) S) hk
    have Bo := imp_both (G := G) (hl := hl) (b := b) (Pf := Pf) (Vf := Vf) t hls (o := o) (D := 1000 + 10 * (8 - d) - 3) (Dd := 1000 + 10 * (8 - d) - 2) (by omega) (by omega) ga A
    have Ei := imp_either (G := G) (hl := hl) (b := b) (Pf := Pf) (Vf := Vf) t hls (o := o) (D := 1000 + 10 * (8 - d) - 4) (Dd := 1000 + 10 * (8 - d) - 3) (by omega) (by omega) gb Bo
    exact ⟨S, F, imp_choice (G := G) (hl := hl) (b := b) (Pf := Pf) (Vf := Vf) t hls (o := o) (D := 1000 + 10 * (8 - d) - 5) (Dd := 1000 + 10 * (8 - d)) (De := 1000 + 10 * (8 - d) - 4) (by omega) (by omega) (by omega) ge gs Ei S, A⟩
  intro d
  induction d with
  | zero =>
    intro _ o ho
    exact all 0 o none none (by omega) ho (facP_G t (fun q e => by cases e)) (fun a e => by cases e) (fun _ => Or.inl ⟨rfl, by omega⟩) (fun _ => Or.inl ⟨rfl, by omega⟩)
  | succ d ih =>
    intro d8 o ho
    obtain ⟨a, c, e, f⟩ := ih (by omega) (o + 1) (by omega)
    obtain ⟨g1, g2, g3, g4⟩ := lvP_G (s := s) (V := Vf) t d
    exact all (d + 1) o (some (lvP K Vf s d)) (some (lvP K Vf s d).2.2.2) d8 ho (facP_G t (fun x z => by cases z; exact ⟨g1, g2, g3⟩)) (fun x z => by cases z; exact g4)
      (fun _ => Or.inr ⟨by omega, by omega, _, rfl, dn (by omega) a, dn (by omega) c, dn (by omega) e, g1, g2⟩) (fun _ => Or.inr ⟨by omega, _, rfl, dn (by omega) f, g4⟩)
/-! clauses -/
abbrev Itm : Type := (Int × Int) ⊕ Int
def itP (K V : Int → Int) : List Itm → Int → (Int × Int) ⊕ (Int × List Int)
  | [], i => .inr (i, [])
  | .inl r :: it, i => if K i = 40 then (if V i < r.1 ∨ r.2 < V i then .inl (2, i) else (match itP K V it (i + 1) with
    | .inl e => .inl e
    | .inr x => .inr (x.1, V i :: x.2))) else .inl (1, i)
  | .inr w :: it, i => if K i = w then itP K V it (i + 1) else .inl (1, i)
def OQ (K V : Int → Int) (F : Int → Int → Prop) (S : Int → List Int → Prop) : List Itm → Int → List Int → Prop
  | [], i, a => S i a
  | .inl r :: it, i, a => (¬ K i = 40 → F 1 i) ∧ (K i = 40 → (V i < r.1 ∨ r.2 < V i) → F 2 i) ∧ (K i = 40 → r.1 ≤ V i → V i ≤ r.2 → OQ K V F S it (i + 1) (a ++ [V i]))
  | .inr w :: it, i, a => (¬ K i = w → F 1 i) ∧ (K i = w → OQ K V F S it (i + 1) a)
theorem OQ_of {K V : Int → Int} {F : Int → Int → Prop} {S : Int → List Int → Prop} : ∀ (it : List Itm) (i : Int) (a : List Int), (match itP K V it i with
    | .inl e => F e.1 e.2
    | .inr x => S x.1 (a ++ x.2)) → OQ K V F S it i a
  | [], i, a, h => by
    have h : S i (a ++ []) := h
    rw [List.append_nil] at h; exact h
  | .inl r :: it, i, a, h => by
    unfold itP at h
    refine ⟨fun e => ?_, fun e c => ?_, fun e c d => OQ_of it (i + 1) _ ?_⟩
    · rw [if_neg e] at h; exact h
    · rw [if_pos e, if_pos c] at h; exact h
    · rw [if_pos e, if_neg (by omega)] at h
      cases q : itP K V it (i + 1) with
      | inl x => rw [q] at h; exact h
      | inr x =>
        rw [q] at h
        have h : S x.1 (a ++ V i :: x.2) := h
        show S x.1 (a ++ [V i] ++ x.2)
        rw [List.append_assoc]; exact h
  | .inr w :: it, i, a, h => by
    unfold itP at h
    refine ⟨fun e => ?_, fun e => OQ_of it (i + 1) _ ?_⟩
    · rw [if_neg e] at h; exact h
    · rw [if_pos e] at h; exact h
/-- what an order is made of, by the class's kind of its first word -/
def itK (k : Int) : List Itm :=
  if k = 12 then [.inl (0, 99), .inr 1, .inl (0, 10)] else if k = 13 then [.inl (0, 9), .inr 17, .inl (0, 9)] else if k = 14 then [.inl (0, 7), .inr 17, .inl (0, 3), .inr 18, .inl (0, 3)] else if k = 15 then [.inl (1, 99), .inr 17, .inl (0, 3)] else if k = 16 then [.inl (0, 9)] else [.inl (1, 60)]
/-- the model's sort of it -/
def msK (k : Int) : Int := if k = 0 then 7 else k - 10
abbrev CRc : Type := Int × Int × Int × Int
/-- clauses; the class's code, the model's; where the class's laws begin; the laws -/
abbrev RSt : Type := List CRc × List Int × MCd × (Int × Int) × (Law × Law)
def numR (s : Int) (l : List Int) : CRc := (s, l.getD 0 0, l.getD 1 0, l.getD 2 0)
def lwAt (s : Int) (L : Law × Law) : Law := if s = 0 then L.1 else L.2
def frAt (s : Int) (f : Int × Int) : Int := if s = 0 then f.1 else f.2
def clP (K V : Int → Int) (i : Int) (st : RSt) : (Int × Int) ⊕ (Int × RSt) :=
  if ¬ (K i = 0 ∨ (10 ≤ K i ∧ K i ≤ 16)) then .inl (1, i)
  else if (K i = 10 ∧ ¬ st.2.2.2.1.1 = -1) ∨ (K i = 11 ∧ ¬ st.2.2.2.1.2 = -1) then .inl (4, i)
  else if 24 ≤ st.1.length then .inl (6, i)
  else if K i = 10 ∨ K i = 11 then (match (lvP K V (K i - 10) 8).1 (i + 1) st.2.1.length with
    | .inl e => .inl e
    | .inr (j, C, M, D) => if K j = 53 then .inr (j + 1, st.1 ++ [(K i - 10, (st.2.2.1.length : Int), (st.2.2.1.length : Int) + M.length, 0)], st.2.1 ++ (C ++ [53]), st.2.2.1 ++ M, (if K i = 10 then ((st.2.1.length : Int), st.2.2.2.1.2) else (st.2.2.2.1.1, (st.2.1.length : Int))), (if K i = 10 then (some D, st.2.2.2.2.2) else (st.2.2.2.2.1, some D))) else .inl (1, j))
  else (match itP K V (itK (K i)) (i + 1) with
    | .inl e => .inl e
    | .inr x => if K x.1 = 53 then .inr (x.1 + 1, st.1 ++ [numR (msK (K i)) x.2], st.2) else .inl (1, x.1))
def rdP (K V : Int → Int) : Nat → Int → RSt → (Int × Int) ⊕ RSt
  | 0, _, st => .inr st
  | m + 1, i, st => if K i = 54 then .inr st else (match clP K V i st with
    | .inl e => .inl e
    | .inr x => rdP K V m x.1 x.2)
