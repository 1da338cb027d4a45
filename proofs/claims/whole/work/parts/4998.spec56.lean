/-! the model's whole clauses -/
def MRk (h : Nat → Int → Int) (x : Int) (r : CRc) : Prop := h 339 x = r.1 ∧ h 339 (x + 1) = r.2.1 ∧ (r.1 ≤ 5 → h 339 (x + 2) = r.2.2.1) ∧ (r.1 = 4 → h 339 (x + 3) = r.2.2.2)
def oneV (f : Int × Int) : Int := (if f.1 = -1 then 0 else 1) + (if f.2 = -1 then 0 else 2)
def MoI (h : Nat → Int → Int) (t0 : Int) (st : RSt) : Prop := h 339 t0 = st.1.length ∧ Wt h (t0 + 97) st.2.2.1 ∧ h 336 19 = oneV st.2.2.2.1 ∧ ∀ (q : Nat) (r : CRc), st.1[q]? = some r → MRk h (t0 + 1 + 4 * q) r
def MoE (t0 : Int) (h h' : Nat → Int → Int) : Prop := eqX [336, 339, 341] h h' ∧ (∀ k : Int, ¬ psK k → k ≠ 14 → k ≠ 19 → h' 336 k = h 336 k) ∧ ∀ k : Int, (k < t0 ∨ t0 + 705 ≤ k) → h' 339 k = h 339 k
def MoQ (T : Int → Int) (N t0 : Int) (h : Nat → Int → Int) (b : Bool × Bool) (Q : V → Hp → Prop) (r : (Int × Int) ⊕ (Int × RSt)) : Prop := match r with
  | .inl e => ∀ h' hl' : Nat → Int → Int, MoE t0 h h' → h' 336 8 = pF T N e.2 → Q (vi e.1) (HS h' hl' b)
  | .inr x => ∀ h' hl' : Nat → Int → Int, MoE t0 h h' → TkM h' hl' T N x.1 → MoI h' t0 x.2 → Q (vi 0) (HS h' hl' b)
section MOS
variable {h h' h'' : Nat → Int → Int} {t0 : Int}
theorem MoE.rf : MoE t0 h h := ⟨eqX.rf, fun _ _ _ _ => rfl, fun _ _ => rfl⟩
theorem MoE.tr (p : MoE t0 h h') (q : MoE t0 h' h'') : MoE t0 h h'' := ⟨p.1.tr q.1, fun k a b c => (q.2.1 k a b c).trans (p.2.1 k a b c), fun k e => (q.2.2 k e).trans (p.2.2 k e)⟩
theorem MoE.u6 (p : MoE t0 h h') {k v : Int} (e : psK k ∨ k = 14 ∨ k = 19) : MoE t0 h (up h' 336 k v) := ⟨p.1.up (by decide), fun j a b c => by
  rw [up_k (fun z => by rw [z] at a b c; rcases e with e | e | e; exact a e; exact b e; exact c e)]; exact p.2.1 j a b c, fun j e => by rw [up_o (by decide)]; exact p.2.2 j e⟩
theorem MoE.u9 (p : MoE t0 h h') {k v : Int} (k0 : t0 ≤ k) (k1 : k < t0 + 705) : MoE t0 h (up h' 339 k v) := ⟨p.1.up (by decide), fun j a b c => by rw [up_o (by decide)]; exact p.2.1 j a b c, fun j e => by rw [up_k (by omega)]; exact p.2.2 j e⟩
theorem MoE.tk (p : MoE t0 h h') (q : eqTk h' h'') : MoE t0 h h'' := ⟨p.1.tr (q.1.mono (by decide)), fun k a b c => (q.2 k (fun z => a (Or.inl z)) (fun z => a (Or.inr (Or.inl z))) (fun z => a (Or.inr (Or.inr (Or.inl z)))) (fun z => a (Or.inr (Or.inr (Or.inr (Or.inl z)))))).trans (p.2.1 k a b c), fun k e => by rw [q.1 339 (by decide)]; exact p.2.2 k e⟩
theorem MoE.lw {x : Int} (q : LwE x (t0 + 97) h h') (x0 : t0 ≤ x) (x1 : x + 3 < t0 + 705) : MoE t0 h h' := ⟨q.1, fun k a _ _ => q.2.1 k a, fun k e => q.2.2 k (by omega) (by omega)⟩
theorem MoE.fg {x : Int} (q : FgE x h h') (x0 : t0 ≤ x) (x1 : x + 3 < t0 + 705) : MoE t0 h h' := ⟨q.1.mono (by decide), fun k a _ _ => q.2.1 k (fun z => a (Or.inl z)) (fun z => a (Or.inr (Or.inl z))) (fun z => a (Or.inr (Or.inr (Or.inl z)))) (fun z => a (Or.inr (Or.inr (Or.inr (Or.inl z))))), fun k e => q.2.2 k (by omega)⟩
theorem MRk.c {x : Int} {r : CRc} (m : MRk h x r) (e : ∀ k : Int, x ≤ k → k ≤ x + 3 → h' 339 k = h 339 k) : MRk h' x r := by
  unfold MRk
  rw [e x (by omega) (by omega), e (x + 1) (by omega) (by omega), e (x + 2) (by omega) (by omega), e (x + 3) (by omega) (by omega)]; exact m
theorem oneV_t {f : Int × Int} : (tb (oneV f) 0 = true ↔ ¬ f.1 = -1) ∧ (tb (oneV f) 1 = true ↔ ¬ f.2 = -1) := by
  unfold oneV
  by_cases a : f.1 = -1 <;> by_cases c : f.2 = -1
  · rw [if_pos a, if_pos c]; exact ⟨⟨fun z => absurd z (by decide), fun z => absurd a z⟩, ⟨fun z => absurd z (by decide), fun z => absurd c z⟩⟩
  · rw [if_pos a, if_neg c]; exact ⟨⟨fun z => absurd z (by decide), fun z => absurd a z⟩, ⟨fun _ => c, fun _ => by decide⟩⟩
  · rw [if_neg a, if_pos c]; exact ⟨⟨fun _ => a, fun _ => by decide⟩, ⟨fun z => absurd z (by decide), fun z => absurd c z⟩⟩
  · rw [if_neg a, if_neg c]; exact ⟨⟨fun _ => a, fun _ => by decide⟩, ⟨fun _ => c, fun _ => by decide⟩⟩
theorem oneV_R {f : Int × Int} : 0 ≤ oneV f ∧ oneV f ≤ 3 := by unfold oneV; split <;> split <;> omega
theorem oneV_0 {f : Int × Int} {u : Int} (a : f.1 = -1) (hu : ¬ u = -1) : bor (oneV f) (shl 1 0) = oneV (u, f.2) := by
  unfold oneV
  rw [if_pos a, if_neg hu]
  split <;> decide
theorem oneV_1 {f : Int × Int} {u : Int} (a : f.2 = -1) (hu : ¬ u = -1) : bor (oneV f) (shl 1 1) = oneV (f.1, u) := by
  unfold oneV
  rw [if_pos a, if_neg hu]
  split <;> decide
end MOS

theorem wX9_bodyL {G : GT} {δ : Nat} {h hl : Nat → Int → Int} {b : Bool × Bool} {Q : V → Hp → Prop} {n i u x N c0 s : Int} {T : Int → Int} {W : MCd} (hδ : δ ≤ 1520) (Pb : PsB T N c0 s h) (M : TkM h hl T N i) (i0 : 0 ≤ i) (i1 : i ≤ n - 1) (t : TkE (kF T N) n) (hW : Wt h c0 W) (wl : (W.length : Int) ≤ i) (x0 : 0 ≤ x) (x1 : x + 3 < c0) (hF : (∀ f j, (lvP (kF T N) (vF T N) s 8).1 i u = .inl (f, j) → ∀ h' hl' : Nat → Int → Int, LwE x c0 h h' → h' 336 8 = pF T N j → Q (vi f) (HS h' hl' b))) (hQ : ∀ j C Mm D, (lvP (kF T N) (vF T N) s 8).1 i u = .inr (j, C, Mm, D) → ∀ h' hl' : Nat → Int → Int, LwE x c0 h h' → TkM h' hl' T N j → Wt h' c0 (W ++ Mm) → h' 339 (x + 1) = W.length → h' 339 (x + 2) = W.length + Mm.length → Q (vi 0) (HS h' hl' b)) : WP G δ 0 0 MX9_body 0 [vr 336, vi s, vi x] [] (HS h hl b) Q := by
  have s01 := Pb.2.2.2
  refine il_1 dX9_body_0 ?_
  refine wp_tswD 125 dX9_body_1 (by omega) rfl ?_
  refine al_0 dX9_body_125 ?_
  refine il_2 dX9_body_126 ?_
  refine c_X9_239 dX9_body_127 rfl tt336 (Nat.le_of_ble_eq_true rfl) (by omega) ?_
  refine wX9_lawClause (n := n) (u := u) (W := W) (by omega) Pb M i0 i1 t hW wl x0 x1 (fun f j hr h1 hl1 E1 p1 => ?_) (fun j C Mm D hr h1 hl1 E1 M1 W1 v1 v2 => ?_)
  · refine pv_i ?_
    exact wp_ireti dX9_body_130 rfl (hF f j hr h1 hl1 E1 p1)
  · refine pv_i ?_
    exact wp_ireti dX9_body_130 rfl (hQ j C Mm D hr h1 hl1 E1 M1 W1 v1 v2)

theorem wX9_clause_108 {G : GT} {δ : Nat} {h hl : Nat → Int → Int} {b : Bool × Bool} {Q : V → Hp → Prop} {j n N t0 : Int} {T : Int → Int} {h0 : Nat → Int → Int} {cls : List CRc} {CC : List Int} {MM : MCd} {fr : Int × Int} {LL : Law × Law} {r : CRc} {s x : Int} (hδ : δ ≤ 1500) (E : MoE t0 h0 h) (hN : h 336 4 = N) (hT : h 340 = T) (B : BY T N) (M : TkM h hl T N j) (j0 : 0 ≤ j) (j1 : j ≤ n - 1) (t : TkE (kF T N) n) (h12 : h 336 12 = t0) (tr : 0 ≤ t0 ∧ t0 + 705 ≤ 2820) (l0 : h 339 t0 = cls.length) (hW : Wt h (t0 + 97) MM) (h19 : h 336 19 = oneV fr) (old : ∀ (q : Nat) (r : CRc), cls[q]? = some r → MRk h (t0 + 1 + 4 * q) r) (new : MRk h (t0 + 1 + 4 * cls.length) r) (l24 : cls.length < 24) (hQ : MoQ T N t0 h0 b Q (if kF T N j = 53 then .inr (j + 1, cls ++ [r], CC, MM, fr, LL) else .inl (1, j))) : WP G δ 0 0 MX9_clause 108 [vr 336, vi s, vi cls.length, vi x, vi 0] [] (HS h hl b) Q := by
  have g53 := M.sg (x := 53) (by decide) (by decide)
  rw [show tsg 53 = 59 by decide] at g53
  refine al_0 dX9_clause_108 ?_
  refine g_X9_16 (339) dX9_clause_109 rfl tt336 (rr9_2 tt336) (by omega) ?_
  refine al_0 dX9_clause_112 ?_
  refine g_X9_138 dX9_clause_113 rfl tt336 ?_
  rw [h12]
  refine wp_dup2 dX9_clause_116 rfl rfl ?_
  refine wp_iaload dX9_clause_117 tt339 (by omega) (by omega) ?_
  rw [l0]
  refine ic_1 dX9_clause_118 ?_
  refine wp_iadd dX9_clause_119 (r32 (by omega) (by omega)) ?_
  refine wp_iastore dX9_clause_120 tt339 (by omega) (by omega) ?_
  refine al_0 dX9_clause_121 ?_
  refine g_X9_100 dX9_clause_122 rfl tt336 ?_
  rw [up_o (o := 339) (q := 336) (by decide)]
  refine bi_59 dX9_clause_125 ?_
  refine wp_icmp_eq 132 dX9_clause_127 rfl (fun c127 => ?_) (fun c127 => ?_)
  · refine al_0 dX9_clause_132 ?_
    refine c_X9_175 dX9_clause_133 rfl tt336 (Nat.le_of_ble_eq_true rfl) (by omega) ?_
    have k53 : kF T N j = 53 := g53.mp c127
    refine wX9_nextTokenM (T := T) (N := N) (j := j) (by omega) (by rw [up_o (by decide)]; exact hN) (by rw [up_o' (by decide)]; exact hT) B (by omega) (by rw [up_o (by decide)]; exact M.1) (fun h1 hl1 E1 M1 => ?_)
    refine pv_n ?_
    refine ic_0 dX9_clause_136 ?_
    refine wp_ireti dX9_clause_137 rfl ?_
    rw [if_pos k53] at hQ
    have ke : ∀ k : Int, k ≠ t0 → h1 339 k = h 339 k := fun k hk => by rw [E1.1 339 (by decide), up_k hk]
    refine hQ h1 hl1 ((E.u9 (by omega) (by omega)).tk E1) M1 ⟨?_, hW.c ?_ (fun k k0 k1 => ke k (by omega)), ?_, fun q r' hr => ?_⟩
    · rw [E1.1 339 (by decide), up_s]; show _ = (((cls ++ [r]).length : Nat) : Int); simp
    · rw [E1.2 13 (by decide) (by decide) (by decide) (by decide), up_o (by decide)]
    · rw [E1.2 19 (by decide) (by decide) (by decide) (by decide), up_o (by decide)]; exact h19
    · rcases snoc_at hr with ⟨x1, x2⟩ | ⟨x1, x2⟩
      · exact (old q r' x2).c (fun k k0 k1 => ke k (by omega))
      · subst x1 x2
        exact new.c (fun k k0 k1 => ke k (by omega))
  · refine ic_1 dX9_clause_130 ?_
    refine wp_ireti dX9_clause_131 rfl ?_
    rw [if_neg (fun z => c127 (g53.mpr z))] at hQ
    exact hQ _ hl (E.u9 (by omega) (by omega)) (by rw [up_o (by decide)]; exact M.2.1)

theorem wX9_clause_L {G : GT} {δ : Nat} {h hl : Nat → Int → Int} {b : Bool × Bool} {Q : V → Hp → Prop} {i n N t0 : Int} {T : Int → Int} {st : RSt} {h0 : Nat → Int → Int} {s : Int} {fr : Int × Int} {LL : DV → Law × Law} (hδ : δ ≤ 1490) (E : MoE t0 h0 h) (hN : h 336 4 = N) (hT : h 340 = T) (B : BY T N) (M : TkM h hl T N i) (i0 : 0 ≤ i) (i1 : i ≤ n - 1) (t : TkE (kF T N) n) (h12 : h 336 12 = t0) (tr : 0 ≤ t0 ∧ t0 + 705 ≤ 2820) (l0 : h 339 t0 = st.1.length) (hW : Wt h (t0 + 97) st.2.2.1) (old : ∀ (q : Nat) (r : CRc), st.1[q]? = some r → MRk h (t0 + 1 + 4 * q) r) (l24 : st.1.length < 24) (h19 : h 336 19 = oneV fr) (hs : s = kF T N i - 10) (s01 : s = 0 ∨ s = 1) (wl : (st.2.2.1.length : Int) ≤ i)
    (hF : ∀ f j, (lvP (kF T N) (vF T N) s 8).1 (i + 1) st.2.1.length = .inl (f, j) → ∀ h' hl' : Nat → Int → Int, MoE t0 h0 h' → h' 336 8 = pF T N j → Q (vi f) (HS h' hl' b))
    (hQ : ∀ j C Mm D, (lvP (kF T N) (vF T N) s 8).1 (i + 1) st.2.1.length = .inr (j, C, Mm, D) → MoQ T N t0 h0 b Q (if kF T N j = 53 then .inr (j + 1, st.1 ++ [(s, (st.2.2.1.length : Int), (st.2.2.1.length : Int) + Mm.length, 0)], st.2.1 ++ (C ++ [53]), st.2.2.1 ++ Mm, fr, LL D) else .inl (1, j))) : WP G δ 0 0 MX9_clause 65 [vr 336, vi s, vi st.1.length, vn, vn] [] (HS h hl b) Q := by
  have tn := t.2.1
  have hx0 : 0 ≤ t0 + 1 + 4 * (st.1.length : Int) := by omega
  have i2 := tk_lt t i1 (by omega)
  have kp := kmp_ms (k := kF T N i) (by omega)
  refine al_0 dX9_clause_65 ?_
  refine il_1 dX9_clause_66 ?_
  refine p_X9_152 dX9_clause_67 rfl tt336 ?_
  refine al_0 dX9_clause_70 ?_
  refine c_X9_175 dX9_clause_71 rfl tt336 (Nat.le_of_ble_eq_true rfl) (by omega) ?_
  refine wX9_nextTokenM (T := T) (N := N) (j := i) (by omega) (by rw [up_k (by decide)]; exact hN) (by rw [up_o' (by decide)]; exact hT) B (by omega) (by rw [up_k (by decide)]; exact M.1) (fun h1 hl1 E1 M1 => ?_)
  have g12 : h1 336 12 = t0 := by rw [E1.2 12 (by decide) (by decide) (by decide) (by decide), up_k (by decide)]; exact h12
  have g14 : h1 336 14 = s := by rw [E1.2 14 (by decide) (by decide) (by decide) (by decide), up_s]
  refine pv_n ?_
  refine al_0 dX9_clause_74 ?_
  refine g_X9_138 dX9_clause_75 rfl tt336 ?_
  rw [g12]
  refine ic_1 dX9_clause_78 ?_
  refine wp_iadd dX9_clause_79 (r32 (by omega) (by omega)) ?_
  refine ic_4 dX9_clause_80 ?_
  refine il_2 dX9_clause_81 ?_
  refine wp_imul dX9_clause_82 (r32 (by omega) (by omega)) ?_
  refine wp_iadd dX9_clause_83 (r32 (by omega) (by omega)) ?_
  refine is_3 dX9_clause_84 rfl (by decide) ?_
  refine al_0 dX9_clause_85 ?_
  refine g_X9_16 (339) dX9_clause_86 rfl tt336 (rr9_2 tt336) (by omega) ?_
  refine il_3 dX9_clause_89 ?_
  refine il_1 dX9_clause_90 ?_
  refine wp_iastore dX9_clause_91 tt339 (by omega) (by omega) ?_
  refine al_0 dX9_clause_92 ?_
  refine il_1 dX9_clause_93 ?_
  refine il_3 dX9_clause_94 ?_
  obtain ⟨h2, e2⟩ : ∃ h2, h2 = up h1 339 (t0 + 1 + 4 * st.1.length) s := ⟨_, rfl⟩
  rw [← e2]
  have F2 : MoE t0 h0 h2 := by rw [e2]; exact ((E.u6 (Or.inr (Or.inl rfl))).tk E1).u9 (by omega) (by omega)
  have M2 : TkM h2 hl1 T N (i + 1) := M1.c (by rw [e2, up_o (by decide)]) (by rw [e2, up_o (by decide)]) (by rw [e2, up_o (by decide)]) (by rw [e2, up_o (by decide)]) rfl
  have b4 : h2 336 4 = N := by rw [e2, up_o (by decide), E1.2 4 (by decide) (by decide) (by decide) (by decide), up_k (by decide)]; exact hN
  have b40 : h2 340 = T := by rw [e2, up_o' (by decide), E1.1 340 (by decide), up_o' (by decide)]; exact hT
  have b12 : h2 336 12 = t0 := by rw [e2, up_o (by decide)]; exact g12
  have b14 : h2 336 14 = s := by rw [e2, up_o (by decide)]; exact g14
  have b19 : h2 336 19 = h 336 19 := by rw [e2, up_o (by decide), E1.2 19 (by decide) (by decide) (by decide) (by decide), up_k (by decide)]
  have b13 : h2 336 13 = h 336 13 := by rw [e2, up_o (by decide), E1.2 13 (by decide) (by decide) (by decide) (by decide), up_k (by decide)]
  have b9 : ∀ k : Int, k ≠ t0 + 1 + 4 * st.1.length → h2 339 k = h 339 k := fun k hk => by rw [e2, up_k hk, E1.1 339 (by decide), up_o (by decide)]
  have b9s : h2 339 (t0 + 1 + 4 * st.1.length) = s := by rw [e2, up_s]
  have bW : Wt h2 (t0 + 97) st.2.2.1 := hW.c b13 (fun k k0 k1 => b9 k (by omega))
  have bo : ∀ (q : Nat) (r : CRc), st.1[q]? = some r → MRk h2 (t0 + 1 + 4 * q) r := fun q r hr => by
    have ql := (List.getElem?_eq_some_iff.mp hr).1
    exact (old q r hr).c (fun k k0 k1 => b9 k (by omega))
  have bl : h2 339 t0 = st.1.length := by rw [b9 t0 (by omega)]; exact l0
  refine c_X9_252 dX9_clause_95 rfl tt336 (Nat.le_of_ble_eq_true rfl) (by omega) ?_
  have g := (lvP_G (V := vF T N) (s := s) t 8).1 (i + 1) st.2.1.length (by omega) i2
  have gf := (lvP_F (K := kF T N) (V := vF T N) (s := s) 8).1 (i + 1) st.2.1.length
  refine wX9_bodyL (n := n) (u := st.2.1.length) (c0 := t0 + 97) (W := st.2.2.1) (by omega) ⟨⟨b4, b40, by omega, b14⟩, by omega, B, s01⟩ M2 (by omega) i2 t bW (by omega) (by omega) (by omega) (fun f j hr h3 hl3 E3 p3 => ?_) (fun j C Mm D hr h3 hl3 E3 M3 W3 v1 v2 => ?_)
  · refine pv_i ?_
    have f1 := gf _ hr
    have f1 : 1 ≤ f := f1
    refine is_4 dX9_clause_98 rfl (by decide) ?_
    refine il_4 dX9_clause_100 ?_
    refine wp_if_eq 108 dX9_clause_102 rfl (fun c102 => ?_) (fun c102 => ?_)
    · omega
    · refine il_4 dX9_clause_105 ?_
      refine wp_ireti dX9_clause_107 rfl ?_
      exact hF f j hr h3 hl3 (F2.tr (MoE.lw E3 (by omega) (by omega))) p3
  · refine pv_i ?_
    rw [hr] at g
    obtain ⟨r1, r2, r3, r4⟩ := g
    refine is_4 dX9_clause_98 rfl (by decide) ?_
    refine il_4 dX9_clause_100 ?_
    refine wp_if_eq 108 dX9_clause_102 rfl (fun c102 => ?_) (fun c102 => ?_)
    · have ke : ∀ k : Int, (k ≤ t0 + 1 + 4 * (st.1.length : Int) ∨ t0 + 1 + 4 * (st.1.length : Int) + 3 < k) → (k < t0 + 97) → h3 339 k = h2 339 k := fun k a c => E3.2.2 k a (by omega)
      have kk : ∀ k : Int, ¬ psK k → h3 336 k = h2 336 k := E3.2.1
      refine wX9_clause_108 (n := n) (cls := st.1) (CC := st.2.1 ++ (C ++ [53])) (MM := st.2.2.1 ++ Mm) (fr := fr) (LL := LL D) (r := (s, (st.2.2.1.length : Int), (st.2.2.1.length : Int) + Mm.length, 0)) (h0 := h0) (by omega) (F2.tr (MoE.lw E3 (by omega) (by omega))) (by rw [kk 4 (by unfold psK; omega)]; exact b4) (by rw [E3.1 340 (by decide)]; exact b40) B M3 (by omega) r2 t (by rw [kk 12 (by unfold psK; omega)]; exact b12) tr (by rw [ke t0 (by omega) (by omega)]; exact bl) W3 (by rw [kk 19 (by unfold psK; omega), b19]; exact h19) (fun q r hr => ?_) ⟨?_, v1, fun _ => ?_, fun z => ?_⟩ l24 (hQ j C Mm D hr)
      · have ql := (List.getElem?_eq_some_iff.mp hr).1
        exact (bo q r hr).c (fun k k0 k1 => ke k (by omega) (by omega))
      · rw [ke _ (by omega) (by omega)]; exact b9s
      · exact v2
      · exfalso; have z : s = 4 := z; omega
    · exact absurd rfl c102

theorem wX9_clause_O {G : GT} {δ : Nat} {h hl : Nat → Int → Int} {b : Bool × Bool} {Q : V → Hp → Prop} {i n N t0 : Int} {T : Int → Int} {st : RSt} {h0 : Nat → Int → Int} {s : Int} (hδ : δ ≤ 1490) (E : MoE t0 h0 h) (hN : h 336 4 = N) (hT : h 340 = T) (B : BY T N) (M : TkM h hl T N i) (i0 : 0 ≤ i) (i1 : i ≤ n - 1) (t : TkE (kF T N) n) (h12 : h 336 12 = t0) (tr : 0 ≤ t0 ∧ t0 + 705 ≤ 2820) (l0 : h 339 t0 = st.1.length) (hW : Wt h (t0 + 97) st.2.2.1) (old : ∀ (q : Nat) (r : CRc), st.1[q]? = some r → MRk h (t0 + 1 + 4 * q) r) (l24 : st.1.length < 24) (h19 : h 336 19 = oneV st.2.2.2.1) (hs : s = msK (kF T N i)) (hk : kF T N i = 0 ∨ (12 ≤ kF T N i ∧ kF T N i ≤ 16)) (s27 : 2 ≤ s ∧ s ≤ 7)
    (hQ : MoQ T N t0 h0 b Q (match itP (kF T N) (vF T N) (itK (kF T N i)) (i + 1) with | .inl e => .inl e | .inr x => if kF T N x.1 = 53 then .inr (x.1 + 1, st.1 ++ [numR s x.2], st.2) else .inl (1, x.1))) : WP G δ 0 0 MX9_clause 65 [vr 336, vi s, vi st.1.length, vn, vn] [] (HS h hl b) Q := by
  have tn := t.2.1
  have hx0 : 0 ≤ t0 + 1 + 4 * (st.1.length : Int) := by omega
  have i2 := tk_lt t i1 (by omega)
  have kp := kmp_ms (k := kF T N i) (by omega)
  refine al_0 dX9_clause_65 ?_
  refine il_1 dX9_clause_66 ?_
  refine p_X9_152 dX9_clause_67 rfl tt336 ?_
  refine al_0 dX9_clause_70 ?_
  refine c_X9_175 dX9_clause_71 rfl tt336 (Nat.le_of_ble_eq_true rfl) (by omega) ?_
  refine wX9_nextTokenM (T := T) (N := N) (j := i) (by omega) (by rw [up_k (by decide)]; exact hN) (by rw [up_o' (by decide)]; exact hT) B (by omega) (by rw [up_k (by decide)]; exact M.1) (fun h1 hl1 E1 M1 => ?_)
  have g12 : h1 336 12 = t0 := by rw [E1.2 12 (by decide) (by decide) (by decide) (by decide), up_k (by decide)]; exact h12
  have g14 : h1 336 14 = s := by rw [E1.2 14 (by decide) (by decide) (by decide) (by decide), up_s]
  refine pv_n ?_
  refine al_0 dX9_clause_74 ?_
  refine g_X9_138 dX9_clause_75 rfl tt336 ?_
  rw [g12]
  refine ic_1 dX9_clause_78 ?_
  refine wp_iadd dX9_clause_79 (r32 (by omega) (by omega)) ?_
  refine ic_4 dX9_clause_80 ?_
  refine il_2 dX9_clause_81 ?_
  refine wp_imul dX9_clause_82 (r32 (by omega) (by omega)) ?_
  refine wp_iadd dX9_clause_83 (r32 (by omega) (by omega)) ?_
  refine is_3 dX9_clause_84 rfl (by decide) ?_
  refine al_0 dX9_clause_85 ?_
  refine g_X9_16 (339) dX9_clause_86 rfl tt336 (rr9_2 tt336) (by omega) ?_
  refine il_3 dX9_clause_89 ?_
  refine il_1 dX9_clause_90 ?_
  refine wp_iastore dX9_clause_91 tt339 (by omega) (by omega) ?_
  refine al_0 dX9_clause_92 ?_
  refine il_1 dX9_clause_93 ?_
  refine il_3 dX9_clause_94 ?_
  obtain ⟨h2, e2⟩ : ∃ h2, h2 = up h1 339 (t0 + 1 + 4 * st.1.length) s := ⟨_, rfl⟩
  rw [← e2]
  have F2 : MoE t0 h0 h2 := by rw [e2]; exact ((E.u6 (Or.inr (Or.inl rfl))).tk E1).u9 (by omega) (by omega)
  have M2 : TkM h2 hl1 T N (i + 1) := M1.c (by rw [e2, up_o (by decide)]) (by rw [e2, up_o (by decide)]) (by rw [e2, up_o (by decide)]) (by rw [e2, up_o (by decide)]) rfl
  have b4 : h2 336 4 = N := by rw [e2, up_o (by decide), E1.2 4 (by decide) (by decide) (by decide) (by decide), up_k (by decide)]; exact hN
  have b40 : h2 340 = T := by rw [e2, up_o' (by decide), E1.1 340 (by decide), up_o' (by decide)]; exact hT
  have b12 : h2 336 12 = t0 := by rw [e2, up_o (by decide)]; exact g12
  have b14 : h2 336 14 = s := by rw [e2, up_o (by decide)]; exact g14
  have b19 : h2 336 19 = h 336 19 := by rw [e2, up_o (by decide), E1.2 19 (by decide) (by decide) (by decide) (by decide), up_k (by decide)]
  have b13 : h2 336 13 = h 336 13 := by rw [e2, up_o (by decide), E1.2 13 (by decide) (by decide) (by decide) (by decide), up_k (by decide)]
  have b9 : ∀ k : Int, k ≠ t0 + 1 + 4 * st.1.length → h2 339 k = h 339 k := fun k hk => by rw [e2, up_k hk, E1.1 339 (by decide), up_o (by decide)]
  have b9s : h2 339 (t0 + 1 + 4 * st.1.length) = s := by rw [e2, up_s]
  have bW : Wt h2 (t0 + 97) st.2.2.1 := hW.c b13 (fun k k0 k1 => b9 k (by omega))
  have bo : ∀ (q : Nat) (r : CRc), st.1[q]? = some r → MRk h2 (t0 + 1 + 4 * q) r := fun q r hr => by
    have ql := (List.getElem?_eq_some_iff.mp hr).1
    exact (old q r hr).c (fun k k0 k1 => b9 k (by omega))
  have bl : h2 339 t0 = st.1.length := by rw [b9 t0 (by omega)]; exact l0
  refine c_X9_252 dX9_clause_95 rfl tt336 (Nat.le_of_ble_eq_true rfl) (by omega) ?_
  have g := itP_G (V := vF T N) t (itK (kF T N i)) (i + 1) (fun w h => itK_w h) (by omega) i2
  have gf := itP_F (K := kF T N) (V := vF T N) (itK (kF T N i)) (i + 1)
  have hk2 : kF T N i = 0 ∨ (12 ≤ kF T N i ∧ kF T N i ≤ 16) := by omega
  have gn := itK_n hk2
  have ks : kmp s = kF T N i := by rw [hs]; exact kp.1
  refine wX9_bodyO (x := t0 + 1 + 4 * st.1.length) (h0 := h2) (by omega) b4 b40 B M2 (by omega) FgE.rf (by omega) (by omega) (by omega) (by omega) (OQ_of _ _ _ ?_)
  rw [ks]
  cases hr : itP (kF T N) (vF T N) (itK (kF T N i)) (i + 1) with
  | inl e =>
    rw [hr] at hQ
    intro h3 hl3 E3 p3
    have f1 := gf e hr
    refine pv_i ?_
    refine is_4 dX9_clause_98 rfl (by decide) ?_
    refine il_4 dX9_clause_100 ?_
    refine wp_if_eq 108 dX9_clause_102 rfl (fun c102 => ?_) (fun c102 => ?_)
    · omega
    · refine il_4 dX9_clause_105 ?_
      refine wp_ireti dX9_clause_107 rfl ?_
      exact hQ h3 hl3 (F2.tr (MoE.fg E3 (by omega) (by omega))) p3
  | inr z =>
    rw [hr] at hQ g
    have hQ : MoQ T N t0 h0 b Q (if kF T N z.1 = 53 then .inr (z.1 + 1, st.1 ++ [numR s z.2], st.2) else .inl (1, z.1)) := hQ
    obtain ⟨r1, r2, r3⟩ := g
    intro h3 hl3 E3 M3 N3
    have N3 : NumM (t0 + 1 + 4 * st.1.length) h3 z.2 := N3
    refine pv_i ?_
    refine is_4 dX9_clause_98 rfl (by decide) ?_
    refine il_4 dX9_clause_100 ?_
    refine wp_if_eq 108 dX9_clause_102 rfl (fun c102 => ?_) (fun c102 => ?_)
    · have ke : ∀ k : Int, (k ≤ t0 + 1 + 4 * (st.1.length : Int) ∨ t0 + 1 + 4 * (st.1.length : Int) + 3 < k) → h3 339 k = h2 339 k := fun k a => E3.2.2 k a
      refine wX9_clause_108 (n := n) (cls := st.1) (CC := st.2.1) (MM := st.2.2.1) (fr := st.2.2.2.1) (LL := st.2.2.2.2) (r := numR s z.2) (h0 := h0) (by omega) (F2.tr (MoE.fg E3 (by omega) (by omega))) (by rw [E3.2.1 4 (by decide) (by decide) (by decide) (by decide)]; exact b4) (by rw [E3.1 340 (by decide)]; exact b40) B M3 (by omega) r2 t (by rw [E3.2.1 12 (by decide) (by decide) (by decide) (by decide)]; exact b12) tr (by rw [ke t0 (by omega)]; exact bl) (bW.c (E3.2.1 13 (by decide) (by decide) (by decide) (by decide)) (fun k k0 k1 => ke k (by omega))) (by rw [E3.2.1 19 (by decide) (by decide) (by decide) (by decide), b19]; exact h19) (fun q r hr => ?_) ⟨?_, ?_, fun y => ?_, fun y => ?_⟩ l24 hQ
      · have ql := (List.getElem?_eq_some_iff.mp hr).1
        exact (bo q r hr).c (fun k k0 k1 => ke k (by omega))
      · rw [ke _ (by omega)]; exact b9s
      · have := N3 0 (by rw [r3, gn]; split <;> (try split) <;> omega)
        rw [show t0 + 1 + 4 * (st.1.length : Int) + 1 + ((0 : Nat) : Int) = t0 + 1 + 4 * (st.1.length : Int) + 1 by omega] at this
        exact this
      · have y : s ≤ 5 := y
        have := N3 1 (by rw [r3, gn]; split <;> (try split) <;> omega)
        rw [show t0 + 1 + 4 * (st.1.length : Int) + 1 + ((1 : Nat) : Int) = t0 + 1 + 4 * (st.1.length : Int) + 2 by omega] at this
        exact this
      · have y : s = 4 := y
        have := N3 2 (by rw [r3, gn]; split <;> (try split) <;> omega)
        rw [show t0 + 1 + 4 * (st.1.length : Int) + 1 + ((2 : Nat) : Int) = t0 + 1 + 4 * (st.1.length : Int) + 3 by omega] at this
        exact this
    · exact absurd rfl c102
