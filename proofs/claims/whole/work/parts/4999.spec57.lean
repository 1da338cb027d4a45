/-! the model reads a text -/
theorem wX9_clause {G : GT} {δ : Nat} {h hl : Nat → Int → Int} {b : Bool × Bool} {Q : V → Hp → Prop} {i n N t0 : Int} {T : Int → Int} {st : RSt} (hδ : δ ≤ 1480) (hN : h 336 4 = N) (hT : h 340 = T) (B : BY T N) (M : TkM h hl T N i) (i0 : 0 ≤ i) (i1 : i ≤ n - 1) (t : TkE (kF T N) n) (h12 : h 336 12 = t0) (tr : 0 ≤ t0 ∧ t0 + 705 ≤ 2820) (D : MoI h t0 st) (l24 : st.1.length ≤ 24) (wl : (st.2.2.1.length : Int) ≤ i) (hQ : MoQ T N t0 h b Q (clP (kF T N) (vF T N) i st)) : WP G δ 0 0 MX9_clause 0 [vr (336), vn, vn, vn, vn] [] (HS h hl b) Q := by
  have tn := t.2.1
  have kr := kF_R (T := T) (N := N) i
  obtain ⟨l0, hW, h19, old⟩ := D
  have ot := oneV_t (f := st.2.2.2.1)
  have oR := oneV_R (f := st.2.2.2.1)
  have km := kmp_ms (k := kF T N i)
  obtain ⟨s, hv⟩ : ∃ s, s = (if kF T N i = 0 ∨ (10 ≤ kF T N i ∧ kF T N i ≤ 16) then msK (kF T N i) else -1) := ⟨_, rfl⟩
  unfold clP at hQ
  have T29 : (kF T N i = 0 ∨ (10 ≤ kF T N i ∧ kF T N i ≤ 16)) → s = msK (kF T N i) → (0 ≤ s ∧ s ≤ 7) → ¬ ((kF T N i = 10 ∧ ¬ st.2.2.2.1.1 = -1) ∨ (kF T N i = 11 ∧ ¬ st.2.2.2.1.2 = -1)) → MoQ T N t0 h b Q (if 24 ≤ st.1.length then .inl (6, i) else if (kF T N) i = 10 ∨ (kF T N) i = 11 then (match (lvP (kF T N) (vF T N) ((kF T N) i - 10) 8).1 (i + 1) st.2.1.length with | .inl e => .inl e | .inr (j, C, M, D) => if (kF T N) j = 53 then .inr (j + 1, st.1 ++ [((kF T N) i - 10, (st.2.2.1.length : Int), (st.2.2.1.length : Int) + M.length, 0)], st.2.1 ++ (C ++ [53]), st.2.2.1 ++ M, (if (kF T N) i = 10 then ((st.2.1.length : Int), st.2.2.2.1.2) else (st.2.2.2.1.1, (st.2.1.length : Int))), (if (kF T N) i = 10 then (some D, st.2.2.2.2.2) else (st.2.2.2.2.1, some D))) else .inl (1, j)) else (match itP (kF T N) (vF T N) (itK ((kF T N) i)) (i + 1) with | .inl e => .inl e | .inr x => if (kF T N) x.1 = 53 then .inr (x.1 + 1, st.1 ++ [numR (msK ((kF T N) i)) x.2], st.2) else .inl (1, x.1))) → WP G δ 0 0 MX9_clause 29 [vr 336, vi s, vn, vn, vn] [] (HS h hl b) Q := by
    intro hk hs s07 nt hQ
    have km := km hk
    clear hv
    refine al_0 dX9_clause_29 ?_
    refine g_X9_16 (339) dX9_clause_30 rfl tt336 (rr9_2 tt336) (by omega) ?_
    refine al_0 dX9_clause_33 ?_
    refine g_X9_138 dX9_clause_34 rfl tt336 ?_
    rw [h12]
    refine wp_iaload dX9_clause_37 tt339 (by omega) (by omega) ?_
    rw [l0]
    refine is_2 dX9_clause_38 rfl (by decide) ?_
    refine il_2 dX9_clause_39 ?_
    refine bi_24 dX9_clause_40 ?_
    refine wp_icmp_ne 48 dX9_clause_42 rfl (fun c42 => ?_) (fun c42 => ?_)
    · rw [if_neg (by omega)] at hQ
      refine il_1 dX9_clause_48 ?_
      refine ic_1 dX9_clause_49 ?_
      refine wp_icmp_gt 65 dX9_clause_50 rfl (fun c50 => ?_) (fun c50 => ?_)
      · rw [if_neg (by omega)] at hQ
        refine wp_fg (ls' := [_, _, _, vn, vn]) ⟨Or.inr rfl, Or.inr rfl, Or.inr rfl, Or.inr rfl, Or.inr rfl, trivial⟩ ?_
        exact wX9_clause_O (n := n) (st := st) (s := s) (h0 := h) (by omega) MoE.rf hN hT B M i0 i1 t h12 tr l0 hW old (by omega) h19 hs (by omega) (by omega) (by rw [hs]; exact hQ)
      · refine al_0 dX9_clause_53 ?_
        refine wp_dup dX9_clause_54 rfl ?_
        refine g_X9_245 dX9_clause_55 rfl tt336 ?_
        rw [h19]
        refine ic_1 dX9_clause_58 ?_
        refine il_1 dX9_clause_59 ?_
        refine wp_ishl dX9_clause_60 ?_
        refine wp_ior dX9_clause_61 ?_
        refine p_X9_245 dX9_clause_62 rfl tt336 ?_
        have k1 : kF T N i = 10 ∨ kF T N i = 11 := by omega
        rw [if_pos k1] at hQ
        have hs1 : s = kF T N i - 10 := by omega
        rw [← hs1] at hQ
        have h19' : up h 336 19 (bor (oneV st.2.2.2.1) (shl 1 s)) 336 19 = oneV (if kF T N i = 10 then ((st.2.1.length : Int), st.2.2.2.1.2) else (st.2.2.2.1.1, (st.2.1.length : Int))) := by
          rw [up_s]
          rcases k1 with z | z
          · rw [if_pos z, show s = 0 by omega]; exact oneV_0 (by omega) (by omega)
          · rw [if_neg (by omega), show s = 1 by omega]; exact oneV_1 (by omega) (by omega)
        refine wX9_clause_L (n := n) (st := st) (s := s) (h0 := h) (fr := (if kF T N i = 10 then ((st.2.1.length : Int), st.2.2.2.1.2) else (st.2.2.2.1.1, (st.2.1.length : Int)))) (LL := fun D => if kF T N i = 10 then (some D, st.2.2.2.2.2) else (st.2.2.2.2.1, some D)) (by omega) (MoE.rf.u6 (Or.inr (Or.inr rfl))) (by rw [up_k (by decide)]; exact hN) (by rw [up_o' (by decide)]; exact hT) B (M.c (by rw [up_k (by decide)]) (by rw [up_k (by decide)]) (by rw [up_k (by decide)]) (by rw [up_k (by decide)]) rfl) i0 i1 t (by rw [up_k (by decide)]; exact h12) tr (by rw [up_o (by decide)]; exact l0) (hW.c (by rw [up_k (by decide)]) (fun k _ _ => by rw [up_o (by decide)])) (fun q r hr => (old q r hr).c (fun k _ _ => by rw [up_o (by decide)])) (by omega) h19' hs1 (by omega) wl (fun f j hr => ?_) (fun j C Mm D hr => ?_)
        · rw [hr] at hQ; exact hQ
        · rw [hr] at hQ; exact hQ
    · refine bi_6 dX9_clause_45 ?_
      refine wp_ireti dX9_clause_47 rfl ?_
      rw [if_pos (by omega)] at hQ
      exact hQ h hl MoE.rf M.2.1
  have sR : (kF T N i = 0 ∨ (10 ≤ kF T N i ∧ kF T N i ≤ 16)) → s = msK (kF T N i) ∧ 0 ≤ s ∧ s ≤ 7 := fun hk => by
    have km := km hk
    have e : s = msK (kF T N i) := by rw [hv, if_pos hk]
    refine ⟨e, ?_, ?_⟩
    · rcases (show kF T N i = 0 ∨ ¬ kF T N i = 0 by omega) with z | z
      · rw [e, km.2.1 z]; decide
      · rw [e, km.2.2 z]; omega
    · rcases (show kF T N i = 0 ∨ ¬ kF T N i = 0 by omega) with z | z
      · rw [e, km.2.1 z]; decide
      · rw [e, km.2.2 z]; omega
  refine al_0 dX9_clause_0 ?_
  refine c_X9_242 dX9_clause_1 rfl tt336 (Nat.le_of_ble_eq_true rfl) (by omega) ?_
  refine wX9_sortOf (by omega) M ?_
  rw [← hv]
  refine pv_i ?_
  refine is_1 dX9_clause_4 rfl (by decide) ?_
  refine il_1 dX9_clause_5 ?_
  refine wp_if_ge 11 dX9_clause_6 rfl (fun c6 => ?_) (fun c6 => ?_)
  · have hk : kF T N i = 0 ∨ (10 ≤ kF T N i ∧ kF T N i ≤ 16) := by
      by_cases z : kF T N i = 0 ∨ (10 ≤ kF T N i ∧ kF T N i ≤ 16)
      · exact z
      · rw [if_neg z] at hv; omega
    obtain ⟨hs, s0, s7⟩ := sR hk
    have km := km hk
    rw [if_neg (fun z => z hk)] at hQ
    refine il_1 dX9_clause_11 ?_
    refine ic_1 dX9_clause_12 ?_
    refine wp_icmp_gt 29 dX9_clause_13 rfl (fun c13 => ?_) (fun c13 => ?_)
    · have nt : ¬ ((kF T N i = 10 ∧ ¬ st.2.2.2.1.1 = -1) ∨ (kF T N i = 11 ∧ ¬ st.2.2.2.1.2 = -1)) := by
        first
          | omega
          | (rintro (⟨z1, z2⟩ | ⟨z1, z2⟩)
             · exact c24 (by rw [show s = 0 by omega]; exact ot.1.mpr z2)
             · exact c24 (by rw [show s = 1 by omega]; exact ot.2.mpr z2))
      rw [if_neg nt] at hQ
      exact T29 hk hs ⟨s0, s7⟩ nt hQ
    · refine al_0 dX9_clause_16 ?_
      refine g_X9_245 dX9_clause_17 rfl tt336 ?_
      rw [h19]
      refine il_1 dX9_clause_20 ?_
      refine c_X9_248 dX9_clause_21 rfl (Nat.le_of_ble_eq_true rfl) (by omega) ?_
      refine wX9_has (by omega) (by omega) (by omega) (by omega) (by omega) ?_
      refine pv_i ?_
      refine wp_if_eq 29 dX9_clause_24 rfl (fun c24 => ?_) (fun c24 => ?_)
      · rw [b2i_0] at c24
        have nt : ¬ ((kF T N i = 10 ∧ ¬ st.2.2.2.1.1 = -1) ∨ (kF T N i = 11 ∧ ¬ st.2.2.2.1.2 = -1)) := by
          first
            | omega
            | (rintro (⟨z1, z2⟩ | ⟨z1, z2⟩)
               · exact c24 (by rw [show s = 0 by omega]; exact ot.1.mpr z2)
               · exact c24 (by rw [show s = 1 by omega]; exact ot.2.mpr z2))
        rw [if_neg nt] at hQ
        exact T29 hk hs ⟨s0, s7⟩ nt hQ
      · rw [b2i_n0] at c24
        refine ic_4 dX9_clause_27 ?_
        refine wp_ireti dX9_clause_28 rfl ?_
        have tw : (kF T N i = 10 ∧ ¬ st.2.2.2.1.1 = -1) ∨ (kF T N i = 11 ∧ ¬ st.2.2.2.1.2 = -1) := by
          rcases (show s = 0 ∨ s = 1 by omega) with z | z
          · rw [z] at c24; left; exact ⟨by omega, ot.1.mp c24⟩
          · rw [z] at c24; right; exact ⟨by omega, ot.2.mp c24⟩
        rw [if_pos tw] at hQ
        exact hQ h hl MoE.rf M.2.1
  · refine ic_1 dX9_clause_9 ?_
    refine wp_ireti dX9_clause_10 rfl ?_
    have nk : ¬ (kF T N i = 0 ∨ (10 ≤ kF T N i ∧ kF T N i ≤ 16)) := fun z => by have := (sR z).2.1; omega
    rw [if_pos nk] at hQ
    exact hQ h hl MoE.rf M.2.1

theorem clP_24 {K V : Int → Int} {i : Int} {st : RSt} {x : Int × RSt} (h : clP K V i st = .inr x) (_ : st.1.length ≤ 24) : x.2.1.length ≤ 24 := by
  unfold clP at h
  split at h
  · cases h
  split at h
  · cases h
  split at h
  · cases h
  rename_i l24
  split at h
  · cases q : (lvP K V (K i - 10) 8).1 (i + 1) st.2.1.length with
    | inl e => rw [q] at h; cases h
    | inr y =>
      obtain ⟨j, C, M, D⟩ := y
      rw [q] at h
      dsimp only at h
      split at h
      · cases h; show (st.1 ++ [_]).length ≤ 24; rw [List.length_append, List.length_cons, List.length_nil]; omega
      · cases h
  · cases q : itP K V (itK (K i)) (i + 1) with
    | inl e => rw [q] at h; cases h
    | inr y =>
      rw [q] at h
      dsimp only at h
      split at h
      · cases h; show (st.1 ++ [_]).length ≤ 24; rw [List.length_append, List.length_cons, List.length_nil]; omega
      · cases h

theorem wX9_readText_43 {G : GT} {δ : Nat} {b : Bool × Bool} {Q : V → Hp → Prop} {N t0 nT : Int} {T : Int → Int} {h0 : Nat → Int → Int} (hδ : δ ≤ 1460) (hN : h0 336 4 = N) (hT : h0 340 = T) (B : BY T N) (t : TkE (kF T N) nT) (h12 : h0 336 12 = t0) (tr : 0 ≤ t0 ∧ t0 + 705 ≤ 2820) : ∀ (n : Nat) (m : Nat) (i : Int) (st : RSt) (h : Nat → Int → Int) (hl : Nat → Int → Int), (m) < n → (nT - i ≤ m) → (MoE t0 h0 h) → (TkM h hl T N i) → (0 ≤ i) → (i ≤ nT - 1) → (MoI h t0 st) → (st.1.length ≤ 24) → ((st.2.2.1.length : Int) ≤ i) → (match rdP (kF T N) (vF T N) m i st with | .inl e => (∀ h' hl' : Nat → Int → Int, MoE t0 h0 h' → h' 336 8 = pF T N e.2 → 1 ≤ e.1 → Q (vi e.1) (HS h' hl' b)) | .inr st => (∀ h' hl' : Nat → Int → Int, MoE t0 h0 h' → MoI h' t0 st → Q (vi 0) (HS h' hl' b))) → WP G δ 0 0 MX9_readText 43 [vr (336), vn] [] (HS h hl b) Q := by
  intro n
  induction n with
  | zero => intro m i st h hl hlt; exact absurd hlt (Nat.not_lt_zero _)
  | succ n ih =>
    intro m i st h hl hlt mn E M i0 i1 D l24 wl hQ
    have gN : h 336 4 = N := by rw [E.2.1 4 (by unfold psK; omega) (by decide) (by decide)]; exact hN
    have gT : h 340 = T := by rw [E.1 340 (by decide)]; exact hT
    have g12 : h 336 12 = t0 := by rw [E.2.1 12 (by unfold psK; omega) (by decide) (by decide)]; exact h12
    refine al_0 dX9_readText_43 ?_
    refine g_X9_100 dX9_readText_44 rfl tt336 ?_
    refine wp_if_eq 64 dX9_readText_47 rfl (fun c47 => ?_) (fun c47 => ?_)
    · refine ic_0 dX9_readText_64 ?_
      refine wp_ireti dX9_readText_65 rfl ?_
      have k54 := M.n0.mp c47
      obtain ⟨m', rfl⟩ : ∃ m', m = m' + 1 := ⟨m - 1, by omega⟩
      unfold rdP at hQ
      rw [if_pos k54] at hQ
      exact hQ h hl E D
    · refine al_0 dX9_readText_50 ?_
      refine c_X9_256 dX9_readText_51 rfl tt336 (Nat.le_of_ble_eq_true rfl) (by omega) ?_
      have g := clP_G (V := vF T N) t i st i0 i1
      have k54 : ¬ kF T N i = 54 := fun z => c47 (M.n0.mpr z)
      obtain ⟨m', rfl⟩ : ∃ m', m = m' + 1 := ⟨m - 1, by omega⟩
      unfold rdP at hQ
      rw [if_neg k54] at hQ
      refine wX9_clause (n := nT) (st := st) (by omega) gN gT B M i0 i1 t g12 tr D (by omega) wl ?_
      cases hr : clP (kF T N) (vF T N) i st with
      | inl e =>
        rw [hr] at hQ g
        obtain ⟨g1, g2, g3⟩ := g
        intro h1 hl1 E1 p1
        refine pv_i ?_
        refine is_1 dX9_readText_54 rfl (by decide) ?_
        refine il_1 dX9_readText_55 ?_
        refine wp_if_eq 61 dX9_readText_56 rfl (fun c56 => ?_) (fun c56 => ?_)
        · omega
        · refine il_1 dX9_readText_59 ?_
          refine wp_ireti dX9_readText_60 rfl ?_
          exact hQ h1 hl1 (E.tr E1) p1 g1
      | inr x =>
        rw [hr] at hQ g
        obtain ⟨g1, g2, g3, g4, g5⟩ := g
        intro h1 hl1 E1 M1 D1
        refine pv_i ?_
        refine is_1 dX9_readText_54 rfl (by decide) ?_
        refine il_1 dX9_readText_55 ?_
        refine wp_if_eq 61 dX9_readText_56 rfl (fun c56 => ?_) (fun c56 => ?_)
        · refine wp_goto 43 dX9_readText_61 rfl ?_
          refine wp_fg (ls' := [_, vn]) ⟨Or.inr rfl, Or.inl rfl, trivial⟩ ?_
          exact ih m' x.1 x.2 h1 hl1 (by omega) (by omega) (E.tr E1) M1 (by omega) g2 D1 (clP_24 hr (by omega)) (by omega) hQ
        · exact absurd rfl c56

theorem wX9_readText {G : GT} {δ : Nat} {h hl : Nat → Int → Int} {b : Bool × Bool} {Q : V → Hp → Prop} {N n k t0 : Int} {T : Int → Int} (hδ : δ ≤ 1450) (hN : h 336 4 = N) (hT : h 340 = T) (B : BY T N) (t : TkE (kF T N) n) (hk : h 337 2 = k) (k0 : 0 ≤ k) (k3 : k ≤ 3) (ht : t0 = 705 * k) (hQ : match rdP (kF T N) (vF T N) 301 0 st0 with | .inl e => (∀ h' hl' : Nat → Int → Int, MoE t0 (up h 336 12 t0) h' → h' 336 8 = pF T N e.2 → 1 ≤ e.1 → Q (vi e.1) (HS h' hl' b)) | .inr st => (∀ h' hl' : Nat → Int → Int, MoE t0 (up h 336 12 t0) h' → MoI h' t0 st → Q (vi 0) (HS h' hl' b))) : WP G δ 0 0 MX9_readText 0 [vr (336), vn] [] (HS h hl b) Q := by
  refine al_0 dX9_readText_0 ?_
  refine si_705 dX9_readText_1 ?_
  refine al_0 dX9_readText_4 ?_
  refine g_X9_7 (337) dX9_readText_5 rfl tt336 (rr9_0 tt336) (by omega) ?_
  refine ic_2 dX9_readText_8 ?_
  refine wp_iaload dX9_readText_9 tt337 (by omega) (by omega) ?_
  rw [hk]
  refine wp_imul dX9_readText_10 (r32 (by omega) (by omega)) ?_
  refine p_X9_138 dX9_readText_11 rfl tt336 ?_
  refine al_0 dX9_readText_14 ?_
  refine g_X9_16 (339) dX9_readText_15 rfl tt336 (rr9_2 tt336) (by omega) ?_
  refine al_0 dX9_readText_18 ?_
  refine g_X9_138 dX9_readText_19 rfl tt336 ?_
  rw [up_s]
  
  refine ic_0 dX9_readText_22 ?_
  refine wp_iastore dX9_readText_23 tt339 (by omega) (by omega) ?_
  refine al_0 dX9_readText_24 ?_
  refine ic_0 dX9_readText_25 ?_
  refine p_X9_141 dX9_readText_26 rfl tt336 ?_
  refine al_0 dX9_readText_29 ?_
  refine ic_0 dX9_readText_30 ?_
  refine p_X9_245 dX9_readText_31 rfl tt336 ?_
  refine al_0 dX9_readText_34 ?_
  refine ic_0 dX9_readText_35 ?_
  refine p_X9_91 dX9_readText_36 rfl tt336 ?_
  refine al_0 dX9_readText_39 ?_
  refine c_X9_175 dX9_readText_40 rfl tt336 (Nat.le_of_ble_eq_true rfl) (by omega) ?_
  rw [show (705 : Int) * k = t0 from ht.symm]
  obtain ⟨h1, e1⟩ : ∃ h1, h1 = up (up (up (up (up h 336 12 t0) 339 t0 0) 336 13 0) 336 19 0) 336 7 0 := ⟨_, rfl⟩
  rw [← e1]
  have F1 : MoE t0 (up h 336 12 t0) h1 := by rw [e1]; exact (((MoE.rf.u9 (by omega) (by omega)).u6 (Or.inl (by unfold psK; omega))).u6 (Or.inr (Or.inr rfl))).u6 (Or.inl (by unfold psK; omega))
  refine wX9_nextTokenM (T := T) (N := N) (j := -1) (by omega) (by rw [e1, up_k (by decide), up_k (by decide), up_k (by decide), up_o (by decide), up_k (by decide)]; exact hN) (by rw [e1, up_o' (by decide), up_o' (by decide), up_o' (by decide), up_o' (by decide), up_o' (by decide)]; exact hT) B (by omega) (by rw [e1, up_s]; rfl) (fun h2 hl2 E2 M2 => ?_)
  refine pv_n ?_
  refine wX9_readText_43 (h0 := up h 336 12 t0) (nT := n) (by omega) (by rw [up_k (by decide)]; exact hN) (by rw [up_o' (by decide)]; exact hT) B t (by rw [up_s]) (by omega) _ 301 0 st0 h2 hl2 (Nat.lt_succ_self _) (by have := t.2.1; omega) (F1.tk E2) M2 (by omega) (by have := t.1; omega) ⟨?_, ⟨?_, trivial⟩, ?_, fun q r hq => by simp [st0] at hq⟩ (by decide) (by show ((0 : Nat) : Int) ≤ 0; omega) hQ
  · rw [E2.1 339 (by decide), e1, up_o (by decide), up_o (by decide), up_o (by decide), up_s]; rfl
  · rw [E2.2 13 (by decide) (by decide) (by decide) (by decide), e1, up_k (by decide), up_k (by decide), up_s]; rfl
  · rw [E2.2 19 (by decide) (by decide) (by decide) (by decide), e1, up_k (by decide), up_s]; rfl

/-- what a text of the model's changes -/
def TxE (t0 : Int) (h h' : Nat → Int → Int) : Prop := eqX [336, 337, 339, 341] h h' ∧ (h' 336 23 = h 336 23) ∧ ∀ k : Int, (k < t0 ∨ t0 + 705 ≤ k) → h' 339 k = h 339 k

theorem wX9_text {G : GT} {δ : Nat} {h hl : Nat → Int → Int} {b : Bool × Bool} {Q : V → Hp → Prop} {N n k : Int} {T : Int → Int} (hδ : δ ≤ 1430) (hN : h 336 4 = N) (hT : h 340 = T) (B : BY T N) (t : TkE (kF T N) n) (hk : h 337 2 = k) (k0 : 0 ≤ k) (k4 : k ≤ 4) (h4 : k = 4 → Q (vi (-1)) (HS h hl b)) (hQ : k < 4 → (match rdP (kF T N) (vF T N) 301 0 st0 with | .inl e => (∀ h' hl' : Nat → Int → Int, TxE (705 * k) h h' → h' 337 = h 337 → h' 336 4 = 0 → h' 336 5 = e.1 → h' 336 6 = pF T N e.2 → 1 ≤ e.1 → Q (vi (-1)) (HS h' hl' b)) | .inr st => (∀ h' hl' : Nat → Int → Int, TxE (705 * k) h h' → h' 337 = ur (h 337) 2 (k + 1) → h' 336 4 = 0 → h' 336 5 = 0 → h' 336 6 = -1 → MoI h' (705 * k) st → Q (vi k) (HS h' hl' b)))) : WP G δ 0 0 MX9_text 0 [vr (336)] [] (HS h hl b) Q := by
  refine al_0 dX9_text_0 ?_
  refine g_X9_7 (337) dX9_text_1 rfl tt336 (rr9_0 tt336) (by omega) ?_
  refine ic_2 dX9_text_4 ?_
  refine wp_iaload dX9_text_5 tt337 (by omega) (by omega) ?_
  rw [hk]
  refine ic_4 dX9_text_6 ?_
  refine wp_icmp_ne 12 dX9_text_7 rfl (fun c7 => ?_) (fun c7 => ?_)
  · have hQ := hQ (by omega)
    refine al_0 dX9_text_12 ?_
    refine al_0 dX9_text_13 ?_
    refine c_X9_259 dX9_text_14 rfl tt336 (Nat.le_of_ble_eq_true rfl) (by omega) ?_
    refine wX9_readText (n := n) (k := k) (t0 := 705 * k) (by omega) hN hT B t hk k0 (by omega) rfl ?_
    cases hr : rdP (kF T N) (vF T N) 301 0 st0 with
    | inl e =>
      rw [hr] at hQ
      intro h1 hl1 E1 p1 f1
      have tx : TxE (705 * k) h h1 := ⟨(eqX.rf.up (by decide)).tr (E1.1.mono (by decide)), by rw [E1.2.1 23 (by unfold psK; omega) (by decide) (by decide), up_k (by decide)], fun q hq => by rw [E1.2.2 q hq, up_o (by decide)]⟩
      have e37 : h1 337 = h 337 := by rw [E1.1 337 (by decide), up_o' (by decide)]
      refine pv_i ?_
      refine p_X9_22 dX9_text_17 rfl tt336 ?_
      refine al_0 dX9_text_20 ?_
      refine al_0 dX9_text_21 ?_
      refine g_X9_22 dX9_text_22 rfl tt336 ?_
      rw [up_s]
      
      refine wp_if_ne 32 dX9_text_25 rfl (fun c25 => ?_) (fun c25 => ?_)
      · refine al_0 dX9_text_32 ?_
        refine g_X9_97 dX9_text_33 rfl tt336 ?_
        rw [up_k (by decide), p1]
        refine p_X9_26 dX9_text_36 rfl tt336 ?_
        refine al_0 dX9_text_39 ?_
        refine ic_0 dX9_text_40 ?_
        refine p_X9_85 dX9_text_41 rfl tt336 ?_
        refine al_0 dX9_text_44 ?_
        refine g_X9_22 dX9_text_45 rfl tt336 ?_
        rw [up_k (by decide), up_k (by decide), up_s]
        refine wp_if_eq 53 dX9_text_48 rfl (fun c48 => ?_) (fun c48 => ?_)
        · omega
        · refine ic_m1 dX9_text_51 ?_
          refine wp_ireti dX9_text_52 rfl ?_
          exact hQ _ hl1 ⟨((tx.1.up (by decide)).up (by decide)).up (by decide), by rw [up_k (by decide), up_k (by decide), up_k (by decide)]; exact tx.2.1, fun q hq => by rw [up_o (by decide), up_o (by decide), up_o (by decide)]; exact tx.2.2 q hq⟩ (by rw [up_o' (by decide), up_o' (by decide), up_o' (by decide)]; exact e37) up_s (by rw [up_k (by decide), up_k (by decide), up_s]) (by rw [up_k (by decide), up_s]) f1
      · omega
    | inr st =>
      rw [hr] at hQ
      intro h1 hl1 E1 D1
      have tx : TxE (705 * k) h h1 := ⟨(eqX.rf.up (by decide)).tr (E1.1.mono (by decide)), by rw [E1.2.1 23 (by unfold psK; omega) (by decide) (by decide), up_k (by decide)], fun q hq => by rw [E1.2.2 q hq, up_o (by decide)]⟩
      have e37 : h1 337 = h 337 := by rw [E1.1 337 (by decide), up_o' (by decide)]
      have k37 : h1 337 2 = k := by rw [e37]; exact hk
      refine pv_i ?_
      refine p_X9_22 dX9_text_17 rfl tt336 ?_
      refine al_0 dX9_text_20 ?_
      refine al_0 dX9_text_21 ?_
      refine g_X9_22 dX9_text_22 rfl tt336 ?_
      rw [up_s]
      refine wp_if_ne 32 dX9_text_25 rfl (fun c25 => ?_) (fun c25 => ?_)
      · exact absurd rfl c25
      · refine ic_m1 dX9_text_28 ?_
        refine wp_goto 36 dX9_text_29 rfl ?_
        refine p_X9_26 dX9_text_36 rfl tt336 ?_
        refine al_0 dX9_text_39 ?_
        refine ic_0 dX9_text_40 ?_
        refine p_X9_85 dX9_text_41 rfl tt336 ?_
        refine al_0 dX9_text_44 ?_
        refine g_X9_22 dX9_text_45 rfl tt336 ?_
        rw [up_k (by decide), up_k (by decide), up_s]
        refine wp_if_eq 53 dX9_text_48 rfl (fun c48 => ?_) (fun c48 => ?_)
        · refine al_0 dX9_text_53 ?_
          refine g_X9_7 (337) dX9_text_54 rfl tt336 (rr9_0 tt336) (by omega) ?_
          refine ic_2 dX9_text_57 ?_
          refine wp_dup2 dX9_text_58 rfl rfl ?_
          refine wp_iaload dX9_text_59 tt337 (by omega) (by omega) ?_
          rw [up_o (by decide), up_o (by decide), up_o (by decide), k37]
          refine ic_1 dX9_text_60 ?_
          refine wp_iadd dX9_text_61 (r32 (by omega) (by omega)) ?_
          refine wp_iastore dX9_text_62 tt337 (by omega) (by omega) ?_
          refine al_0 dX9_text_63 ?_
          refine g_X9_7 (337) dX9_text_64 rfl tt336 (rr9_0 tt336) (by omega) ?_
          refine ic_2 dX9_text_67 ?_
          refine wp_iaload dX9_text_68 tt337 (by omega) (by omega) ?_
          rw [up_s]
          refine ic_1 dX9_text_69 ?_
          refine wp_isub dX9_text_70 (r32 (by omega) (by omega)) ?_
          refine wp_ireti dX9_text_71 rfl ?_
          have o9 : ∀ j : Int, up (up (up (up h1 336 5 0) 336 6 (-1)) 336 4 0) 337 2 (k + 1) 339 j = h1 339 j := fun j => by rw [up_o (by decide), up_o (by decide), up_o (by decide), up_o (by decide)]
          refine qv (hQ _ hl1 ⟨(((tx.1.up (by decide)).up (by decide)).up (by decide)).up (by decide), by rw [up_o (by decide), up_k (by decide), up_k (by decide), up_k (by decide)]; exact tx.2.1, fun q hq => by rw [o9]; exact tx.2.2 q hq⟩ ?_ (by rw [up_o (by decide), up_s]) (by rw [up_o (by decide), up_k (by decide), up_k (by decide), up_s]) (by rw [up_o (by decide), up_k (by decide), up_s]) ⟨?_, D1.2.1.c ?_ (fun j _ _ => o9 j), ?_, fun q r hq => (D1.2.2.2 q r hq).c (fun j _ _ => o9 j)⟩) (by omega)
          · rw [up_ur, up_o' (by decide), up_o' (by decide), up_o' (by decide), e37]
          · rw [o9]; exact D1.1
          · rw [up_o (by decide), up_k (by decide), up_k (by decide), up_k (by decide)]
          · rw [up_o (by decide), up_k (by decide), up_k (by decide), up_k (by decide)]; exact D1.2.2.1
        · exact absurd rfl c48
  · refine ic_m1 dX9_text_10 ?_
    refine wp_ireti dX9_text_11 rfl ?_
    exact h4 (by omega)
