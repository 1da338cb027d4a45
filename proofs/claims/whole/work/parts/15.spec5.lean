/-- all but some objects stay -/
def eqX (S : List Nat) (h h' : Nat → Int → Int) : Prop := ∀ o, o ∉ S → h' o = h o
theorem eqX.rf {S : List Nat} {h : Nat → Int → Int} : eqX S h h := fun _ _ => rfl
theorem eqX.tr {S : List Nat} {h h' h'' : Nat → Int → Int} (a : eqX S h h') (b : eqX S h' h'') : eqX S h h'' := fun o ho => (b o ho).trans (a o ho)
theorem eqX.up {S : List Nat} {h h' : Nat → Int → Int} (a : eqX S h h') {o : Nat} {k x : Int} (ho : o ∈ S) : eqX S h (up h' o k x) := fun q hq => by
  rw [← a q hq]
  funext j
  exact up_o (fun e => hq (e ▸ ho))
theorem eqX.mono {S S' : List Nat} {h h' : Nat → Int → Int} (a : eqX S h h') (hs : ∀ o, o ∈ S → o ∈ S') : eqX S' h h' := fun o ho => a o (fun z => ho (hs o z))
def ety (h : Nat → Int → Int) (o : Nat) (i : Int) : Int := if 0 ≤ i ∧ i < h o 2 then h (o + 3) i else 53
def SR (f : Int → Int) : List Int → Prop
  | [] => True
  | v :: t => f t.length = v ∧ SR f t
theorem SR_c {f g : Int → Int} : ∀ st : List Int, (∀ i : Int, 0 ≤ i → i < st.length → f i = g i) → SR f st → SR g st
  | [], _, _ => trivial
  | v :: t, h, hs => ⟨by rw [← h t.length (by omega) (by simp; omega)]; exact hs.1, SR_c t (fun i h0 h1 => h i h0 (by simp; omega)) hs.2⟩
def cStep (E nm : Int → Int) (lit : Int) (s : Int × List Int) : Int × List Int :=
  if E s.1 = 40 then (s.1 + 1 + 1, E (s.1 + 1) :: s.2)
  else if 0 ≤ E s.1 ∧ E s.1 < 10 then (s.1 + 1, nm (E s.1) :: s.2)
  else if E s.1 = 61 then (E (s.1 + 1), s.2)
  else if E s.1 = 62 then (if s.2.headD 0 = 0 then E (s.1 + 1) else s.1 + 1 + 1, s.2.tail)
  else if E s.1 = 60 ∨ E s.1 = 21 ∨ E s.1 = 28 then (s.1 + 1, one (E s.1) (s.2.headD 0) lit :: s.2.tail)
  else (s.1 + 1, two (E s.1) (s.2.tail.headD 0) (s.2.headD 0) :: s.2.tail.tail)
def cAr (e : Int) (n : Nat) : Prop := e = 40 ∨ (0 ≤ e ∧ e < 10) ∨ e = 61 ∨ ((e = 62 ∨ e = 60 ∨ e = 21 ∨ e = 28) ∧ 1 ≤ n) ∨ (isTwo e ∧ 2 ≤ n)
def cOK (E : Int → Int) (s : Int × List Int) : Prop := 0 ≤ s.1 ∧ s.1 < 1000 ∧ E s.1 ≠ 53 ∧ s.2.length < 64 ∧ (∀ v ∈ s.2, MI v) ∧ cAr (E s.1) s.2.length
def cReach (E nm : Int → Int) (lit : Int) : Nat → Int × List Int → Int × List Int → Prop
  | 0, s, t => s = t
  | n + 1, s, t => cOK E s ∧ cReach E nm lit n (cStep E nm lit s) t
section CS
variable {E nm : Int → Int} {lit a : Int} {st t : List Int} {x z : Int}
theorem cs_num (h : E a = 40) : cStep E nm lit (a, st) = (a + 1 + 1, E (a + 1) :: st) := by unfold cStep; dsimp only; rw [if_pos h]
theorem cs_nam (h0 : 0 ≤ E a) (h1 : E a < 10) : cStep E nm lit (a, st) = (a + 1, nm (E a) :: st) := by unfold cStep; dsimp only; rw [if_neg (by omega), if_pos ⟨h0, h1⟩]
theorem cs_jmp (h : E a = 61) : cStep E nm lit (a, st) = (E (a + 1), st) := by unfold cStep; dsimp only; rw [if_neg (by omega), if_neg (by omega), if_pos h]
theorem cs_ju0 (h : E a = 62) (hx : x = 0) : cStep E nm lit (a, x :: t) = (E (a + 1), t) := by unfold cStep; dsimp only; rw [if_neg (by omega), if_neg (by omega), if_neg (by omega), if_pos h]; subst hx; rfl
theorem cs_ju1 (h : E a = 62) (hx : ¬ x = 0) : cStep E nm lit (a, x :: t) = (a + 1 + 1, t) := by
  unfold cStep; dsimp only; rw [if_neg (by omega), if_neg (by omega), if_neg (by omega), if_pos h]
  show (if x = 0 then _ else _, t) = _
  rw [if_neg hx]
theorem cs_one (h : E a = 60 ∨ E a = 21 ∨ E a = 28) : cStep E nm lit (a, x :: t) = (a + 1, one (E a) x lit :: t) := by unfold cStep; dsimp only; rw [if_neg (by omega), if_neg (by omega), if_neg (by omega), if_neg (by omega), if_pos h]; rfl
theorem cs_two (h : isTwo (E a)) : cStep E nm lit (a, x :: z :: t) = (a + 1, two (E a) z x :: t) := by unfold isTwo at h; unfold cStep; dsimp only; rw [if_neg (by omega), if_neg (by omega), if_neg (by omega), if_neg (by omega), if_neg (by omega)]; rfl
end CS

section VAL
variable {G : GT} {δ : Nat} {h0 h hl : Nat → Int → Int} {b : Bool × Bool} {Q : V → Hp → Prop}
theorem wX1_pushR {st : List Int} {x : Int} (hδ : δ ≤ 1680) (hE : eqX [19, 21] h0 h) (hT : h 19 2 = st.length) (hS : SR (h 21) st) (hn : st.length < 64)
    (hQ : ∀ h', eqX [19, 21] h0 h' → h' 19 2 = (x :: st).length → SR (h' 21) (x :: st) → Q vn (HS h' hl b)) : WP G δ 0 0 MX1_push 0 [vr 19, vi x] [] (HS h hl b) Q := by
  refine wX1_push (by omega) (by omega) (by omega) (hQ _ ((hE.up (by decide)).up (by decide)) ?_ ?_)
  · rw [up_s, hT]; simp
  · rw [hT]
    refine ⟨?_, SR_c st (fun i i0 i1 => ?_) hS⟩
    · rw [up_o (by decide), up_s]
    · rw [up_o (by decide), up_k (by omega)]
theorem wX1_popR {st : List Int} {x : Int} (hδ : δ ≤ 1680) (hE : eqX [19, 21] h0 h) (hT : h 19 2 = (x :: st).length) (hS : SR (h 21) (x :: st)) (hn : (x :: st).length ≤ 64)
    (hQ : ∀ h', eqX [19, 21] h0 h' → h' 19 2 = st.length → SR (h' 21) st → Q (vi x) (HS h' hl b)) : WP G δ 0 0 MX1_pop 0 [vr 19] [] (HS h hl b) Q := by
  have hT' : h 19 2 = st.length + 1 := by rw [hT]; simp
  have hn' : st.length + 1 ≤ 64 := by simpa using hn
  have e : h 21 (h 19 2 - 1) = x := by rw [hT', show ((st.length : Int) + 1 - 1) = st.length by omega]; exact hS.1
  refine wX1_pop (by omega) (by omega) (by omega) ?_
  rw [e]
  refine hQ _ (hE.up (by decide)) ?_ (SR_c st (fun i i0 i1 => ?_) hS.2)
  · rw [up_s, hT']; omega
  · rw [up_o (by decide)]
theorem wX3_entryR {o : Nat} {i : Int} (hδ : δ ≤ 1680) (hE : eqX [19, 21] h0 h) (ho : ty TT o = some (.inl 3)) (hu : h0 o 2 ≤ 600) (hQ : Q (vi (ety h0 o i)) (HS h hl b)) : WP G δ 0 0 MX3_entry 0 [vr o, vi i] [] (HS h hl b) Q := by
  have n1 : o ∉ [19, 21] := fun z => by
    simp at z
    rcases z with rfl | rfl
    · exact absurd (tt19.symm.trans ho) (by simp)
    · exact absurd (tt21.symm.trans ho) (by simp)
  have n2 : o + 3 ∉ [19, 21] := fun z => by
    have a := pt3_3 o (tt_lt ho) ho
    simp at z
    rcases z with z | z
    · have : o = 16 := by omega
      subst this; exact absurd (tt16.symm.trans ho) (by simp)
    · have : o = 18 := by omega
      subst this; exact absurd (tt18.symm.trans ho) (by simp)
  have e1 := hE o n1
  have e2 := hE (o + 3) n2
  refine wX3_entry (by omega) ho (by rw [e1]; exact hu) ?_
  rw [e1, e2]
  exact hQ
end VAL
theorem ne1 {st : List Int} (h : 1 ≤ st.length) : ∃ x t, st = x :: t := by
  cases st with
  | nil => simp at h
  | cons x t => exact ⟨x, t, rfl⟩

theorem wX1_value_11 {G : GT} {δ : Nat} {h0 hl : Nat → Int → Int} {b : Bool × Bool} {Q : V → Hp → Prop} {o : Nat} {fr lit v stop : Int} (hδ : δ ≤ 1660) (ho : ty TT o = some (.inl 3)) (l0 : 0 ≤ lit) (l1 : lit < 1024) (hu : h0 o 2 ≤ 600) (hst : ety h0 o stop = 53) (hQ : ∀ h', eqX [19, 21] h0 h' → Q (vi v) (HS h' hl b)) :
    ∀ (n : Nat) (i a : Int) (st : List Int) (h : Nat → Int → Int), 0 ≤ i → i + n < 600 → cReach (ety h0 o) (h0 20) lit n (a, st) (stop, [v]) → eqX [19, 21] h0 h → h 19 2 = st.length → SR (h 21) st → WP G δ 0 0 MX1_value 11 [vr 19, vr o, vi fr, vi lit, vi a, vi i, vn, vn] [] (HS h hl b) Q := by
  intro n
  induction n with
  | zero =>
    intro i a st h i0 i1 hr hE hT hS
    obtain ⟨rfl, rfl⟩ := Prod.mk.inj (show (a, st) = (stop, [v]) from hr)
    refine il_5 dX1_value_11 ?_
    refine si_600 dX1_value_13 ?_
    refine wp_icmp_ge 205 dX1_value_16 rfl (fun c16 => ?_) (fun c16 => ?_)
    · omega
    · refine al_1 dX1_value_19 ?_
      refine il_4 dX1_value_20 ?_
      refine c_X1_22 dX1_value_22 rfl ho (Nat.le_of_ble_eq_true rfl) (by omega) ?_
      refine wX3_entryR (by omega) hE ho hu ?_
      refine pv_i ?_
      refine bi_53 dX1_value_25 ?_
      refine wp_icmp_eq 205 dX1_value_27 rfl (fun c27 => ?_) (fun c27 => ?_)
      · refine al_0 dX1_value_205 ?_
        refine c_X1_32 dX1_value_206 rfl tt19 (Nat.le_of_ble_eq_true rfl) (by omega) ?_
        refine wX1_popR (by omega) hE hT hS (by simp) (fun h1 hE hT hS => ?_)
        refine pv_i ?_
        refine wp_ireti dX1_value_209 rfl ?_
        exact hQ _ hE
      · exact absurd hst c27
  | succ n ih =>
    intro i a st h i0 i1 hr hE hT hS
    obtain ⟨⟨o1, o2, o3, o4, o5, o6⟩, hr⟩ := hr
    dsimp only at o1 o2 o3 o4 o5 o6
    refine il_5 dX1_value_11 ?_
    refine si_600 dX1_value_13 ?_
    refine wp_icmp_ge 205 dX1_value_16 rfl (fun c16 => ?_) (fun c16 => ?_)
    · omega
    · refine al_1 dX1_value_19 ?_
      refine il_4 dX1_value_20 ?_
      refine c_X1_22 dX1_value_22 rfl ho (Nat.le_of_ble_eq_true rfl) (by omega) ?_
      refine wX3_entryR (by omega) hE ho hu ?_
      refine pv_i ?_
      refine bi_53 dX1_value_25 ?_
      refine wp_icmp_eq 205 dX1_value_27 rfl (fun c27 => ?_) (fun c27 => ?_)
      · exact absurd c27 o3
      · refine al_1 dX1_value_30 ?_
        refine il_4 dX1_value_31 ?_
        refine c_X1_22 dX1_value_33 rfl ho (Nat.le_of_ble_eq_true rfl) (by omega) ?_
        refine wX3_entryR (by omega) hE ho hu ?_
        refine pv_i ?_
        generalize he : ety h0 o a = e at *
        refine is_6 dX1_value_36 rfl (by decide) ?_
        refine ii_4 dX1_value_38 rfl (by decide) ⟨by decide, by decide⟩ (r32 (by omega) (by omega)) ?_
        refine il_6 dX1_value_41 ?_
        refine bi_40 dX1_value_43 ?_
        refine wp_icmp_ne 64 dX1_value_45 rfl (fun c45 => ?_) (fun c45 => ?_)
        · refine il_6 dX1_value_64 ?_
          refine wp_if_lt 90 dX1_value_66 rfl (fun c66 => ?_) (fun c66 => ?_)
          · refine il_6 dX1_value_90 ?_
            refine bi_61 dX1_value_92 ?_
            refine wp_icmp_ne 108 dX1_value_94 rfl (fun c94 => ?_) (fun c94 => ?_)
            · refine il_6 dX1_value_108 ?_
              refine bi_62 dX1_value_110 ?_
              refine wp_icmp_ne 140 dX1_value_112 rfl (fun c112 => ?_) (fun c112 => ?_)
              · refine il_6 dX1_value_140 ?_
                refine bi_60 dX1_value_142 ?_
                refine wp_icmp_eq 161 dX1_value_144 rfl (fun c144 => ?_) (fun c144 => ?_)
                · refine al_0 dX1_value_161 ?_
                  refine il_6 dX1_value_162 ?_
                  refine al_0 dX1_value_164 ?_
                  refine c_X1_32 dX1_value_165 rfl tt19 (Nat.le_of_ble_eq_true rfl) (by omega) ?_
                  obtain ⟨x, t, rfl⟩ := ne1 (st := st) (by unfold cAr isTwo at o6; omega)
                  have ox := o5 x List.mem_cons_self
                  refine wX1_popR (by omega) hE hT hS (by omega) (fun h1 hE hT hS => ?_)
                  refine pv_i ?_
                  refine il_3 dX1_value_168 ?_
                  refine c_X1_36 dX1_value_169 rfl (Nat.le_of_ble_eq_true rfl) (by omega) ?_
                  refine wX1_ofOne (by omega) (by omega) ox l0 l1 ?_
                  refine pv_i ?_
                  refine c_X1_28 dX1_value_172 rfl tt19 (Nat.le_of_ble_eq_true rfl) (by omega) ?_
                  refine wX1_pushR (by omega) hE hT hS (by simp at o4; omega) (fun h1 hE hT hS => ?_)
                  refine pv_n ?_
                  rw [cs_one (by rw [he]; omega), he] at hr
                  refine wp_goto 199 dX1_value_175 rfl ?_
                  refine ii_5 dX1_value_199 rfl (by decide) ⟨by decide, by decide⟩ (r32 (by omega) (by omega)) ?_
                  refine wp_goto 11 dX1_value_202 rfl ?_
                  refine wp_fg (ls' := [_, _, _, _, _, _, vn, vn]) ⟨Or.inr rfl, Or.inr rfl, Or.inr rfl, Or.inr rfl, Or.inr rfl, Or.inr rfl, Or.inl rfl, Or.inl rfl, trivial⟩ ?_
                  exact ih (i + 1) _ _ _ (by omega) (by omega) hr hE hT hS
                · refine il_6 dX1_value_147 ?_
                  refine bi_21 dX1_value_149 ?_
                  refine wp_icmp_eq 161 dX1_value_151 rfl (fun c151 => ?_) (fun c151 => ?_)
                  · refine al_0 dX1_value_161 ?_
                    refine il_6 dX1_value_162 ?_
                    refine al_0 dX1_value_164 ?_
                    refine c_X1_32 dX1_value_165 rfl tt19 (Nat.le_of_ble_eq_true rfl) (by omega) ?_
                    obtain ⟨x, t, rfl⟩ := ne1 (st := st) (by unfold cAr isTwo at o6; omega)
                    have ox := o5 x List.mem_cons_self
                    refine wX1_popR (by omega) hE hT hS (by omega) (fun h1 hE hT hS => ?_)
                    refine pv_i ?_
                    refine il_3 dX1_value_168 ?_
                    refine c_X1_36 dX1_value_169 rfl (Nat.le_of_ble_eq_true rfl) (by omega) ?_
                    refine wX1_ofOne (by omega) (by omega) ox l0 l1 ?_
                    refine pv_i ?_
                    refine c_X1_28 dX1_value_172 rfl tt19 (Nat.le_of_ble_eq_true rfl) (by omega) ?_
                    refine wX1_pushR (by omega) hE hT hS (by simp at o4; omega) (fun h1 hE hT hS => ?_)
                    refine pv_n ?_
                    rw [cs_one (by rw [he]; omega), he] at hr
                    refine wp_goto 199 dX1_value_175 rfl ?_
                    refine ii_5 dX1_value_199 rfl (by decide) ⟨by decide, by decide⟩ (r32 (by omega) (by omega)) ?_
                    refine wp_goto 11 dX1_value_202 rfl ?_
                    refine wp_fg (ls' := [_, _, _, _, _, _, vn, vn]) ⟨Or.inr rfl, Or.inr rfl, Or.inr rfl, Or.inr rfl, Or.inr rfl, Or.inr rfl, Or.inl rfl, Or.inl rfl, trivial⟩ ?_
                    exact ih (i + 1) _ _ _ (by omega) (by omega) hr hE hT hS
                  · refine il_6 dX1_value_154 ?_
                    refine bi_28 dX1_value_156 ?_
                    refine wp_icmp_ne 178 dX1_value_158 rfl (fun c158 => ?_) (fun c158 => ?_)
                    · refine al_0 dX1_value_178 ?_
                      refine c_X1_32 dX1_value_179 rfl tt19 (Nat.le_of_ble_eq_true rfl) (by omega) ?_
                      obtain ⟨x, t', rfl⟩ := ne1 (st := st) (by unfold cAr isTwo at o6; omega)
                      obtain ⟨z, t, rfl⟩ := ne1 (st := t') (by unfold cAr isTwo at o6; simp at o6; omega)
                      have ox := o5 x List.mem_cons_self
                      have oz := o5 z (List.mem_cons_of_mem _ List.mem_cons_self)
                      refine wX1_popR (by omega) hE hT hS (by omega) (fun h1 hE hT hS => ?_)
                      refine pv_i ?_
                      refine is_7 dX1_value_182 rfl (by decide) ?_
                      refine al_0 dX1_value_184 ?_
                      refine il_6 dX1_value_185 ?_
                      refine al_0 dX1_value_187 ?_
                      refine c_X1_32 dX1_value_188 rfl tt19 (Nat.le_of_ble_eq_true rfl) (by omega) ?_
                      refine wX1_popR (by omega) hE hT hS (by simp at o4 ⊢; omega) (fun h1 hE hT hS => ?_)
                      refine pv_i ?_
                      have hT2 : isTwo (ety h0 o a) := by rw [he]; unfold cAr isTwo at o6; unfold isTwo; omega
                      rw [cs_two hT2, he] at hr
                      refine il_7 dX1_value_191 ?_
                      refine c_X1_40 dX1_value_193 rfl (Nat.le_of_ble_eq_true rfl) (by omega) ?_
                      refine wX1_ofTwo (by omega) (he ▸ hT2) oz ox ?_
                      refine pv_i ?_
                      refine c_X1_28 dX1_value_196 rfl tt19 (Nat.le_of_ble_eq_true rfl) (by omega) ?_
                      refine wX1_pushR (by omega) hE hT hS (by simp at o4; omega) (fun h1 hE hT hS => ?_)
                      refine pv_n ?_
                      refine ii_5 dX1_value_199 rfl (by decide) ⟨by decide, by decide⟩ (r32 (by omega) (by omega)) ?_
                      refine wp_goto 11 dX1_value_202 rfl ?_
                      refine wp_fg (ls' := [_, _, _, _, _, _, vn, vn]) ⟨Or.inr rfl, Or.inr rfl, Or.inr rfl, Or.inr rfl, Or.inr rfl, Or.inr rfl, Or.inl rfl, Or.inl rfl, trivial⟩ ?_
                      exact ih (i + 1) _ _ _ (by omega) (by omega) hr hE hT hS
                    · refine al_0 dX1_value_161 ?_
                      refine il_6 dX1_value_162 ?_
                      refine al_0 dX1_value_164 ?_
                      refine c_X1_32 dX1_value_165 rfl tt19 (Nat.le_of_ble_eq_true rfl) (by omega) ?_
                      obtain ⟨x, t, rfl⟩ := ne1 (st := st) (by unfold cAr isTwo at o6; omega)
                      have ox := o5 x List.mem_cons_self
                      refine wX1_popR (by omega) hE hT hS (by omega) (fun h1 hE hT hS => ?_)
                      refine pv_i ?_
                      refine il_3 dX1_value_168 ?_
                      refine c_X1_36 dX1_value_169 rfl (Nat.le_of_ble_eq_true rfl) (by omega) ?_
                      refine wX1_ofOne (by omega) (by omega) ox l0 l1 ?_
                      refine pv_i ?_
                      refine c_X1_28 dX1_value_172 rfl tt19 (Nat.le_of_ble_eq_true rfl) (by omega) ?_
                      refine wX1_pushR (by omega) hE hT hS (by simp at o4; omega) (fun h1 hE hT hS => ?_)
                      refine pv_n ?_
                      rw [cs_one (by rw [he]; omega), he] at hr
                      refine wp_goto 199 dX1_value_175 rfl ?_
                      refine ii_5 dX1_value_199 rfl (by decide) ⟨by decide, by decide⟩ (r32 (by omega) (by omega)) ?_
                      refine wp_goto 11 dX1_value_202 rfl ?_
                      refine wp_fg (ls' := [_, _, _, _, _, _, vn, vn]) ⟨Or.inr rfl, Or.inr rfl, Or.inr rfl, Or.inr rfl, Or.inr rfl, Or.inr rfl, Or.inl rfl, Or.inl rfl, trivial⟩ ?_
                      exact ih (i + 1) _ _ _ (by omega) (by omega) hr hE hT hS
              · refine al_0 dX1_value_115 ?_
                refine c_X1_32 dX1_value_116 rfl tt19 (Nat.le_of_ble_eq_true rfl) (by omega) ?_
                obtain ⟨x, t, rfl⟩ := ne1 (st := st) (by unfold cAr isTwo at o6; omega)
                have ox := o5 x List.mem_cons_self
                refine wX1_popR (by omega) hE hT hS (by omega) (fun h1 hE hT hS => ?_)
                refine pv_i ?_
                refine wp_if_ne 131 dX1_value_119 rfl (fun c119 => ?_) (fun c119 => ?_)
                · rw [cs_ju1 (he.trans (by omega)) c119] at hr
                  refine il_4 dX1_value_131 ?_
                  refine ic_1 dX1_value_133 ?_
                  refine wp_iadd dX1_value_134 (r32 (by omega) (by omega)) ?_
                  refine is_4 dX1_value_135 rfl (by decide) ?_
                  refine wp_goto 199 dX1_value_137 rfl ?_
                  refine ii_5 dX1_value_199 rfl (by decide) ⟨by decide, by decide⟩ (r32 (by omega) (by omega)) ?_
                  refine wp_goto 11 dX1_value_202 rfl ?_
                  refine wp_fg (ls' := [_, _, _, _, _, _, vn, vn]) ⟨Or.inr rfl, Or.inr rfl, Or.inr rfl, Or.inr rfl, Or.inr rfl, Or.inr rfl, Or.inl rfl, Or.inl rfl, trivial⟩ ?_
                  exact ih (i + 1) _ _ _ (by omega) (by omega) hr hE hT hS
                · refine al_1 dX1_value_122 ?_
                  refine il_4 dX1_value_123 ?_
                  refine c_X1_22 dX1_value_125 rfl ho (Nat.le_of_ble_eq_true rfl) (by omega) ?_
                  refine wX3_entryR (by omega) hE ho hu ?_
                  refine pv_i ?_
                  rw [cs_ju0 (he.trans (by omega)) c119] at hr
                  refine wp_goto 135 dX1_value_128 rfl ?_
                  refine is_4 dX1_value_135 rfl (by decide) ?_
                  refine wp_goto 199 dX1_value_137 rfl ?_
                  refine ii_5 dX1_value_199 rfl (by decide) ⟨by decide, by decide⟩ (r32 (by omega) (by omega)) ?_
                  refine wp_goto 11 dX1_value_202 rfl ?_
                  refine wp_fg (ls' := [_, _, _, _, _, _, vn, vn]) ⟨Or.inr rfl, Or.inr rfl, Or.inr rfl, Or.inr rfl, Or.inr rfl, Or.inr rfl, Or.inl rfl, Or.inl rfl, trivial⟩ ?_
                  exact ih (i + 1) _ _ _ (by omega) (by omega) hr hE hT hS
            · refine al_1 dX1_value_97 ?_
              refine il_4 dX1_value_98 ?_
              refine c_X1_22 dX1_value_100 rfl ho (Nat.le_of_ble_eq_true rfl) (by omega) ?_
              refine wX3_entryR (by omega) hE ho hu ?_
              refine pv_i ?_
              refine is_4 dX1_value_103 rfl (by decide) ?_
              rw [cs_jmp (he.trans (by omega))] at hr
              refine wp_goto 199 dX1_value_105 rfl ?_
              refine ii_5 dX1_value_199 rfl (by decide) ⟨by decide, by decide⟩ (r32 (by omega) (by omega)) ?_
              refine wp_goto 11 dX1_value_202 rfl ?_
              refine wp_fg (ls' := [_, _, _, _, _, _, vn, vn]) ⟨Or.inr rfl, Or.inr rfl, Or.inr rfl, Or.inr rfl, Or.inr rfl, Or.inr rfl, Or.inl rfl, Or.inl rfl, trivial⟩ ?_
              exact ih (i + 1) _ _ _ (by omega) (by omega) hr hE hT hS
          · refine il_6 dX1_value_69 ?_
            refine bi_10 dX1_value_71 ?_
            refine wp_icmp_ge 90 dX1_value_73 rfl (fun c73 => ?_) (fun c73 => ?_)
            · refine il_6 dX1_value_90 ?_
              refine bi_61 dX1_value_92 ?_
              refine wp_icmp_ne 108 dX1_value_94 rfl (fun c94 => ?_) (fun c94 => ?_)
              · refine il_6 dX1_value_108 ?_
                refine bi_62 dX1_value_110 ?_
                refine wp_icmp_ne 140 dX1_value_112 rfl (fun c112 => ?_) (fun c112 => ?_)
                · refine il_6 dX1_value_140 ?_
                  refine bi_60 dX1_value_142 ?_
                  refine wp_icmp_eq 161 dX1_value_144 rfl (fun c144 => ?_) (fun c144 => ?_)
                  · refine al_0 dX1_value_161 ?_
                    refine il_6 dX1_value_162 ?_
                    refine al_0 dX1_value_164 ?_
                    refine c_X1_32 dX1_value_165 rfl tt19 (Nat.le_of_ble_eq_true rfl) (by omega) ?_
                    obtain ⟨x, t, rfl⟩ := ne1 (st := st) (by unfold cAr isTwo at o6; omega)
                    have ox := o5 x List.mem_cons_self
                    refine wX1_popR (by omega) hE hT hS (by omega) (fun h1 hE hT hS => ?_)
                    refine pv_i ?_
                    refine il_3 dX1_value_168 ?_
                    refine c_X1_36 dX1_value_169 rfl (Nat.le_of_ble_eq_true rfl) (by omega) ?_
                    refine wX1_ofOne (by omega) (by omega) ox l0 l1 ?_
                    refine pv_i ?_
                    refine c_X1_28 dX1_value_172 rfl tt19 (Nat.le_of_ble_eq_true rfl) (by omega) ?_
                    refine wX1_pushR (by omega) hE hT hS (by simp at o4; omega) (fun h1 hE hT hS => ?_)
                    refine pv_n ?_
                    rw [cs_one (by rw [he]; omega), he] at hr
                    refine wp_goto 199 dX1_value_175 rfl ?_
                    refine ii_5 dX1_value_199 rfl (by decide) ⟨by decide, by decide⟩ (r32 (by omega) (by omega)) ?_
                    refine wp_goto 11 dX1_value_202 rfl ?_
                    refine wp_fg (ls' := [_, _, _, _, _, _, vn, vn]) ⟨Or.inr rfl, Or.inr rfl, Or.inr rfl, Or.inr rfl, Or.inr rfl, Or.inr rfl, Or.inl rfl, Or.inl rfl, trivial⟩ ?_
                    exact ih (i + 1) _ _ _ (by omega) (by omega) hr hE hT hS
                  · refine il_6 dX1_value_147 ?_
                    refine bi_21 dX1_value_149 ?_
                    refine wp_icmp_eq 161 dX1_value_151 rfl (fun c151 => ?_) (fun c151 => ?_)
                    · refine al_0 dX1_value_161 ?_
                      refine il_6 dX1_value_162 ?_
                      refine al_0 dX1_value_164 ?_
                      refine c_X1_32 dX1_value_165 rfl tt19 (Nat.le_of_ble_eq_true rfl) (by omega) ?_
                      obtain ⟨x, t, rfl⟩ := ne1 (st := st) (by unfold cAr isTwo at o6; omega)
                      have ox := o5 x List.mem_cons_self
                      refine wX1_popR (by omega) hE hT hS (by omega) (fun h1 hE hT hS => ?_)
                      refine pv_i ?_
                      refine il_3 dX1_value_168 ?_
                      refine c_X1_36 dX1_value_169 rfl (Nat.le_of_ble_eq_true rfl) (by omega) ?_
                      refine wX1_ofOne (by omega) (by omega) ox l0 l1 ?_
                      refine pv_i ?_
                      refine c_X1_28 dX1_value_172 rfl tt19 (Nat.le_of_ble_eq_true rfl) (by omega) ?_
                      refine wX1_pushR (by omega) hE hT hS (by simp at o4; omega) (fun h1 hE hT hS => ?_)
                      refine pv_n ?_
                      rw [cs_one (by rw [he]; omega), he] at hr
                      refine wp_goto 199 dX1_value_175 rfl ?_
                      refine ii_5 dX1_value_199 rfl (by decide) ⟨by decide, by decide⟩ (r32 (by omega) (by omega)) ?_
                      refine wp_goto 11 dX1_value_202 rfl ?_
                      refine wp_fg (ls' := [_, _, _, _, _, _, vn, vn]) ⟨Or.inr rfl, Or.inr rfl, Or.inr rfl, Or.inr rfl, Or.inr rfl, Or.inr rfl, Or.inl rfl, Or.inl rfl, trivial⟩ ?_
                      exact ih (i + 1) _ _ _ (by omega) (by omega) hr hE hT hS
                    · refine il_6 dX1_value_154 ?_
                      refine bi_28 dX1_value_156 ?_
                      refine wp_icmp_ne 178 dX1_value_158 rfl (fun c158 => ?_) (fun c158 => ?_)
                      · refine al_0 dX1_value_178 ?_
                        refine c_X1_32 dX1_value_179 rfl tt19 (Nat.le_of_ble_eq_true rfl) (by omega) ?_
                        obtain ⟨x, t', rfl⟩ := ne1 (st := st) (by unfold cAr isTwo at o6; omega)
                        obtain ⟨z, t, rfl⟩ := ne1 (st := t') (by unfold cAr isTwo at o6; simp at o6; omega)
                        have ox := o5 x List.mem_cons_self
                        have oz := o5 z (List.mem_cons_of_mem _ List.mem_cons_self)
                        refine wX1_popR (by omega) hE hT hS (by omega) (fun h1 hE hT hS => ?_)
                        refine pv_i ?_
                        refine is_7 dX1_value_182 rfl (by decide) ?_
                        refine al_0 dX1_value_184 ?_
                        refine il_6 dX1_value_185 ?_
                        refine al_0 dX1_value_187 ?_
                        refine c_X1_32 dX1_value_188 rfl tt19 (Nat.le_of_ble_eq_true rfl) (by omega) ?_
                        refine wX1_popR (by omega) hE hT hS (by simp at o4 ⊢; omega) (fun h1 hE hT hS => ?_)
                        refine pv_i ?_
                        have hT2 : isTwo (ety h0 o a) := by rw [he]; unfold cAr isTwo at o6; unfold isTwo; omega
                        rw [cs_two hT2, he] at hr
                        refine il_7 dX1_value_191 ?_
                        refine c_X1_40 dX1_value_193 rfl (Nat.le_of_ble_eq_true rfl) (by omega) ?_
                        refine wX1_ofTwo (by omega) (he ▸ hT2) oz ox ?_
                        refine pv_i ?_
                        refine c_X1_28 dX1_value_196 rfl tt19 (Nat.le_of_ble_eq_true rfl) (by omega) ?_
                        refine wX1_pushR (by omega) hE hT hS (by simp at o4; omega) (fun h1 hE hT hS => ?_)
                        refine pv_n ?_
                        refine ii_5 dX1_value_199 rfl (by decide) ⟨by decide, by decide⟩ (r32 (by omega) (by omega)) ?_
                        refine wp_goto 11 dX1_value_202 rfl ?_
                        refine wp_fg (ls' := [_, _, _, _, _, _, vn, vn]) ⟨Or.inr rfl, Or.inr rfl, Or.inr rfl, Or.inr rfl, Or.inr rfl, Or.inr rfl, Or.inl rfl, Or.inl rfl, trivial⟩ ?_
                        exact ih (i + 1) _ _ _ (by omega) (by omega) hr hE hT hS
                      · refine al_0 dX1_value_161 ?_
                        refine il_6 dX1_value_162 ?_
                        refine al_0 dX1_value_164 ?_
                        refine c_X1_32 dX1_value_165 rfl tt19 (Nat.le_of_ble_eq_true rfl) (by omega) ?_
                        obtain ⟨x, t, rfl⟩ := ne1 (st := st) (by unfold cAr isTwo at o6; omega)
                        have ox := o5 x List.mem_cons_self
                        refine wX1_popR (by omega) hE hT hS (by omega) (fun h1 hE hT hS => ?_)
                        refine pv_i ?_
                        refine il_3 dX1_value_168 ?_
                        refine c_X1_36 dX1_value_169 rfl (Nat.le_of_ble_eq_true rfl) (by omega) ?_
                        refine wX1_ofOne (by omega) (by omega) ox l0 l1 ?_
                        refine pv_i ?_
                        refine c_X1_28 dX1_value_172 rfl tt19 (Nat.le_of_ble_eq_true rfl) (by omega) ?_
                        refine wX1_pushR (by omega) hE hT hS (by simp at o4; omega) (fun h1 hE hT hS => ?_)
                        refine pv_n ?_
                        rw [cs_one (by rw [he]; omega), he] at hr
                        refine wp_goto 199 dX1_value_175 rfl ?_
                        refine ii_5 dX1_value_199 rfl (by decide) ⟨by decide, by decide⟩ (r32 (by omega) (by omega)) ?_
                        refine wp_goto 11 dX1_value_202 rfl ?_
                        refine wp_fg (ls' := [_, _, _, _, _, _, vn, vn]) ⟨Or.inr rfl, Or.inr rfl, Or.inr rfl, Or.inr rfl, Or.inr rfl, Or.inr rfl, Or.inl rfl, Or.inl rfl, trivial⟩ ?_
                        exact ih (i + 1) _ _ _ (by omega) (by omega) hr hE hT hS
                · refine al_0 dX1_value_115 ?_
                  refine c_X1_32 dX1_value_116 rfl tt19 (Nat.le_of_ble_eq_true rfl) (by omega) ?_
                  obtain ⟨x, t, rfl⟩ := ne1 (st := st) (by unfold cAr isTwo at o6; omega)
                  have ox := o5 x List.mem_cons_self
                  refine wX1_popR (by omega) hE hT hS (by omega) (fun h1 hE hT hS => ?_)
                  refine pv_i ?_
                  refine wp_if_ne 131 dX1_value_119 rfl (fun c119 => ?_) (fun c119 => ?_)
                  · rw [cs_ju1 (he.trans (by omega)) c119] at hr
                    refine il_4 dX1_value_131 ?_
                    refine ic_1 dX1_value_133 ?_
                    refine wp_iadd dX1_value_134 (r32 (by omega) (by omega)) ?_
                    refine is_4 dX1_value_135 rfl (by decide) ?_
                    refine wp_goto 199 dX1_value_137 rfl ?_
                    refine ii_5 dX1_value_199 rfl (by decide) ⟨by decide, by decide⟩ (r32 (by omega) (by omega)) ?_
                    refine wp_goto 11 dX1_value_202 rfl ?_
                    refine wp_fg (ls' := [_, _, _, _, _, _, vn, vn]) ⟨Or.inr rfl, Or.inr rfl, Or.inr rfl, Or.inr rfl, Or.inr rfl, Or.inr rfl, Or.inl rfl, Or.inl rfl, trivial⟩ ?_
                    exact ih (i + 1) _ _ _ (by omega) (by omega) hr hE hT hS
                  · refine al_1 dX1_value_122 ?_
                    refine il_4 dX1_value_123 ?_
                    refine c_X1_22 dX1_value_125 rfl ho (Nat.le_of_ble_eq_true rfl) (by omega) ?_
                    refine wX3_entryR (by omega) hE ho hu ?_
                    refine pv_i ?_
                    rw [cs_ju0 (he.trans (by omega)) c119] at hr
                    refine wp_goto 135 dX1_value_128 rfl ?_
                    refine is_4 dX1_value_135 rfl (by decide) ?_
                    refine wp_goto 199 dX1_value_137 rfl ?_
                    refine ii_5 dX1_value_199 rfl (by decide) ⟨by decide, by decide⟩ (r32 (by omega) (by omega)) ?_
                    refine wp_goto 11 dX1_value_202 rfl ?_
                    refine wp_fg (ls' := [_, _, _, _, _, _, vn, vn]) ⟨Or.inr rfl, Or.inr rfl, Or.inr rfl, Or.inr rfl, Or.inr rfl, Or.inr rfl, Or.inl rfl, Or.inl rfl, trivial⟩ ?_
                    exact ih (i + 1) _ _ _ (by omega) (by omega) hr hE hT hS
              · refine al_1 dX1_value_97 ?_
                refine il_4 dX1_value_98 ?_
                refine c_X1_22 dX1_value_100 rfl ho (Nat.le_of_ble_eq_true rfl) (by omega) ?_
                refine wX3_entryR (by omega) hE ho hu ?_
                refine pv_i ?_
                refine is_4 dX1_value_103 rfl (by decide) ?_
                rw [cs_jmp (he.trans (by omega))] at hr
                refine wp_goto 199 dX1_value_105 rfl ?_
                refine ii_5 dX1_value_199 rfl (by decide) ⟨by decide, by decide⟩ (r32 (by omega) (by omega)) ?_
                refine wp_goto 11 dX1_value_202 rfl ?_
                refine wp_fg (ls' := [_, _, _, _, _, _, vn, vn]) ⟨Or.inr rfl, Or.inr rfl, Or.inr rfl, Or.inr rfl, Or.inr rfl, Or.inr rfl, Or.inl rfl, Or.inl rfl, trivial⟩ ?_
                exact ih (i + 1) _ _ _ (by omega) (by omega) hr hE hT hS
            · refine al_0 dX1_value_76 ?_
              refine al_0 dX1_value_77 ?_
              refine g_X1_9 (20) dX1_value_78 rfl tt19 (rr1_0 tt19) (by omega) ?_
              refine il_6 dX1_value_81 ?_
              refine wp_iaload dX1_value_83 tt20 (by omega) (by omega) ?_
              rw [hE 20 (by decide)]
              refine c_X1_28 dX1_value_84 rfl tt19 (Nat.le_of_ble_eq_true rfl) (by omega) ?_
              refine wX1_pushR (by omega) hE hT hS (by omega) (fun h1 hE hT hS => ?_)
              refine pv_n ?_
              rw [cs_nam (by rw [he]; omega) (by rw [he]; omega), he] at hr
              refine wp_goto 199 dX1_value_87 rfl ?_
              refine ii_5 dX1_value_199 rfl (by decide) ⟨by decide, by decide⟩ (r32 (by omega) (by omega)) ?_
              refine wp_goto 11 dX1_value_202 rfl ?_
              refine wp_fg (ls' := [_, _, _, _, _, _, vn, vn]) ⟨Or.inr rfl, Or.inr rfl, Or.inr rfl, Or.inr rfl, Or.inr rfl, Or.inr rfl, Or.inl rfl, Or.inl rfl, trivial⟩ ?_
              exact ih (i + 1) _ _ _ (by omega) (by omega) hr hE hT hS
        · refine al_0 dX1_value_48 ?_
          refine al_1 dX1_value_49 ?_
          refine il_4 dX1_value_50 ?_
          refine c_X1_22 dX1_value_52 rfl ho (Nat.le_of_ble_eq_true rfl) (by omega) ?_
          refine wX3_entryR (by omega) hE ho hu ?_
          refine pv_i ?_
          refine c_X1_28 dX1_value_55 rfl tt19 (Nat.le_of_ble_eq_true rfl) (by omega) ?_
          refine wX1_pushR (by omega) hE hT hS (by omega) (fun h1 hE hT hS => ?_)
          refine pv_n ?_
          rw [cs_num (he.trans (by omega))] at hr
          refine ii_4 dX1_value_58 rfl (by decide) ⟨by decide, by decide⟩ (r32 (by omega) (by omega)) ?_
          refine wp_goto 199 dX1_value_61 rfl ?_
          refine ii_5 dX1_value_199 rfl (by decide) ⟨by decide, by decide⟩ (r32 (by omega) (by omega)) ?_
          refine wp_goto 11 dX1_value_202 rfl ?_
          refine wp_fg (ls' := [_, _, _, _, _, _, vn, vn]) ⟨Or.inr rfl, Or.inr rfl, Or.inr rfl, Or.inr rfl, Or.inr rfl, Or.inr rfl, Or.inl rfl, Or.inl rfl, trivial⟩ ?_
          exact ih (i + 1) _ _ _ (by omega) (by omega) hr hE hT hS

theorem wX1_value {G : GT} {δ : Nat} {h hl : Nat → Int → Int} {b : Bool × Bool} {Q : V → Hp → Prop} {o : Nat} {fr lit v stop : Int} {n : Nat} (hδ : δ ≤ 1660) (ho : ty TT o = some (.inl 3)) (l0 : 0 ≤ lit) (l1 : lit < 1024) (hu : h o 2 ≤ 600) (hst : ety h o stop = 53) (hn : n < 600) (hr : cReach (ety h o) (h 20) lit n (fr, []) (stop, [v])) (hQ : ∀ h', eqX [19, 21] h h' → Q (vi v) (HS h' hl b)) : WP G δ 0 0 MX1_value 0 [vr (19), vr (o), vi fr, vi lit, vn, vn, vn, vn] [] (HS h hl b) Q := by
  refine al_0 dX1_value_0 ?_
  refine ic_0 dX1_value_1 ?_
  refine p_X1_18 dX1_value_2 rfl tt19 ?_
  refine il_2 dX1_value_5 ?_
  refine is_4 dX1_value_6 rfl (by decide) ?_
  refine ic_0 dX1_value_8 ?_
  refine is_5 dX1_value_9 rfl (by decide) ?_
  exact wX1_value_11 (by omega) ho l0 l1 hu hst hQ n 0 fr [] _ (by omega) (by omega) hr (eqX.rf.up (by decide)) (by rw [up_s]; rfl) trivial
