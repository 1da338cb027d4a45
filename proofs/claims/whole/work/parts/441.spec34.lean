theorem wX4_bestBehind_5 {G : GT} {δ : Nat} {h hl : Nat → Int → Int} {b : Bool × Bool} {Q : V → Hp → Prop} {s mo : Int} {R : Int → Int} (hδ : δ ≤ 1700) (Sp : SP h R) (V : RV R) (hm0 : mo = if pc s % 2 = 0 then 1 else 0) (s0 : 0 ≤ s) (s1 : s < nS R) (sp : pc s < hfN R) (A : ∀ j : Int, s < j → j < nS R → pc j ≤ hfN R → h 325 j = GV R j) : ∀ (n : Nat) (f : Int) (d : Int) (c5 : Option (Int ⊕ Int ⊕ Nat ⊕ Nat)), ((R 1 - d).toNat) < n → (0 ≤ d) → (d ≤ R 1) → (f = bstN (GV R) s d.toNat) → (Q (vi (bstN (GV R) s (R 1).toNat)) (HS h hl b)) → WP G δ 0 0 MX4_bestBehind 5 [vr (323), vi s, vi mo, vi f, vi d, c5] [] (HS h hl b) Q := by
  intro n
  induction n with
  | zero => intro f d c5 hlt; exact absurd hlt (Nat.not_lt_zero _)
  | succ n ih =>
    intro f d c5 hlt d0 d1 hb hQ
    obtain ⟨k4, k5, k6⟩ := Sp
    have n := V.n
    have nn := nS_e V
    refine il_4 dX4_bestBehind_5 ?_
    refine al_0 dX4_bestBehind_7 ?_
    refine g_X4_39 dX4_bestBehind_8 rfl tt323 ?_
    rw [k4]
    refine wp_icmp_ge 69 dX4_bestBehind_11 rfl (fun c11 => ?_) (fun c11 => ?_)
    · have e : d = R 1 := by omega
      subst e
      refine il_3 dX4_bestBehind_69 ?_
      refine wp_ireti dX4_bestBehind_70 rfl ?_
      exact qv hQ hb.symm
    · refine il_1 dX4_bestBehind_14 ?_
      refine il_4 dX4_bestBehind_15 ?_
      refine wp_ishr dX4_bestBehind_17 ?_
      refine ic_1 dX4_bestBehind_18 ?_
      refine wp_iand dX4_bestBehind_19 ?_
      rw [has_tb s0 (by omega) d0 (by omega)]
      refine wp_if_ne 63 dX4_bestBehind_20 rfl (fun c20 => ?_) (fun c20 => ?_)
      · have q : tb s d = true := by
          cases z : tb s d with
          | true => rfl
          | false => rw [z] at c20; exact absurd rfl c20
        refine ii_4 dX4_bestBehind_63 rfl (by decide) ⟨by decide, by decide⟩ (r32 (by omega) (by omega)) ?_
        refine wp_goto 5 dX4_bestBehind_66 rfl ?_
        refine ih _ (d + 1) _ (by omega) (by omega) (by omega) ?_ hQ
        first
          | exact bstN_t d0 q hb
          | exact bstN_f d0 q hb (by omega)
          | exact bstN_k d0 q hb (by omega)
      · have q : tb s d = false := by
          cases z : tb s d with
          | false => rfl
          | true => rw [z] at c20; exact absurd c20 (by decide)
        have mx := more_x V s0 s1 d0 (by omega) q
        refine al_0 dX4_bestBehind_23 ?_
        refine g_X4_15 (325) dX4_bestBehind_24 rfl tt323 (rr4_1 tt323) (by omega) ?_
        refine il_1 dX4_bestBehind_27 ?_
        refine ic_1 dX4_bestBehind_28 ?_
        refine il_4 dX4_bestBehind_29 ?_
        refine wp_ishl dX4_bestBehind_31 ?_
        refine wp_ior dX4_bestBehind_32 ?_
        refine wp_iaload dX4_bestBehind_33 tt325 (by omega) (by omega) ?_
        rw [A _ mx.2.1 mx.2.2 (by omega)]
        refine is_5 dX4_bestBehind_34 rfl (by decide) ?_
        refine il_3 dX4_bestBehind_36 ?_
        refine ic_m1 dX4_bestBehind_37 ?_
        refine wp_icmp_eq 60 dX4_bestBehind_38 rfl (fun c38 => ?_) (fun c38 => ?_)
        · refine il_5 dX4_bestBehind_60 ?_
          refine is_3 dX4_bestBehind_62 rfl (by decide) ?_
          refine ii_4 dX4_bestBehind_63 rfl (by decide) ⟨by decide, by decide⟩ (r32 (by omega) (by omega)) ?_
          refine wp_goto 5 dX4_bestBehind_66 rfl ?_
          refine wp_fg (ls' := [_, _, _, _, _, vn]) ⟨Or.inr rfl, Or.inr rfl, Or.inr rfl, Or.inr rfl, Or.inr rfl, Or.inl rfl, trivial⟩ ?_
          refine ih _ (d + 1) _ (by omega) (by omega) (by omega) ?_ hQ
          first
            | exact bstN_t d0 q hb
            | exact bstN_f d0 q hb (by omega)
            | exact bstN_k d0 q hb (by omega)
        · refine il_2 dX4_bestBehind_41 ?_
          refine wp_if_eq 54 dX4_bestBehind_42 rfl (fun c42 => ?_) (fun c42 => ?_)
          · refine il_5 dX4_bestBehind_54 ?_
            refine il_3 dX4_bestBehind_56 ?_
            refine wp_icmp_ge 63 dX4_bestBehind_57 rfl (fun c57 => ?_) (fun c57 => ?_)
            · refine ii_4 dX4_bestBehind_63 rfl (by decide) ⟨by decide, by decide⟩ (r32 (by omega) (by omega)) ?_
              refine wp_goto 5 dX4_bestBehind_66 rfl ?_
              refine wp_fg (ls' := [_, _, _, _, _, vn]) ⟨Or.inr rfl, Or.inr rfl, Or.inr rfl, Or.inr rfl, Or.inr rfl, Or.inl rfl, trivial⟩ ?_
              refine ih _ (d + 1) _ (by omega) (by omega) (by omega) ?_ hQ
              first
                | exact bstN_t d0 q hb
                | exact bstN_f d0 q hb (by omega)
                | exact bstN_k d0 q hb (by omega)
            · refine il_5 dX4_bestBehind_60 ?_
              refine is_3 dX4_bestBehind_62 rfl (by decide) ?_
              refine ii_4 dX4_bestBehind_63 rfl (by decide) ⟨by decide, by decide⟩ (r32 (by omega) (by omega)) ?_
              refine wp_goto 5 dX4_bestBehind_66 rfl ?_
              refine wp_fg (ls' := [_, _, _, _, _, vn]) ⟨Or.inr rfl, Or.inr rfl, Or.inr rfl, Or.inr rfl, Or.inr rfl, Or.inl rfl, trivial⟩ ?_
              refine ih _ (d + 1) _ (by omega) (by omega) (by omega) ?_ hQ
              first
                | exact bstN_t d0 q hb
                | exact bstN_f d0 q hb (by omega)
                | exact bstN_k d0 q hb (by omega)
          · refine il_5 dX4_bestBehind_45 ?_
            refine il_3 dX4_bestBehind_47 ?_
            refine wp_icmp_le 63 dX4_bestBehind_48 rfl (fun c48 => ?_) (fun c48 => ?_)
            · refine ii_4 dX4_bestBehind_63 rfl (by decide) ⟨by decide, by decide⟩ (r32 (by omega) (by omega)) ?_
              refine wp_goto 5 dX4_bestBehind_66 rfl ?_
              refine wp_fg (ls' := [_, _, _, _, _, vn]) ⟨Or.inr rfl, Or.inr rfl, Or.inr rfl, Or.inr rfl, Or.inr rfl, Or.inl rfl, trivial⟩ ?_
              refine ih _ (d + 1) _ (by omega) (by omega) (by omega) ?_ hQ
              first
                | exact bstN_t d0 q hb
                | exact bstN_f d0 q hb (by omega)
                | exact bstN_k d0 q hb (by omega)
            · refine wp_goto 60 dX4_bestBehind_51 rfl ?_
              refine il_5 dX4_bestBehind_60 ?_
              refine is_3 dX4_bestBehind_62 rfl (by decide) ?_
              refine ii_4 dX4_bestBehind_63 rfl (by decide) ⟨by decide, by decide⟩ (r32 (by omega) (by omega)) ?_
              refine wp_goto 5 dX4_bestBehind_66 rfl ?_
              refine wp_fg (ls' := [_, _, _, _, _, vn]) ⟨Or.inr rfl, Or.inr rfl, Or.inr rfl, Or.inr rfl, Or.inr rfl, Or.inl rfl, trivial⟩ ?_
              refine ih _ (d + 1) _ (by omega) (by omega) (by omega) ?_ hQ
              first
                | exact bstN_t d0 q hb
                | exact bstN_f d0 q hb (by omega)
                | exact bstN_k d0 q hb (by omega)

theorem wX4_bestBehind {G : GT} {δ : Nat} {h hl : Nat → Int → Int} {b : Bool × Bool} {Q : V → Hp → Prop} {s mo : Int} {R : Int → Int} (hδ : δ ≤ 1700) (Sp : SP h R) (V : RV R) (hm0 : mo = if pc s % 2 = 0 then 1 else 0) (s0 : 0 ≤ s) (s1 : s < nS R) (sp : pc s < hfN R) (A : ∀ j : Int, s < j → j < nS R → pc j ≤ hfN R → h 325 j = GV R j) (hQ : Q (vi (GV R s)) (HS h hl b)) : WP G δ 0 0 MX4_bestBehind 0 [vr (323), vi s, vi mo, vn, vn, vn] [] (HS h hl b) Q := by
  obtain ⟨k4, k5, k6⟩ := Sp
  have n := V.n
  have nn := nS_e V
  refine ic_m1 dX4_bestBehind_0 ?_
  refine is_3 dX4_bestBehind_1 rfl (by decide) ?_
  refine ic_0 dX4_bestBehind_2 ?_
  refine is_4 dX4_bestBehind_3 rfl (by decide) ?_
  exact wX4_bestBehind_5 (by omega) ⟨k4, k5, k6⟩ V hm0 s0 s1 sp A _ (-1) 0 _ (Nat.lt_succ_self _) (by omega) (by omega) rfl (qv hQ (GV_s V s0 s1 sp))

theorem wX4_playOut_16 {G : GT} {δ : Nat} {hl : Nat → Int → Int} {b : Bool × Bool} {Q : V → Hp → Prop} {hf : Int} {R : Int → Int} {h0 : Nat → Int → Int} (hδ : δ ≤ 1680) (Sp0 : SP h0 R) (V : RV R) (eh : hf = hfN R) : ∀ (n : Nat) (s : Int) (h : Nat → Int → Int) (c4 : Option (Int ⊕ Int ⊕ Nat ⊕ Nat)), ((s + 1).toNat) < n → (eqX [325] h0 h) → (-1 ≤ s) → (s < nS R) → (∀ j : Int, s < j → j < nS R → pc j ≤ hfN R → h 325 j = GV R j) → (∀ h' : Nat → Int → Int, eqX [325] h0 h' → (∀ j : Int, 0 ≤ j → j < nS R → pc j ≤ hfN R → h' 325 j = GV R j) → Q vn (HS h' hl b)) → WP G δ 0 0 MX4_playOut 16 [vr (323), vi (R 10), vi hf, vi s, c4] [] (HS h hl b) Q := by
  intro n
  induction n with
  | zero => intro s h c4 hlt; exact absurd hlt (Nat.not_lt_zero _)
  | succ n ih =>
    intro s h c4 hlt E s0 s1 A hQ
    have Sp := Sp0.g E
    obtain ⟨k4, k5, k6⟩ := Sp
    have n := V.n
    have nn := nS_e V
    refine il_3 dX4_playOut_16 ?_
    refine wp_if_lt 87 dX4_playOut_17 rfl (fun c17 => ?_) (fun c17 => ?_)
    · refine wp_vret dX4_playOut_87 rfl ?_
      exact hQ h E (fun j j0 j1 j2 => A j (by omega) j1 j2)
    · refine il_3 dX4_playOut_20 ?_
      refine c_X4_53 dX4_playOut_21 rfl (Nat.le_of_ble_eq_true rfl) (by omega) ?_
      refine wJ6_bitCount (show 0 ≤ s by omega) (by omega) ?_
      have pr := pc_R (x := s)
      refine pv_i ?_
      refine is_4 dX4_playOut_24 rfl (by decide) ?_
      refine il_4 dX4_playOut_26 ?_
      refine il_2 dX4_playOut_28 ?_
      refine wp_icmp_ne 52 dX4_playOut_29 rfl (fun c29 => ?_) (fun c29 => ?_)
      · refine il_4 dX4_playOut_52 ?_
        refine il_2 dX4_playOut_54 ?_
        refine wp_icmp_ge 81 dX4_playOut_55 rfl (fun c55 => ?_) (fun c55 => ?_)
        · refine ii_3 dX4_playOut_81 rfl (by decide) ⟨by decide, by decide⟩ (r32 (by omega) (by omega)) ?_
          refine wp_goto 16 dX4_playOut_84 rfl ?_
          refine wp_fg (ls' := [_, _, _, _, vn]) ⟨Or.inr rfl, Or.inr rfl, Or.inr rfl, Or.inr rfl, Or.inl rfl, trivial⟩ ?_
          refine ih (s + (-1)) _ _ (by omega) ?_ (by omega) (by omega) (fun j j0 j1 j2 => ?_) hQ
          · first | exact E.up (by decide) | exact E
          first
            | (exfalso; omega)
            | (have js : j ≠ s := fun z => by subst z; omega
               exact A j (by omega) j1 j2)
            | (by_cases e : j = s
               · subst e
                 first
                   | (rw [up_s]; done)
                   | (rw [up_s]; exact (GV_0 (by omega)).symm)
               · rw [up_k e]; exact A j (by omega) j1 j2)
        · refine al_0 dX4_playOut_58 ?_
          refine g_X4_15 (325) dX4_playOut_59 rfl tt323 (rr4_1 tt323) (by omega) ?_
          refine il_3 dX4_playOut_62 ?_
          refine al_0 dX4_playOut_63 ?_
          refine il_3 dX4_playOut_64 ?_
          refine il_4 dX4_playOut_65 ?_
          refine ic_2 dX4_playOut_67 ?_
          refine wp_iremN dX4_playOut_68 (by omega) (by omega) ?_
          refine wp_if_ne 76 dX4_playOut_69 rfl (fun c69 => ?_) (fun c69 => ?_)
          · refine ic_0 dX4_playOut_76 ?_
            refine c_X4_72 dX4_playOut_77 rfl tt323 (Nat.le_of_ble_eq_true rfl) (by omega) ?_
            refine wX4_bestBehind (by omega) ⟨k4, k5, k6⟩ V ?_ (by omega) (by omega) (by omega) A ?_
            · first | rw [if_pos (by omega)] | rw [if_neg (by omega)]
            refine pv_i ?_
            refine wp_iastore dX4_playOut_80 tt325 (by omega) (by omega) ?_
            refine ii_3 dX4_playOut_81 rfl (by decide) ⟨by decide, by decide⟩ (r32 (by omega) (by omega)) ?_
            refine wp_goto 16 dX4_playOut_84 rfl ?_
            refine wp_fg (ls' := [_, _, _, _, vn]) ⟨Or.inr rfl, Or.inr rfl, Or.inr rfl, Or.inr rfl, Or.inl rfl, trivial⟩ ?_
            refine ih (s + (-1)) _ _ (by omega) ?_ (by omega) (by omega) (fun j j0 j1 j2 => ?_) hQ
            · first | exact E.up (by decide) | exact E
            first
              | (exfalso; omega)
              | (have js : j ≠ s := fun z => by subst z; omega
                 exact A j (by omega) j1 j2)
              | (by_cases e : j = s
                 · subst e
                   first
                     | (rw [up_s]; done)
                     | (rw [up_s]; exact (GV_0 (by omega)).symm)
                 · rw [up_k e]; exact A j (by omega) j1 j2)
          · refine ic_1 dX4_playOut_72 ?_
            refine wp_goto 77 dX4_playOut_73 rfl ?_
            refine c_X4_72 dX4_playOut_77 rfl tt323 (Nat.le_of_ble_eq_true rfl) (by omega) ?_
            refine wX4_bestBehind (by omega) ⟨k4, k5, k6⟩ V ?_ (by omega) (by omega) (by omega) A ?_
            · first | rw [if_pos (by omega)] | rw [if_neg (by omega)]
            refine pv_i ?_
            refine wp_iastore dX4_playOut_80 tt325 (by omega) (by omega) ?_
            refine ii_3 dX4_playOut_81 rfl (by decide) ⟨by decide, by decide⟩ (r32 (by omega) (by omega)) ?_
            refine wp_goto 16 dX4_playOut_84 rfl ?_
            refine wp_fg (ls' := [_, _, _, _, vn]) ⟨Or.inr rfl, Or.inr rfl, Or.inr rfl, Or.inr rfl, Or.inl rfl, trivial⟩ ?_
            refine ih (s + (-1)) _ _ (by omega) ?_ (by omega) (by omega) (fun j j0 j1 j2 => ?_) hQ
            · first | exact E.up (by decide) | exact E
            first
              | (exfalso; omega)
              | (have js : j ≠ s := fun z => by subst z; omega
                 exact A j (by omega) j1 j2)
              | (by_cases e : j = s
                 · subst e
                   first
                     | (rw [up_s]; done)
                     | (rw [up_s]; exact (GV_0 (by omega)).symm)
                 · rw [up_k e]; exact A j (by omega) j1 j2)
      · refine al_0 dX4_playOut_32 ?_
        refine g_X4_15 (325) dX4_playOut_33 rfl tt323 (rr4_1 tt323) (by omega) ?_
        refine il_3 dX4_playOut_36 ?_
        refine il_1 dX4_playOut_37 ?_
        refine al_0 dX4_playOut_38 ?_
        refine g_X4_9 (324) dX4_playOut_39 rfl tt323 (rr4_0 tt323) (by omega) ?_
        refine il_3 dX4_playOut_42 ?_
        refine wp_iaload dX4_playOut_43 tt324 (by omega) (by omega) ?_
        rw [k6 s (by omega) (by omega)]
        refine wp_ixor dX4_playOut_44 ?_
        rw [show bxor (R 10) (tT R s) = brT R s from rfl]
        refine c_X4_53 dX4_playOut_45 rfl (Nat.le_of_ble_eq_true rfl) (by omega) ?_
        have br := brT_R V s
        refine wJ6_bitCount br.1 br.2 ?_
        refine pv_i ?_
        refine wp_iastore dX4_playOut_48 tt325 (by omega) (by omega) ?_
        refine wp_goto 81 dX4_playOut_49 rfl ?_
        refine ii_3 dX4_playOut_81 rfl (by decide) ⟨by decide, by decide⟩ (r32 (by omega) (by omega)) ?_
        refine wp_goto 16 dX4_playOut_84 rfl ?_
        refine wp_fg (ls' := [_, _, _, _, vn]) ⟨Or.inr rfl, Or.inr rfl, Or.inr rfl, Or.inr rfl, Or.inl rfl, trivial⟩ ?_
        refine ih (s + (-1)) _ _ (by omega) ?_ (by omega) (by omega) (fun j j0 j1 j2 => ?_) hQ
        · first | exact E.up (by decide) | exact E
        first
          | (exfalso; omega)
          | (have js : j ≠ s := fun z => by subst z; omega
             exact A j (by omega) j1 j2)
          | (by_cases e : j = s
             · subst e
               first
                 | (rw [up_s]; done)
                 | (rw [up_s]; exact (GV_0 (by omega)).symm)
             · rw [up_k e]; exact A j (by omega) j1 j2)

theorem wX4_playOut {G : GT} {δ : Nat} {h hl : Nat → Int → Int} {b : Bool × Bool} {Q : V → Hp → Prop} {R : Int → Int} (hδ : δ ≤ 1680) (Sp : SP h R) (V : RV R)  (hQ : ∀ h' : Nat → Int → Int, eqX [325] h h' → (∀ j : Int, 0 ≤ j → j < nS R → pc j ≤ hfN R → h' 325 j = GV R j) → Q vn (HS h' hl b)) : WP G δ 0 0 MX4_playOut 0 [vr (323), vi (R 10), vn, vn, vn] [] (HS h hl b) Q := by
  obtain ⟨k4, k5, k6⟩ := Sp
  have n := V.n
  have nn := nS_e V
  refine al_0 dX4_playOut_0 ?_
  refine g_X4_39 dX4_playOut_1 rfl tt323 ?_
  rw [k4]
  refine ic_1 dX4_playOut_4 ?_
  refine wp_iadd dX4_playOut_5 (r32 (by omega) (by omega)) ?_
  refine ic_2 dX4_playOut_6 ?_
  refine wp_idivN dX4_playOut_7 (by omega) (by omega) ?_
  refine is_2 dX4_playOut_8 rfl (by decide) ?_
  refine al_0 dX4_playOut_9 ?_
  refine g_X4_24 dX4_playOut_10 rfl tt323 ?_
  rw [k5]
  refine ic_1 dX4_playOut_13 ?_
  refine wp_isub dX4_playOut_14 (r32 (by omega) (by omega)) ?_
  refine is_3 dX4_playOut_15 rfl (by decide) ?_
  exact wX4_playOut_16 (by omega) ⟨k4, k5, k6⟩ V rfl _ _ h _ (Nat.lt_succ_self _) eqX.rf (by omega) (by omega) (fun j j0 j1 => by omega) hQ

theorem wX4_worth {G : GT} {δ : Nat} {h hl : Nat → Int → Int} {b : Bool × Bool} {Q : V → Hp → Prop} {R : Int → Int} (hδ : δ ≤ 1700) (Sp : SP h R) (V : RV R) (A : ∀ j : Int, 0 ≤ j → j < nS R → pc j ≤ hfN R → h 325 j = GV R j) (hQ : Q (vi (GV R 0)) (HS h hl b)) : WP G δ 0 0 MX4_worth 0 [vr (323)] [] (HS h hl b) Q := by
  obtain ⟨k4, k5, k6⟩ := Sp
  have n := V.n
  have nn := nS_e V
  have hf : 0 ≤ hfN R ∧ (0 < R 1 → 1 ≤ hfN R) := by unfold hfN; omega
  have a0 := A 0 (by omega) (by omega) (by rw [pc_00]; omega)
  refine al_0 dX4_worth_0 ?_
  refine g_X4_15 (325) dX4_worth_1 rfl tt323 (rr4_1 tt323) (by omega) ?_
  refine ic_0 dX4_worth_4 ?_
  refine wp_iaload dX4_worth_5 tt325 (by omega) (by omega) ?_
  rw [a0]
  refine wp_ireti dX4_worth_6 rfl ?_
  exact hQ

theorem wX4_firstSaid_2 {G : GT} {δ : Nat} {h hl : Nat → Int → Int} {b : Bool × Bool} {Q : V → Hp → Prop}  {R : Int → Int} (hδ : δ ≤ 1700) (Sp : SP h R) (V : RV R) (A : ∀ j : Int, 0 ≤ j → j < nS R → pc j ≤ hfN R → h 325 j = GV R j) : ∀ (n : Nat) (d : Int), ((R 1 - d).toNat) < n → (0 ≤ d) → (d ≤ R 1) → (∀ i : Int, 0 ≤ i → i < d → fsN R i = false) → (Q (vi (loN (fsN R) (R 1).toNat)) (HS h hl b)) → WP G δ 0 0 MX4_firstSaid 2 [vr (323), vi d] [] (HS h hl b) Q := by
  intro n
  induction n with
  | zero => intro d hlt; exact absurd hlt (Nat.not_lt_zero _)
  | succ n ih =>
    intro d hlt d0 d1 hm hQ
    obtain ⟨k4, k5, k6⟩ := Sp
    have n := V.n
    have nn := nS_e V
    have hf : 0 ≤ hfN R ∧ (0 < R 1 → 1 ≤ hfN R) := by unfold hfN; omega
    have a0 := A 0 (by omega) (by omega) (by rw [pc_00]; omega)
    refine il_1 dX4_firstSaid_2 ?_
    refine al_0 dX4_firstSaid_3 ?_
    refine g_X4_39 dX4_firstSaid_4 rfl tt323 ?_
    rw [k4]
    refine wp_icmp_ge 35 dX4_firstSaid_7 rfl (fun c7 => ?_) (fun c7 => ?_)
    · have e : d = R 1 := by omega
      subst e
      refine ic_m1 dX4_firstSaid_35 ?_
      refine wp_ireti dX4_firstSaid_36 rfl ?_
      exact qv hQ (loN_miss _ (fun i a c => hm i a (by omega)))
    · have sd := tT_1 V d0 (by omega)
      have po := pc_one' d0 (by omega)
      have ad := A _ sd.2.1 sd.2.2 (by omega)
      refine al_0 dX4_firstSaid_10 ?_
      refine g_X4_15 (325) dX4_firstSaid_11 rfl tt323 (rr4_1 tt323) (by omega) ?_
      refine ic_1 dX4_firstSaid_14 ?_
      refine il_1 dX4_firstSaid_15 ?_
      refine wp_ishl dX4_firstSaid_16 ?_
      refine wp_iaload dX4_firstSaid_17 tt325 (by omega) (by omega) ?_
      rw [ad]
      refine al_0 dX4_firstSaid_18 ?_
      refine g_X4_15 (325) dX4_firstSaid_19 rfl tt323 (rr4_1 tt323) (by omega) ?_
      refine ic_0 dX4_firstSaid_22 ?_
      refine wp_iaload dX4_firstSaid_23 tt325 (by omega) (by omega) ?_
      rw [a0]
      refine wp_icmp_ne 29 dX4_firstSaid_24 rfl (fun c24 => ?_) (fun c24 => ?_)
      · refine ii_1 dX4_firstSaid_29 rfl (by decide) ⟨by decide, by decide⟩ (r32 (by omega) (by omega)) ?_
        refine wp_goto 2 dX4_firstSaid_32 rfl ?_
        refine ih (d + 1) (by omega) (by omega) (by omega) (fun i i0 i1 => ?_) hQ
        by_cases e : i = d
        · subst e; unfold fsN; simpa using c24
        · exact hm i i0 (by omega)
      · refine il_1 dX4_firstSaid_27 ?_
        refine wp_ireti dX4_firstSaid_28 rfl ?_
        obtain ⟨k, ek⟩ := Int.eq_ofNat_of_zero_le d0
        exact qv hQ (by rw [loN_hit (s := k) (by rw [← ek]; unfold fsN; rw [c24]; exact beq_self_eq_true _) (fun i a c => hm i a (by omega)) _ (by omega), ek])

theorem wX4_firstSaid {G : GT} {δ : Nat} {h hl : Nat → Int → Int} {b : Bool × Bool} {Q : V → Hp → Prop} {R : Int → Int} (hδ : δ ≤ 1700) (Sp : SP h R) (V : RV R) (A : ∀ j : Int, 0 ≤ j → j < nS R → pc j ≤ hfN R → h 325 j = GV R j) (hQ : Q (vi (loN (fsN R) (R 1).toNat)) (HS h hl b)) : WP G δ 0 0 MX4_firstSaid 0 [vr (323), vn] [] (HS h hl b) Q := by
  obtain ⟨k4, k5, k6⟩ := Sp
  have n := V.n
  have nn := nS_e V
  refine ic_0 dX4_firstSaid_0 ?_
  refine is_1 dX4_firstSaid_1 rfl (by decide) ?_
  exact wX4_firstSaid_2 (by omega) ⟨k4, k5, k6⟩ V A _ 0 (Nat.lt_succ_self _) (by omega) (by omega) (fun i a c => by omega) hQ

theorem wX8_game {G : GT} {δ : Nat} {h hl : Nat → Int → Int} {b : Bool × Bool} {Q : V → Hp → Prop} {w : Int} {R : Int → Int} {L : Laws} (hδ : δ ≤ 1640) (C : CT h R L) (z0 : h 324 0 = 0) (hQ : ∀ h' : Nat → Int → Int, eqS h h' → h' 324 0 = 0 → Q (vi (aGame R w)) (HS h' hl b)) : WP G δ 0 0 MX8_game 0 [vr (1), vi w, vn] [] (HS h hl b) Q := by
  obtain ⟨⟨s0, s3, s4, s1, s2, s5⟩, ⟨t0, t1, t5, t6, t7⟩, ⟨g7, g8, g11, g10, g10x⟩⟩ := C.1.f
  have vn' := C.2.1.n
  have vw := C.2.1.w
  refine al_0 dX8_game_0 ?_
  refine c_X8_195 dX8_game_1 rfl tt1 (Nat.le_of_ble_eq_true rfl) (by omega) ?_
  refine wX8_setsNow (by omega) C z0 (fun h1 E1 Sp1 => ?_)
  have C1 := C.sx E1
  have V := C.2.1
  have q1 : h1 3 1 = R 10 := C1.1.f.1.2.2.2.1
  refine pv_r ?_
  refine as_2 dX8_game_4 rfl (by decide) ?_
  refine al_2 dX8_game_5 ?_
  refine al_0 dX8_game_6 ?_
  refine g_X8_12 (2) dX8_game_7 rfl tt1 (rr8_0 tt1) (by omega) ?_
  refine g_X8_112 (3) dX8_game_10 rfl tt2 (rr7_0 tt2) (by omega) ?_
  refine g_X8_170 dX8_game_13 rfl tt3 ?_
  rw [q1]
  refine c_X8_301 dX8_game_16 rfl tt323 (Nat.le_of_ble_eq_true rfl) (by omega) ?_
  refine wX4_playOut (by omega) Sp1 V (fun h2 E2 A2 => ?_)
  have Sp2 := Sp1.g E2
  refine pv_n ?_
  refine il_1 dX8_game_19 ?_
  refine wp_if_eq 30 dX8_game_20 rfl (fun c20 => ?_) (fun c20 => ?_)
  · refine al_2 dX8_game_30 ?_
    refine c_X8_307 dX8_game_31 rfl tt323 (Nat.le_of_ble_eq_true rfl) (by omega) ?_
    refine wX4_worth (by omega) Sp2 V A2 ?_
    refine pv_i ?_
    refine wp_ireti dX8_game_34 rfl ?_
    first
      | exact qv (hQ h2 (fun o ho => by rw [E2 o (by simp; omega), E1 o (by omega)]) (by rw [E2 324 (by decide)]; exact (by rw [Sp1.2.2 0 (by omega) (by have := nS_e V; omega)]; exact tT_0))) (by unfold aGame; rw [if_neg (by omega)])
      | exact qv (hQ h2 (fun o ho => by rw [E2 o (by simp; omega), E1 o (by omega)]) (by rw [E2 324 (by decide)]; exact (by rw [Sp1.2.2 0 (by omega) (by have := nS_e V; omega)]; exact tT_0))) (by unfold aGame; rw [if_pos (by omega)])
  · refine al_2 dX8_game_23 ?_
    refine c_X8_304 dX8_game_24 rfl tt323 (Nat.le_of_ble_eq_true rfl) (by omega) ?_
    refine wX4_firstSaid (by omega) Sp2 V A2 ?_
    refine pv_i ?_
    refine wp_goto 34 dX8_game_27 rfl ?_
    refine wp_ireti dX8_game_34 rfl ?_
    first
      | exact qv (hQ h2 (fun o ho => by rw [E2 o (by simp; omega), E1 o (by omega)]) (by rw [E2 324 (by decide)]; exact (by rw [Sp1.2.2 0 (by omega) (by have := nS_e V; omega)]; exact tT_0))) (by unfold aGame; rw [if_neg (by omega)])
      | exact qv (hQ h2 (fun o ho => by rw [E2 o (by simp; omega), E1 o (by omega)]) (by rw [E2 324 (by decide)]; exact (by rw [Sp1.2.2 0 (by omega) (by have := nS_e V; omega)]; exact tT_0))) (by unfold aGame; rw [if_pos (by omega)])

theorem wX9_isHalf {G : GT} {δ : Nat} {h hl : Nat → Int → Int} {b : Bool × Bool} {Q : V → Hp → Prop} {R : Int → Int} (hδ : δ ≤ 1700) (e1 : h 337 1 = R 1) (n0 : 0 ≤ R 1) (n8 : R 1 ≤ 8) (hQ : Q (vi (hfN R)) (HS h hl b)) : WP G δ 0 0 MX9_isHalf 0 [vr (336)] [] (HS h hl b) Q := by
  refine al_0 dX9_isHalf_0 ?_
  refine g_X9_7 (337) dX9_isHalf_1 rfl tt336 (rr9_0 tt336) (by omega) ?_
  refine ic_1 dX9_isHalf_4 ?_
  refine wp_iaload dX9_isHalf_5 tt337 (by omega) (by omega) ?_
  rw [e1]
  refine ic_1 dX9_isHalf_6 ?_
  refine wp_iadd dX9_isHalf_7 (r32 (by omega) (by omega)) ?_
  refine ic_2 dX9_isHalf_8 ?_
  refine wp_idivN dX9_isHalf_9 (by omega) (by omega) ?_
  refine wp_ireti dX9_isHalf_10 rfl ?_
  exact hQ

theorem wX9_bestOf_35 {G : GT} {δ : Nat} {h hl : Nat → Int → Int} {b : Bool × Bool} {Q : V → Hp → Prop} {s : Int} {R : Int → Int} {L : Laws} (hδ : δ ≤ 1660) (M : MT h R L) (s0 : 0 ≤ s) (s1 : s < nS R) (A : ∀ j : Int, s < j → j < nS R → h 348 j = GV R j) : ∀ (n : Nat) (f : Int) (d : Int) (c5 : Option (Int ⊕ Int ⊕ Nat ⊕ Nat)), ((R 1 - d).toNat) < n → (0 ≤ d) → (d ≤ R 1) → (f = bstN (GV R) s d.toNat) → (Q (vi (bstN (GV R) s (R 1).toNat)) (HS h hl b)) → WP G δ 0 0 MX9_bestOf 35 [vr (336), vi s, vi (pc s), vi f, vi d, c5] [] (HS h hl b) Q := by
  intro n
  induction n with
  | zero => intro f d c5 hlt; exact absurd hlt (Nat.not_lt_zero _)
  | succ n ih =>
    intro f d c5 hlt d0 d1 hb hQ
    have m := M.1
    have V := M.2.1
    have vn' := V.n
    have vw := V.w
    have nn := nS_e V
    have pr := pc_R (x := s)
    refine il_4 dX9_bestOf_35 ?_
    refine al_0 dX9_bestOf_37 ?_
    refine g_X9_7 (337) dX9_bestOf_38 rfl tt336 (rr9_0 tt336) (by omega) ?_
    refine ic_1 dX9_bestOf_41 ?_
    refine wp_iaload dX9_bestOf_42 tt337 (by omega) (by omega) ?_
    first | rw [m2] | rw [m1] | rw [m] | rw [sw_s] | skip
    refine wp_icmp_ge 106 dX9_bestOf_43 rfl (fun c43 => ?_) (fun c43 => ?_)
    · have e : d = R 1 := by omega
      subst e
      refine il_3 dX9_bestOf_106 ?_
      refine wp_ireti dX9_bestOf_107 rfl ?_
      exact qv hQ hb.symm
    · refine il_1 dX9_bestOf_46 ?_
      refine il_4 dX9_bestOf_47 ?_
      refine c_X9_248 dX9_bestOf_49 rfl (Nat.le_of_ble_eq_true rfl) (by omega) ?_
      refine wX9_has (by omega) (by omega) (by omega) (by omega) (by omega) ?_
      refine pv_i ?_
      refine wp_if_eq 58 dX9_bestOf_52 rfl (fun c52 => ?_) (fun c52 => ?_)
      · rw [b2i_0] at c52
        have q : tb s d = false := by simpa using c52
        have mx := more_x V s0 s1 d0 (by omega) q
        refine al_0 dX9_bestOf_58 ?_
        refine g_X9_56 (348) dX9_bestOf_59 rfl tt336 (rr9_28 tt336) (by omega) ?_
        refine il_1 dX9_bestOf_62 ?_
        refine ic_1 dX9_bestOf_63 ?_
        refine il_4 dX9_bestOf_64 ?_
        refine wp_ishl dX9_bestOf_66 ?_
        refine wp_ior dX9_bestOf_67 ?_
        refine wp_iaload dX9_bestOf_68 tt348 (by omega) (by omega) ?_
        rw [A _ mx.2.1 mx.2.2]
        refine is_5 dX9_bestOf_69 rfl (by decide) ?_
        refine il_3 dX9_bestOf_71 ?_
        refine ic_m1 dX9_bestOf_72 ?_
        refine wp_icmp_eq 97 dX9_bestOf_73 rfl (fun c73 => ?_) (fun c73 => ?_)
        · refine il_5 dX9_bestOf_97 ?_
          refine is_3 dX9_bestOf_99 rfl (by decide) ?_
          refine ii_4 dX9_bestOf_100 rfl (by decide) ⟨by decide, by decide⟩ (r32 (by omega) (by omega)) ?_
          refine wp_goto 35 dX9_bestOf_103 rfl ?_
          refine wp_fg (ls' := [_, _, _, _, _, vn]) ⟨Or.inr rfl, Or.inr rfl, Or.inr rfl, Or.inr rfl, Or.inr rfl, Or.inl rfl, trivial⟩ ?_
          refine ih _ (d + 1) _ (by omega) (by omega) (by omega) ?_ hQ
          first
            | exact bstN_t d0 q hb
            | exact bstN_f d0 q hb (by omega)
            | exact bstN_k d0 q hb (by omega)
        · refine il_2 dX9_bestOf_76 ?_
          refine ic_2 dX9_bestOf_77 ?_
          refine wp_iremN dX9_bestOf_78 (by omega) (by omega) ?_
          refine wp_if_ne 91 dX9_bestOf_79 rfl (fun c79 => ?_) (fun c79 => ?_)
          · have hm : ¬ pc s % 2 = 0 := by omega
            refine il_5 dX9_bestOf_91 ?_
            refine il_3 dX9_bestOf_93 ?_
            refine wp_icmp_ge 100 dX9_bestOf_94 rfl (fun c94 => ?_) (fun c94 => ?_)
            · refine ii_4 dX9_bestOf_100 rfl (by decide) ⟨by decide, by decide⟩ (r32 (by omega) (by omega)) ?_
              refine wp_goto 35 dX9_bestOf_103 rfl ?_
              refine wp_fg (ls' := [_, _, _, _, _, vn]) ⟨Or.inr rfl, Or.inr rfl, Or.inr rfl, Or.inr rfl, Or.inr rfl, Or.inl rfl, trivial⟩ ?_
              refine ih _ (d + 1) _ (by omega) (by omega) (by omega) ?_ hQ
              first
                | exact bstN_t d0 q hb
                | exact bstN_f d0 q hb (by omega)
                | exact bstN_k d0 q hb (by omega)
            · refine il_5 dX9_bestOf_97 ?_
              refine is_3 dX9_bestOf_99 rfl (by decide) ?_
              refine ii_4 dX9_bestOf_100 rfl (by decide) ⟨by decide, by decide⟩ (r32 (by omega) (by omega)) ?_
              refine wp_goto 35 dX9_bestOf_103 rfl ?_
              refine wp_fg (ls' := [_, _, _, _, _, vn]) ⟨Or.inr rfl, Or.inr rfl, Or.inr rfl, Or.inr rfl, Or.inr rfl, Or.inl rfl, trivial⟩ ?_
              refine ih _ (d + 1) _ (by omega) (by omega) (by omega) ?_ hQ
              first
                | exact bstN_t d0 q hb
                | exact bstN_f d0 q hb (by omega)
                | exact bstN_k d0 q hb (by omega)
          · have hm : pc s % 2 = 0 := by omega
            refine il_5 dX9_bestOf_82 ?_
            refine il_3 dX9_bestOf_84 ?_
            refine wp_icmp_le 100 dX9_bestOf_85 rfl (fun c85 => ?_) (fun c85 => ?_)
            · refine ii_4 dX9_bestOf_100 rfl (by decide) ⟨by decide, by decide⟩ (r32 (by omega) (by omega)) ?_
              refine wp_goto 35 dX9_bestOf_103 rfl ?_
              refine wp_fg (ls' := [_, _, _, _, _, vn]) ⟨Or.inr rfl, Or.inr rfl, Or.inr rfl, Or.inr rfl, Or.inr rfl, Or.inl rfl, trivial⟩ ?_
              refine ih _ (d + 1) _ (by omega) (by omega) (by omega) ?_ hQ
              first
                | exact bstN_t d0 q hb
                | exact bstN_f d0 q hb (by omega)
                | exact bstN_k d0 q hb (by omega)
            · refine wp_goto 97 dX9_bestOf_88 rfl ?_
              refine il_5 dX9_bestOf_97 ?_
              refine is_3 dX9_bestOf_99 rfl (by decide) ?_
              refine ii_4 dX9_bestOf_100 rfl (by decide) ⟨by decide, by decide⟩ (r32 (by omega) (by omega)) ?_
              refine wp_goto 35 dX9_bestOf_103 rfl ?_
              refine wp_fg (ls' := [_, _, _, _, _, vn]) ⟨Or.inr rfl, Or.inr rfl, Or.inr rfl, Or.inr rfl, Or.inr rfl, Or.inl rfl, trivial⟩ ?_
              refine ih _ (d + 1) _ (by omega) (by omega) (by omega) ?_ hQ
              first
                | exact bstN_t d0 q hb
                | exact bstN_f d0 q hb (by omega)
                | exact bstN_k d0 q hb (by omega)
      · rw [b2i_n0] at c52
        have q : tb s d = true := by simpa using c52
        refine wp_goto 100 dX9_bestOf_55 rfl ?_
        refine ii_4 dX9_bestOf_100 rfl (by decide) ⟨by decide, by decide⟩ (r32 (by omega) (by omega)) ?_
        refine wp_goto 35 dX9_bestOf_103 rfl ?_
        refine ih _ (d + 1) _ (by omega) (by omega) (by omega) ?_ hQ
        first
          | exact bstN_t d0 q hb
          | exact bstN_f d0 q hb (by omega)
          | exact bstN_k d0 q hb (by omega)

theorem wX9_bestOf {G : GT} {δ : Nat} {h hl : Nat → Int → Int} {b : Bool × Bool} {Q : V → Hp → Prop} {s : Int} {R : Int → Int} {L : Laws} (hδ : δ ≤ 1660) (M : MT h R L) (s0 : 0 ≤ s) (s1 : s < nS R) (A : ∀ j : Int, s < j → j < nS R → h 348 j = GV R j) (hQ : Q (vi (GV R s)) (HS h hl b)) : WP G δ 0 0 MX9_bestOf 0 [vr (336), vi s, vn, vn, vn, vn] [] (HS h hl b) Q := by
  have m := M.1
  have V := M.2.1
  have vn' := V.n
  have vw := V.w
  have nn := nS_e V
  have pr := pc_R (x := s)
  have br := brT_R V s
  refine il_1 dX9_bestOf_0 ?_
  refine c_X9_298 dX9_bestOf_1 rfl (Nat.le_of_ble_eq_true rfl) (by omega) ?_
  refine wX9_bits (by omega) s0 (by omega) ?_
  refine pv_i ?_
  refine is_2 dX9_bestOf_4 rfl (by decide) ?_
  refine il_2 dX9_bestOf_5 ?_
  refine al_0 dX9_bestOf_6 ?_
  refine c_X9_415 dX9_bestOf_7 rfl tt336 (Nat.le_of_ble_eq_true rfl) (by omega) ?_
  refine wX9_isHalf (by omega) (by rw [m]) (by omega) (by omega) ?_
  refine pv_i ?_
  refine wp_icmp_lt 30 dX9_bestOf_10 rfl (fun c10 => ?_) (fun c10 => ?_)
  · refine ic_m1 dX9_bestOf_30 ?_
    refine is_3 dX9_bestOf_31 rfl (by decide) ?_
    refine ic_0 dX9_bestOf_32 ?_
    refine is_4 dX9_bestOf_33 rfl (by decide) ?_
    exact wX9_bestOf_35 (by omega) M s0 s1 A _ (-1) 0 _ (Nat.lt_succ_self _) (by omega) (by omega) rfl (qv hQ (GV_s V s0 s1 (by omega)))
  · refine al_0 dX9_bestOf_13 ?_
    refine il_1 dX9_bestOf_14 ?_
    refine c_X9_393 dX9_bestOf_15 rfl tt336 (Nat.le_of_ble_eq_true rfl) (by omega) ?_
    refine wX9_turned (by omega) (by rw [m]; omega) (by rw [m]; omega) (by rw [m]; exact V.di) (by omega) (by omega) ?_
    rw [m, show tuM (fun i => R (29 + i)) _ (R 1).toNat = tT R _ from rfl]
    refine pv_i ?_
    refine al_0 dX9_bestOf_18 ?_
    refine g_X9_7 (337) dX9_bestOf_19 rfl tt336 (rr9_0 tt336) (by omega) ?_
    refine bi_10 dX9_bestOf_22 ?_
    refine wp_iaload dX9_bestOf_24 tt337 (by omega) (by omega) ?_
    first | rw [m2] | rw [m1] | rw [m] | rw [sw_s] | skip
    refine wp_ixor dX9_bestOf_25 ?_
    rw [bxor_comm, show bxor (R 10) (tT R s) = brT R s from rfl]
    refine c_X9_298 dX9_bestOf_26 rfl (Nat.le_of_ble_eq_true rfl) (by omega) ?_
    refine wX9_bits (by omega) br.1 br.2 ?_
    refine pv_i ?_
    refine wp_ireti dX9_bestOf_29 rfl ?_
    exact qv hQ (GV_0 (by omega))

theorem wX9_game_7 {G : GT} {δ : Nat} {hl : Nat → Int → Int} {b : Bool × Bool} {Q : V → Hp → Prop} {w : Int} {h0 : Nat → Int → Int} {R : Int → Int} {L : Laws} (hδ : δ ≤ 1640) (M0 : MT h0 R L) : ∀ (n : Nat) (s : Int) (h : Nat → Int → Int), ((s + 1).toNat) < n → (eqX [348] h0 h) → (-1 ≤ s) → (s < nS R) → (∀ j : Int, s < j → j < nS R → h 348 j = GV R j) → (∀ h' : Nat → Int → Int, eqX [348] h0 h' → (∀ j : Int, 0 ≤ j → j < nS R → h' 348 j = GV R j) → WP G δ 0 0 MX9_game 28 [vr 336, vi w, vn] [] (HS h' hl b) Q) → WP G δ 0 0 MX9_game 7 [vr (336), vi w, vi s] [] (HS h hl b) Q := by
  intro n
  induction n with
  | zero => intro s h hlt; exact absurd hlt (Nat.not_lt_zero _)
  | succ n ih =>
    intro s h hlt E s0 s1 A hQ
    have M := M0.x E (by decide) (by decide)
    have m := M.1
    have V := M.2.1
    have vn' := V.n
    have vw := V.w
    have nn := nS_e V
    refine il_2 dX9_game_7 ?_
    refine wp_if_lt 28 dX9_game_8 rfl (fun c8 => ?_) (fun c8 => ?_)
    · refine wp_fg (ls' := [_, _, vn]) ⟨Or.inr rfl, Or.inr rfl, Or.inl rfl, trivial⟩ ?_
      exact hQ h E (fun j j0 j1 => A j (by omega) j1)
    · refine al_0 dX9_game_11 ?_
      refine g_X9_56 (348) dX9_game_12 rfl tt336 (rr9_28 tt336) (by omega) ?_
      refine il_2 dX9_game_15 ?_
      refine al_0 dX9_game_16 ?_
      refine il_2 dX9_game_17 ?_
      refine c_X9_418 dX9_game_18 rfl tt336 (Nat.le_of_ble_eq_true rfl) (by omega) ?_
      refine wX9_bestOf (by omega) M (by omega) (by omega) A ?_
      refine pv_i ?_
      refine wp_iastore dX9_game_21 tt348 (by omega) (by omega) ?_
      refine ii_2 dX9_game_22 rfl (by decide) ⟨by decide, by decide⟩ (r32 (by omega) (by omega)) ?_
      refine wp_goto 7 dX9_game_25 rfl ?_
      refine ih (s + (-1)) _ (by omega) (E.up (by decide)) (by omega) (by omega) (fun j j0 j1 => ?_) hQ
      by_cases e : j = s
      · rw [e, up_s]
      · rw [up_k e]; exact A j (by omega) j1

theorem wX9_game_41 {G : GT} {δ : Nat} {h hl : Nat → Int → Int} {b : Bool × Bool} {Q : V → Hp → Prop} {w : Int} {R : Int → Int} {L : Laws} (hδ : δ ≤ 1640) (M : MT h R L) (A : ∀ j : Int, 0 ≤ j → j < nS R → h 348 j = GV R j) : ∀ (n : Nat) (d : Int), ((R 1 - d).toNat) < n → (0 ≤ d) → (d ≤ R 1) → (∀ i : Int, 0 ≤ i → i < d → fsN R i = false) → (Q (vi (loN (fsN R) (R 1).toNat)) (HS h hl b)) → WP G δ 0 0 MX9_game 41 [vr (336), vi w, vi d] [] (HS h hl b) Q := by
  intro n
  induction n with
  | zero => intro d hlt; exact absurd hlt (Nat.not_lt_zero _)
  | succ n ih =>
    intro d hlt d0 d1 hm hQ
    have m := M.1
    have V := M.2.1
    have vn' := V.n
    have vw := V.w
    have nn := nS_e V
    have a0 := A 0 (by omega) (by omega)
    refine il_2 dX9_game_41 ?_
    refine al_0 dX9_game_42 ?_
    refine g_X9_7 (337) dX9_game_43 rfl tt336 (rr9_0 tt336) (by omega) ?_
    refine ic_1 dX9_game_46 ?_
    refine wp_iaload dX9_game_47 tt337 (by omega) (by omega) ?_
    first | rw [m2] | rw [m1] | rw [m] | rw [sw_s] | skip
    refine wp_icmp_ge 76 dX9_game_48 rfl (fun c48 => ?_) (fun c48 => ?_)
    · have e : d = R 1 := by omega
      subst e
      refine ic_m1 dX9_game_76 ?_
      refine wp_ireti dX9_game_77 rfl ?_
      exact qv hQ (loN_miss _ (fun i a c => hm i a (by omega)))
    · have sd := tT_1 V d0 (by omega)
      have ad := A _ sd.2.1 sd.2.2
      refine al_0 dX9_game_51 ?_
      refine g_X9_56 (348) dX9_game_52 rfl tt336 (rr9_28 tt336) (by omega) ?_
      refine ic_1 dX9_game_55 ?_
      refine il_2 dX9_game_56 ?_
      refine wp_ishl dX9_game_57 ?_
      refine wp_iaload dX9_game_58 tt348 (by omega) (by omega) ?_
      rw [ad]
      refine al_0 dX9_game_59 ?_
      refine g_X9_56 (348) dX9_game_60 rfl tt336 (rr9_28 tt336) (by omega) ?_
      refine ic_0 dX9_game_63 ?_
      refine wp_iaload dX9_game_64 tt348 (by omega) (by omega) ?_
      rw [a0]
      refine wp_icmp_ne 70 dX9_game_65 rfl (fun c65 => ?_) (fun c65 => ?_)
      · refine ii_2 dX9_game_70 rfl (by decide) ⟨by decide, by decide⟩ (r32 (by omega) (by omega)) ?_
        refine wp_goto 41 dX9_game_73 rfl ?_
        refine ih (d + 1) (by omega) (by omega) (by omega) (fun i i0 i1 => ?_) hQ
        by_cases e : i = d
        · subst e; unfold fsN; simpa using c65
        · exact hm i i0 (by omega)
      · refine il_2 dX9_game_68 ?_
        refine wp_ireti dX9_game_69 rfl ?_
        obtain ⟨k, ek⟩ := Int.eq_ofNat_of_zero_le d0
        exact qv hQ (by rw [loN_hit (s := k) (by rw [← ek]; unfold fsN; rw [c65]; exact beq_self_eq_true _) (fun i a c => hm i a (by omega)) _ (by omega), ek])

theorem wX9_game {G : GT} {δ : Nat} {h hl : Nat → Int → Int} {b : Bool × Bool} {Q : V → Hp → Prop} {w : Int} {R : Int → Int} {L : Laws} (hδ : δ ≤ 1640) (M : MT h R L)  (hQ : ∀ h' : Nat → Int → Int, eqX [348] h h' → Q (vi (aGame R w)) (HS h' hl b)) : WP G δ 0 0 MX9_game 0 [vr (336), vi w, vn] [] (HS h hl b) Q := by
  have m := M.1
  have V := M.2.1
  have vn' := V.n
  have vw := V.w
  have nn := nS_e V
  refine al_0 dX9_game_0 ?_
  refine c_X9_402 dX9_game_1 rfl tt336 (Nat.le_of_ble_eq_true rfl) (by omega) ?_
  refine wX9_sets (by omega) ?_
  rw [m, show shl 1 (R 1) = nS R from rfl]
  refine pv_i ?_
  refine ic_1 dX9_game_4 ?_
  refine wp_isub dX9_game_5 (r32 (by omega) (by omega)) ?_
  refine is_2 dX9_game_6 rfl (by decide) ?_
  refine wX9_game_7 (by omega) M _ _ h (Nat.lt_succ_self _) eqX.rf (by omega) (by omega) (fun j j0 j1 => by omega) (fun h1 E1 A1 => ?_)
  have M1 := M.x E1 (by decide) (by decide)
  refine il_1 dX9_game_28 ?_
  refine wp_if_ne 39 dX9_game_29 rfl (fun c29 => ?_) (fun c29 => ?_)
  · refine ic_0 dX9_game_39 ?_
    refine is_2 dX9_game_40 rfl (by decide) ?_
    exact wX9_game_41 (by omega) M1 A1 _ 0 (Nat.lt_succ_self _) (by omega) (by omega) (fun i a c => by omega) (qv (hQ h1 E1) (by unfold aGame; rw [if_neg (by omega)]))
  · refine al_0 dX9_game_32 ?_
    refine g_X9_56 (348) dX9_game_33 rfl tt336 (rr9_28 tt336) (by omega) ?_
    refine ic_0 dX9_game_36 ?_
    refine wp_iaload dX9_game_37 tt348 (by omega) (by omega) ?_
    rw [A1 0 (by omega) (by omega)]
    refine wp_ireti dX9_game_38 rfl ?_
    exact qv (hQ h1 E1) (by unfold aGame; rw [if_pos (by omega)])
