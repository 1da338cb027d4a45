theorem wX4_pathsInto_4 {G : GT} {δ : Nat} {h hl : Nat → Int → Int} {b : Bool × Bool} {Q : V → Hp → Prop} {s : Int} {k : Nat} {R : Int → Int} (hδ : δ ≤ 1700) (Sp : SP h R) (V : RV R) (s0 : 0 ≤ s) (s1 : s < nS R) (hk : k < 6) (A : ∀ j : Int, 0 ≤ j → j < nS R → h (PO b) j = wlk R k j) : ∀ (n : Nat) (w : Int) (d : Int), ((R 1 - d).toNat) < n → (0 ≤ d) → (d ≤ R 1) → (w = sumN (fun d => wlk R k (bxor s (shl 1 d))) d.toNat) → (Q (vi (wlk R (k + 1) s)) (HS h hl b)) → WP G δ 0 0 MX4_pathsInto 4 [vr (323), vi s, vi w, vi d] [] (HS h hl b) Q := by
  intro n
  induction n with
  | zero => intro w d hlt; exact absurd hlt (Nat.not_lt_zero _)
  | succ n ih =>
    intro w d hlt d0 d1 hw hQ
    obtain ⟨k4, k5, k6⟩ := Sp
    have n := V.n
    have nn := nS_e V
    have pk := p8_S k hk
    have wr := sumN_R (f := fun d => wlk R k (bxor s (shl 1 d))) (c := 32768) d.toNat (fun i _ _ => by have := wlk_R V k (bxor s (shl 1 i)); exact ⟨this.1, by omega⟩)
    rw [← hw] at wr
    refine il_3 dX4_pathsInto_4 ?_
    refine al_0 dX4_pathsInto_5 ?_
    refine g_X4_39 dX4_pathsInto_6 rfl tt323 ?_
    rw [k4]
    refine wp_icmp_ge 31 dX4_pathsInto_9 rfl (fun c9 => ?_) (fun c9 => ?_)
    · have e : d = R 1 := by omega
      refine il_2 dX4_pathsInto_31 ?_
      refine wp_ireti dX4_pathsInto_32 rfl ?_
      exact qv hQ (by rw [hw, e]; rfl)
    · have sd := tT_1 V d0 (by omega)
      have sx := nS_x V s0 s1 sd.2.1 sd.2.2
      have wk := wlk_R V k (bxor s (shl 1 d))
      refine il_2 dX4_pathsInto_12 ?_
      refine al_0 dX4_pathsInto_13 ?_
      refine g_X4_18 (PO b) dX4_pathsInto_14 rfl tt323 (rrPO b) (PO_0 b) ?_
      refine il_1 dX4_pathsInto_17 ?_
      refine ic_1 dX4_pathsInto_18 ?_
      refine il_3 dX4_pathsInto_19 ?_
      refine wp_ishl dX4_pathsInto_20 ?_
      refine wp_ixor dX4_pathsInto_21 ?_
      refine wp_iaload dX4_pathsInto_22 (tyPO b) (by omega) (by omega) ?_
      rw [A _ sx.1 sx.2]
      refine wp_iadd dX4_pathsInto_23 (r32 (by omega) (by omega)) ?_
      refine is_2 dX4_pathsInto_24 rfl (by decide) ?_
      refine ii_3 dX4_pathsInto_25 rfl (by decide) ⟨by decide, by decide⟩ (r32 (by omega) (by omega)) ?_
      refine wp_goto 4 dX4_pathsInto_28 rfl ?_
      exact ih _ (d + 1) (by omega) (by omega) (by omega) (by rw [sumN_s d0, ← hw]) hQ

theorem wX4_pathsInto {G : GT} {δ : Nat} {h hl : Nat → Int → Int} {b : Bool × Bool} {Q : V → Hp → Prop} {s : Int} {R : Int → Int} (hδ : δ ≤ 1700) (Sp : SP h R) (V : RV R) {k : Nat} (s0 : 0 ≤ s) (s1 : s < nS R) (hk : k < 6) (A : ∀ j : Int, 0 ≤ j → j < nS R → h (PO b) j = wlk R k j) (hQ : Q (vi (wlk R (k + 1) s)) (HS h hl b)) : WP G δ 0 0 MX4_pathsInto 0 [vr (323), vi s, vn, vn] [] (HS h hl b) Q := by
  obtain ⟨k4, k5, k6⟩ := Sp
  have n := V.n
  have nn := nS_e V
  refine ic_0 dX4_pathsInto_0 ?_
  refine is_2 dX4_pathsInto_1 rfl (by decide) ?_
  refine ic_0 dX4_pathsInto_2 ?_
  refine is_3 dX4_pathsInto_3 rfl (by decide) ?_
  exact wX4_pathsInto_4 (by omega) ⟨k4, k5, k6⟩ V s0 s1 hk A _ 0 0 (Nat.lt_succ_self _) (by omega) (by omega) rfl hQ

theorem wX4_walk_2 {G : GT} {δ : Nat} {hl : Nat → Int → Int} {b : Bool × Bool} {Q : V → Hp → Prop} {m : Int} {R : Int → Int} {h0 : Nat → Int → Int} (hδ : δ ≤ 1680) (Sp0 : SP h0 R) (V : RV R)  : ∀ (n : Nat) (s : Int) (h : Nat → Int → Int) (c3 : Option (Int ⊕ Int ⊕ Nat ⊕ Nat)), ((nS R - s).toNat) < n → (eqX [326, 327] h0 h) → (0 ≤ s) → (s ≤ nS R) → (∀ j : Int, 0 ≤ j → j < s → h (PO b) j = 0) → (∀ h' : Nat → Int → Int, eqX [326, 327] h0 h' → (∀ j : Int, 0 ≤ j → j < nS R → h' (PO b) j = wlk R 0 j) → WP G δ 0 0 MX4_walk 32 [vr 323, vi m, vi 0, c3] [] (HS h' hl b) Q) → WP G δ 0 0 MX4_walk 2 [vr (323), vi m, vi s, c3] [] (HS h hl b) Q := by
  intro n
  induction n with
  | zero => intro s h c3 hlt; exact absurd hlt (Nat.not_lt_zero _)
  | succ n ih =>
    intro s h c3 hlt E s0 s1 A hQ
    have Sp := Sp0.x E
    obtain ⟨k4, k5, k6⟩ := Sp
    have n := V.n
    have nn := nS_e V
    refine il_2 dX4_walk_2 ?_
    refine al_0 dX4_walk_3 ?_
    refine g_X4_24 dX4_walk_4 rfl tt323 ?_
    rw [k5]
    refine wp_icmp_ge 23 dX4_walk_7 rfl (fun c7 => ?_) (fun c7 => ?_)
    · have e : s = nS R := by omega
      refine al_0 dX4_walk_23 ?_
      refine g_X4_18 (PO b) dX4_walk_24 rfl tt323 (rrPO b) (PO_0 b) ?_
      refine ic_0 dX4_walk_27 ?_
      refine ic_1 dX4_walk_28 ?_
      refine wp_iastore dX4_walk_29 (tyPO b) (by omega) (by omega) ?_
      refine ic_0 dX4_walk_30 ?_
      refine is_2 dX4_walk_31 rfl (by decide) ?_
      refine hQ _ (E.up (PO_m b)) (fun j j0 j1 => ?_)
      by_cases z : j = 0
      · subst z; rw [up_s]; rfl
      · rw [up_k z, A j j0 (by omega)]; exact (if_neg z).symm
    · refine al_0 dX4_walk_10 ?_
      refine g_X4_18 (PO b) dX4_walk_11 rfl tt323 (rrPO b) (PO_0 b) ?_
      refine il_2 dX4_walk_14 ?_
      refine ic_0 dX4_walk_15 ?_
      refine wp_iastore dX4_walk_16 (tyPO b) (by omega) (by omega) ?_
      refine ii_2 dX4_walk_17 rfl (by decide) ⟨by decide, by decide⟩ (r32 (by omega) (by omega)) ?_
      refine wp_goto 2 dX4_walk_20 rfl ?_
      refine ih (s + 1) _ _ (by omega) (E.up (PO_m b)) (by omega) (by omega) (fun j j0 j1 => ?_) hQ
      by_cases e : j = s
      · rw [e, up_s]
      · rw [up_k e]; exact A j j0 (by omega)

theorem wX4_walk_46 {G : GT} {δ : Nat} {hl : Nat → Int → Int} {b : Bool × Bool} {Q : V → Hp → Prop} {m kk : Int} {k : Nat} {R : Int → Int} {h0 : Nat → Int → Int} (hδ : δ ≤ 1680) (Sp0 : SP h0 R) (V : RV R) (hk : k < 6) : ∀ (n : Nat) (s : Int) (h : Nat → Int → Int), ((nS R - s).toNat) < n → (eqX [326, 327] h0 h) → (0 ≤ s) → (s ≤ nS R) → (∀ j : Int, 0 ≤ j → j < nS R → h (PO b) j = wlk R k j) → (∀ j : Int, 0 ≤ j → j < s → h (NO b) j = wlk R (k + 1) j) → (∀ h' : Nat → Int → Int, eqX [326, 327] h0 h' → (∀ j : Int, 0 ≤ j → j < nS R → h' (NO b) j = wlk R (k + 1) j) → WP G δ 0 0 MX4_walk 71 [vr 323, vi m, vi kk, vn] [] (HS h' hl b) Q) → WP G δ 0 0 MX4_walk 46 [vr (323), vi m, vi kk, vi s] [] (HS h hl b) Q := by
  intro n
  induction n with
  | zero => intro s h hlt; exact absurd hlt (Nat.not_lt_zero _)
  | succ n ih =>
    intro s h hlt E s0 s1 A B hQ
    have Sp := Sp0.x E
    obtain ⟨k4, k5, k6⟩ := Sp
    have n := V.n
    have nn := nS_e V
    refine il_3 dX4_walk_46 ?_
    refine al_0 dX4_walk_47 ?_
    refine g_X4_24 dX4_walk_48 rfl tt323 ?_
    rw [k5]
    refine wp_icmp_ge 71 dX4_walk_51 rfl (fun c51 => ?_) (fun c51 => ?_)
    · have e : s = nS R := by omega
      subst e
      refine wp_fg (ls' := [_, _, _, vn]) ⟨Or.inr rfl, Or.inr rfl, Or.inr rfl, Or.inl rfl, trivial⟩ ?_
      exact hQ h E B
    · refine al_0 dX4_walk_54 ?_
      refine g_X4_21 (NO b) dX4_walk_55 rfl tt323 (rrNO b) (NO_0 b) ?_
      refine il_3 dX4_walk_58 ?_
      refine al_0 dX4_walk_59 ?_
      refine il_3 dX4_walk_60 ?_
      refine c_X4_65 dX4_walk_61 rfl tt323 (Nat.le_of_ble_eq_true rfl) (by omega) ?_
      refine wX4_pathsInto (by omega) ⟨k4, k5, k6⟩ V s0 (by omega) hk A ?_
      refine pv_i ?_
      refine wp_iastore dX4_walk_64 (tyNO b) (by omega) (by omega) ?_
      refine ii_3 dX4_walk_65 rfl (by decide) ⟨by decide, by decide⟩ (r32 (by omega) (by omega)) ?_
      refine wp_goto 46 dX4_walk_68 rfl ?_
      refine ih (s + 1) _ (by omega) (E.up (NO_m b)) (by omega) (by omega) (fun j j0 j1 => ?_) (fun j j0 j1 => ?_) hQ
      · rw [up_o (PN b)]; exact A j j0 j1
      · by_cases e : j = s
        · rw [e, up_s]
        · rw [up_k e]; exact B j j0 (by omega)

theorem wX4_walk_32 {G : GT} {δ : Nat} {hl : Nat → Int → Int} {Q : V → Hp → Prop} {m : Int} {R : Int → Int} {h0 : Nat → Int → Int} (hδ : δ ≤ 1680) (Sp0 : SP h0 R) (V : RV R) (m6 : m ≤ 6) : ∀ (n : Nat) (k : Nat) (h : Nat → Int → Int) (c3 : Option (Int ⊕ Int ⊕ Nat ⊕ Nat)) (b : Bool × Bool), ((m.toNat - k)) < n → (eqX [326, 327] h0 h) → ((k : Int) ≤ m) → (k = 0 ∨ 0 < R 1) → (∀ j : Int, 0 ≤ j → j < nS R → h (PO b) j = wlk R k j) → (∀ h' : Nat → Int → Int, ∀ b' : Bool × Bool, eqX [326, 327] h0 h' → (∀ j : Int, 0 ≤ j → j < nS R → h' (PO b') j = wlk R (kE R m) j) → Q vn (HS h' hl b')) → WP G δ 0 0 MX4_walk 32 [vr (323), vi m, vi k, c3] [] (HS h hl b) Q := by
  intro n
  induction n with
  | zero => intro k h c3 b hlt; exact absurd hlt (Nat.not_lt_zero _)
  | succ n ih =>
    intro k h c3 b hlt E k1 kz A hQ
    have Sp := Sp0.x E
    obtain ⟨k4, k5, k6⟩ := Sp
    have n := V.n
    have nn := nS_e V
    refine il_2 dX4_walk_32 ?_
    refine il_1 dX4_walk_33 ?_
    refine wp_icmp_ge 95 dX4_walk_34 rfl (fun c34 => ?_) (fun c34 => ?_)
    · have e : kE R m = k := by unfold kE; split <;> omega
      refine wp_vret dX4_walk_95 rfl ?_
      rw [e] at hQ
      exact hQ h b E A
    · refine al_0 dX4_walk_37 ?_
      refine g_X4_39 dX4_walk_38 rfl tt323 ?_
      rw [k4]
      refine wp_if_le 95 dX4_walk_41 rfl (fun c41 => ?_) (fun c41 => ?_)
      · have e : kE R m = k := by unfold kE; rw [if_neg (by omega)]; omega
        refine wp_vret dX4_walk_95 rfl ?_
        rw [e] at hQ
        exact hQ h b E A
      · refine ic_0 dX4_walk_44 ?_
        refine is_3 dX4_walk_45 rfl (by decide) ?_
        refine wX4_walk_46 (by omega) (Sp0.x E) V (by omega) _ 0 h (Nat.lt_succ_self _) eqX.rf (by omega) (by omega) A (fun j j0 j1 => by omega) (fun h1 E1 A1 => ?_)
        refine al_0 dX4_walk_71 ?_
        refine g_X4_18 (PO b) dX4_walk_72 rfl tt323 (rrPO b) (PO_0 b) ?_
        refine as_3 dX4_walk_75 rfl (by decide) ?_
        refine al_0 dX4_walk_76 ?_
        refine al_0 dX4_walk_77 ?_
        refine g_X4_21 (NO b) dX4_walk_78 rfl tt323 (rrNO b) (NO_0 b) ?_
        refine p_X4_18 dX4_walk_81 rfl tt323 (NO_0 b) ?_
        refine al_0 dX4_walk_84 ?_
        refine al_3 dX4_walk_85 ?_
        refine p_X4_21 dX4_walk_86 rfl tt323 (PO_0 b) ?_
        refine ii_2 dX4_walk_89 rfl (by decide) ⟨by decide, by decide⟩ (r32 (by omega) (by omega)) ?_
        refine wp_goto 32 dX4_walk_92 rfl ?_
        show WP G δ 0 0 MX4_walk 32 _ [] (TT, h1, hl, up (up (RR b) 323 2 (NO b)) 323 3 (PO b)) Q
        rw [swapP]
        refine ih (k + 1) h1 _ (!b.1, b.2) (by omega) (E.tr E1) (by omega) (Or.inr (by omega)) (fun j j0 j1 => ?_) hQ
        rw [PO_sw]; exact A1 j j0 j1

theorem wX4_walk {G : GT} {δ : Nat} {h hl : Nat → Int → Int} {b : Bool × Bool} {Q : V → Hp → Prop} {m : Int} {R : Int → Int} (hδ : δ ≤ 1680) (Sp : SP h R) (V : RV R) (m0 : 0 ≤ m) (m6 : m ≤ 6) (hQ : ∀ h' : Nat → Int → Int, ∀ b' : Bool × Bool, eqX [326, 327] h h' → (∀ j : Int, 0 ≤ j → j < nS R → h' (PO b') j = wlk R (kE R m) j) → Q vn (HS h' hl b')) : WP G δ 0 0 MX4_walk 0 [vr (323), vi m, vn, vn] [] (HS h hl b) Q := by
  obtain ⟨k4, k5, k6⟩ := Sp
  have n := V.n
  have nn := nS_e V
  refine ic_0 dX4_walk_0 ?_
  refine is_2 dX4_walk_1 rfl (by decide) ?_
  refine wX4_walk_2 (by omega) ⟨k4, k5, k6⟩ V _ 0 h _ (Nat.lt_succ_self _) eqX.rf (by omega) (by omega) (fun j j0 j1 => by omega) (fun h1 E1 A1 => ?_)
  exact wX4_walk_32 (by omega) ⟨k4, k5, k6⟩ V m6 _ 0 h1 _ b (Nat.lt_succ_self _) E1 (by omega) (Or.inl rfl) A1 hQ

theorem wX4_walks {G : GT} {δ : Nat} {h hl : Nat → Int → Int} {b : Bool × Bool} {Q : V → Hp → Prop} {m : Int} {R : Int → Int} (hδ : δ ≤ 1680) (Sp : SP h R) (V : RV R) (m0 : 0 ≤ m) (m6 : m ≤ 6) (hQ : Q (vl (totW R m)) (HS h hl b)) : WP G δ 0 0 MX4_walks 0 [vr (323), vi m] [] (HS h hl b) Q := by
  obtain ⟨k4, k5, k6⟩ := Sp
  have n := V.n
  have nn := nS_e V
  refine al_0 dX4_walks_0 ?_
  refine g_X4_39 dX4_walks_1 rfl tt323 ?_
  rw [k4]
  refine wp_if_le 19 dX4_walks_4 rfl (fun c4 => ?_) (fun c4 => ?_)
  · refine lc_1 dX4_walks_19 ?_
    refine wp_lret dX4_walks_20 rfl ?_
    refine qvl hQ ?_
    unfold totW kE
    first | (rw [if_pos (by omega)]; done) | (rw [if_neg (by omega)]; rfl)
  · refine al_0 dX4_walks_7 ?_
    refine g_X4_39 dX4_walks_8 rfl tt323 ?_
    rw [k4]
    refine wp_i2l dX4_walks_11 ?_
    refine il_1 dX4_walks_12 ?_
    refine c_X4_68 dX4_walks_13 rfl (Nat.le_of_ble_eq_true rfl) (by omega) ?_
    refine wX8_power (by omega) (by omega) (by omega) (by omega) (by omega) ?_
    refine pv_l ?_
    refine wp_goto 20 dX4_walks_16 rfl ?_
    refine wp_lret dX4_walks_20 rfl ?_
    refine qvl hQ ?_
    unfold totW kE
    first | (rw [if_pos (by omega)]; done) | (rw [if_neg (by omega)]; rfl)

theorem wX4_litWalks_5 {G : GT} {δ : Nat} {h hl : Nat → Int → Int} {b : Bool × Bool} {Q : V → Hp → Prop} {x : Int} {k : Nat} {R : Int → Int} (hδ : δ ≤ 1680) (Sp : SP h R) (V : RV R) (hk : k < 7) (hx : ∀ s : Int, 0 ≤ band (brT R s) x ∧ band (brT R s) x < 1024) (A : ∀ j : Int, 0 ≤ j → j < nS R → h (PO b) j = wlk R k j) : ∀ (n : Nat) (t : Int) (s : Int), ((nS R - s).toNat) < n → (0 ≤ s) → (s ≤ nS R) → (t = sumN (fun s => wlk R k s * pc (band (brT R s) x)) s.toNat) → (Q (vl (litC R k x)) (HS h hl b)) → WP G δ 0 0 MX4_litWalks 5 [vr (323), vi (R 10), vi x, vl t, vn, vi s] [] (HS h hl b) Q := by
  intro n
  induction n with
  | zero => intro t s hlt; exact absurd hlt (Nat.not_lt_zero _)
  | succ n ih =>
    intro t s hlt s0 s1 ht hQ
    obtain ⟨k4, k5, k6⟩ := Sp
    have n := V.n
    have nn := nS_e V
    have pk := p8_R k hk
    have xs := hx s
    have tr := sumN_R (f := fun s => wlk R k s * pc (band (brT R s) x)) (c := 2621440) s.toNat (fun i _ _ => by
      have w := wlk_R V k i
      have c := pc_R (x := band (brT R i) x)
      exact mulR (A := 262144) (B := 10) w.1 (by omega) c.1 c.2)
    rw [← ht] at tr
    have wk := wlk_R V k s
    have cr := pc_R (x := band (brT R s) x)
    have pr := mulR (A := 262144) (B := 10) wk.1 (by omega) cr.1 cr.2
    refine il_5 dX4_litWalks_5 ?_
    refine al_0 dX4_litWalks_7 ?_
    refine g_X4_24 dX4_litWalks_8 rfl tt323 ?_
    rw [k5]
    refine wp_icmp_ge 47 dX4_litWalks_11 rfl (fun c11 => ?_) (fun c11 => ?_)
    · have e : s = nS R := by omega
      refine ll_3 dX4_litWalks_47 ?_
      refine wp_lret dX4_litWalks_48 rfl ?_
      exact qvl hQ (by rw [ht, e]; rfl)
    · refine ll_3 dX4_litWalks_14 ?_
      refine al_0 dX4_litWalks_15 ?_
      refine g_X4_18 (PO b) dX4_litWalks_16 rfl tt323 (rrPO b) (PO_0 b) ?_
      refine il_5 dX4_litWalks_19 ?_
      refine wp_iaload dX4_litWalks_21 (tyPO b) (by omega) (by omega) ?_
      rw [A s s0 (by omega)]
      refine wp_i2l dX4_litWalks_22 ?_
      refine il_1 dX4_litWalks_23 ?_
      refine al_0 dX4_litWalks_24 ?_
      refine g_X4_9 (324) dX4_litWalks_25 rfl tt323 (rr4_0 tt323) (by omega) ?_
      refine il_5 dX4_litWalks_28 ?_
      refine wp_iaload dX4_litWalks_30 tt324 (by omega) (by omega) ?_
      rw [k6 s s0 (by omega)]
      refine wp_ixor dX4_litWalks_31 ?_
      refine il_2 dX4_litWalks_32 ?_
      rw [show bxor (R 10) (tT R s) = brT R s from rfl]
      refine wp_iand dX4_litWalks_33 ?_
      refine c_X4_53 dX4_litWalks_34 rfl (Nat.le_of_ble_eq_true rfl) (by omega) ?_
      refine wJ6_bitCount xs.1 xs.2 ?_
      refine pv_i ?_
      refine wp_i2l dX4_litWalks_37 ?_
      refine wp_lmul dX4_litWalks_38 (r64 (by omega) (by omega)) ?_
      refine wp_ladd dX4_litWalks_39 (r64 (by omega) (by omega)) ?_
      refine ls_3 dX4_litWalks_40 rfl (by decide) ?_
      refine ii_5 dX4_litWalks_41 rfl (by decide) ⟨by decide, by decide⟩ (r32 (by omega) (by omega)) ?_
      refine wp_goto 5 dX4_litWalks_44 rfl ?_
      exact ih _ (s + 1) (by omega) (by omega) (by omega) (by rw [sumN_s s0, ← ht]) hQ

theorem wX4_litWalks {G : GT} {δ : Nat} {h hl : Nat → Int → Int} {b : Bool × Bool} {Q : V → Hp → Prop} {x : Int} {R : Int → Int} (hδ : δ ≤ 1680) (Sp : SP h R) (V : RV R) {k : Nat} (hk : k < 7) (hx : ∀ s : Int, 0 ≤ band (brT R s) x ∧ band (brT R s) x < 1024) (A : ∀ j : Int, 0 ≤ j → j < nS R → h (PO b) j = wlk R k j) (hQ : Q (vl (litC R k x)) (HS h hl b)) : WP G δ 0 0 MX4_litWalks 0 [vr (323), vi (R 10), vi x, vn, vn, vn] [] (HS h hl b) Q := by
  obtain ⟨k4, k5, k6⟩ := Sp
  have n := V.n
  have nn := nS_e V
  refine lc_0 dX4_litWalks_0 ?_
  refine ls_3 dX4_litWalks_1 rfl (by decide) ?_
  refine ic_0 dX4_litWalks_2 ?_
  refine is_5 dX4_litWalks_3 rfl (by decide) ?_
  exact wX4_litWalks_5 (by omega) ⟨k4, k5, k6⟩ V hk hx A _ 0 0 (Nat.lt_succ_self _) (by omega) (by omega) rfl hQ

theorem wX4_darkWalks_5 {G : GT} {δ : Nat} {h hl : Nat → Int → Int} {b : Bool × Bool} {Q : V → Hp → Prop} {k : Nat} {R : Int → Int} (hδ : δ ≤ 1700) (Sp : SP h R) (V : RV R) (hk : k < 7) (A : ∀ j : Int, 0 ≤ j → j < nS R → h (PO b) j = wlk R k j) : ∀ (n : Nat) (t : Int) (s : Int), ((nS R - s).toNat) < n → (0 ≤ s) → (s ≤ nS R) → (t = sumN (fun s => if tT R s = R 10 then wlk R k s else 0) s.toNat) → (Q (vl (darkC R k)) (HS h hl b)) → WP G δ 0 0 MX4_darkWalks 5 [vr (323), vi (R 10), vl t, vn, vi s] [] (HS h hl b) Q := by
  intro n
  induction n with
  | zero => intro t s hlt; exact absurd hlt (Nat.not_lt_zero _)
  | succ n ih =>
    intro t s hlt s0 s1 ht hQ
    obtain ⟨k4, k5, k6⟩ := Sp
    have n := V.n
    have nn := nS_e V
    have pk := p8_R k hk
    have tr := sumN_R (f := fun s => if tT R s = R 10 then wlk R k s else 0) (c := 262144) s.toNat (fun i _ _ => by
      have w := wlk_R V k i
      split <;> omega)
    rw [← ht] at tr
    have wk := wlk_R V k s
    refine il_4 dX4_darkWalks_5 ?_
    refine al_0 dX4_darkWalks_7 ?_
    refine g_X4_24 dX4_darkWalks_8 rfl tt323 ?_
    rw [k5]
    refine wp_icmp_ge 42 dX4_darkWalks_11 rfl (fun c11 => ?_) (fun c11 => ?_)
    · have e : s = nS R := by omega
      refine ll_2 dX4_darkWalks_42 ?_
      refine wp_lret dX4_darkWalks_43 rfl ?_
      exact qvl hQ (by rw [ht, e]; rfl)
    · refine al_0 dX4_darkWalks_14 ?_
      refine g_X4_9 (324) dX4_darkWalks_15 rfl tt323 (rr4_0 tt323) (by omega) ?_
      refine il_4 dX4_darkWalks_18 ?_
      refine wp_iaload dX4_darkWalks_20 tt324 (by omega) (by omega) ?_
      rw [k6 s s0 (by omega)]
      refine il_1 dX4_darkWalks_21 ?_
      refine wp_icmp_ne 36 dX4_darkWalks_22 rfl (fun c22 => ?_) (fun c22 => ?_)
      · refine ii_4 dX4_darkWalks_36 rfl (by decide) ⟨by decide, by decide⟩ (r32 (by omega) (by omega)) ?_
        refine wp_goto 5 dX4_darkWalks_39 rfl ?_
        refine ih _ (s + 1) (by omega) (by omega) (by omega) ?_ hQ
        rw [sumN_s s0, ← ht]
        first | rw [if_pos c22] | (rw [if_neg c22]; omega)
      · refine ll_2 dX4_darkWalks_25 ?_
        refine al_0 dX4_darkWalks_26 ?_
        refine g_X4_18 (PO b) dX4_darkWalks_27 rfl tt323 (rrPO b) (PO_0 b) ?_
        refine il_4 dX4_darkWalks_30 ?_
        refine wp_iaload dX4_darkWalks_32 (tyPO b) (by omega) (by omega) ?_
        rw [A s s0 (by omega)]
        refine wp_i2l dX4_darkWalks_33 ?_
        refine wp_ladd dX4_darkWalks_34 (r64 (by omega) (by omega)) ?_
        refine ls_2 dX4_darkWalks_35 rfl (by decide) ?_
        refine ii_4 dX4_darkWalks_36 rfl (by decide) ⟨by decide, by decide⟩ (r32 (by omega) (by omega)) ?_
        refine wp_goto 5 dX4_darkWalks_39 rfl ?_
        refine ih _ (s + 1) (by omega) (by omega) (by omega) ?_ hQ
        rw [sumN_s s0, ← ht]
        first | rw [if_pos c22] | (rw [if_neg c22]; omega)

theorem wX4_darkWalks {G : GT} {δ : Nat} {h hl : Nat → Int → Int} {b : Bool × Bool} {Q : V → Hp → Prop} {R : Int → Int} (hδ : δ ≤ 1700) (Sp : SP h R) (V : RV R) {k : Nat} (hk : k < 7) (A : ∀ j : Int, 0 ≤ j → j < nS R → h (PO b) j = wlk R k j) (hQ : Q (vl (darkC R k)) (HS h hl b)) : WP G δ 0 0 MX4_darkWalks 0 [vr (323), vi (R 10), vn, vn, vn] [] (HS h hl b) Q := by
  obtain ⟨k4, k5, k6⟩ := Sp
  have n := V.n
  have nn := nS_e V
  refine lc_0 dX4_darkWalks_0 ?_
  refine ls_2 dX4_darkWalks_1 rfl (by decide) ?_
  refine ic_0 dX4_darkWalks_2 ?_
  refine is_4 dX4_darkWalks_3 rfl (by decide) ?_
  exact wX4_darkWalks_5 (by omega) ⟨k4, k5, k6⟩ V hk A _ 0 0 (Nat.lt_succ_self _) (by omega) (by omega) rfl hQ

theorem wX8_walked {G : GT} {δ : Nat} {h hl : Nat → Int → Int} {b : Bool × Bool} {Q : V → Hp → Prop} {m : Int} {R : Int → Int} {L : Laws} (hδ : δ ≤ 1660) (C : CT h R L) (z0 : h 324 0 = 0) (m0 : 0 ≤ m) (m6 : m ≤ 6) (hQ : ∀ h' : Nat → Int → Int, ∀ b' : Bool × Bool, eqS h h' → SP h' R → (∀ j : Int, 0 ≤ j → j < nS R → h' (PO b') j = wlk R (kE R m) j) → Q (vr 323) (HS h' hl b')) : WP G δ 0 0 MX8_walked 0 [vr (1), vi m] [] (HS h hl b) Q := by
  obtain ⟨⟨s0, s3, s4, s1, s2, s5⟩, ⟨t0, t1, t5, t6, t7⟩, ⟨g7, g8, g11, g10, g10x⟩⟩ := C.1.f
  have vn' := C.2.1.n
  have vw := C.2.1.w
  refine al_0 dX8_walked_0 ?_
  refine g_X8_29 (323) dX8_walked_1 rfl tt1 (rr8_3 tt1) (by omega) ?_
  refine al_0 dX8_walked_4 ?_
  refine g_X8_12 (2) dX8_walked_5 rfl tt1 (rr8_0 tt1) (by omega) ?_
  refine g_X8_167 (9) dX8_walked_8 rfl tt2 (rr7_2 tt2) (by omega) ?_
  refine c_X8_345 dX8_walked_11 rfl tt323 (Nat.le_of_ble_eq_true rfl) (by omega) ?_
  refine wX4_takeFrom (by omega) C z0 (fun h1 E1 Sp1 => ?_)
  have V := C.2.1
  refine pv_n ?_
  refine al_0 dX8_walked_14 ?_
  refine g_X8_29 (323) dX8_walked_15 rfl tt1 (rr8_3 tt1) (by omega) ?_
  refine il_1 dX8_walked_18 ?_
  refine c_X8_349 dX8_walked_19 rfl tt323 (Nat.le_of_ble_eq_true rfl) (by omega) ?_
  refine wX4_walk (by omega) Sp1 V m0 m6 (fun h2 b2 E2 A2 => ?_)
  refine pv_n ?_
  refine al_0 dX8_walked_22 ?_
  refine g_X8_29 (323) dX8_walked_23 rfl tt1 (rr8_3 tt1) (by omega) ?_
  refine wp_aret dX8_walked_26 rfl ?_
  exact hQ h2 b2 (fun o ho => by rw [E2 o (by simp; omega), E1 o (by simp; omega)]) (Sp1.x E2) A2

theorem wX8_lit {G : GT} {δ : Nat} {h hl : Nat → Int → Int} {b : Bool × Bool} {Q : V → Hp → Prop} {m l lo : Int} {R : Int → Int} {L : Laws} (hδ : δ ≤ 1640) (C : CT h R L) (z0 : h 324 0 = 0) (hQ : ∀ h' : Nat → Int → Int, ∀ b' : Bool × Bool, eqS h h' → h' 324 0 = 0 → Q (vl (aLit R m l lo)) (HS h' hl b')) : WP G δ 0 0 MX8_lit 0 [vr (1), vi m, vi l, vi lo] [] (HS h hl b) Q := by
  obtain ⟨⟨s0, s3, s4, s1, s2, s5⟩, ⟨t0, t1, t5, t6, t7⟩, ⟨g7, g8, g11, g10, g10x⟩⟩ := C.1.f
  have vn' := C.2.1.n
  have vw := C.2.1.w
  refine il_1 dX8_lit_0 ?_
  refine wp_if_lt 17 dX8_lit_1 rfl (fun c1 => ?_) (fun c1 => ?_)
  · refine wp_ldc2 (-1) dX8_lit_17 ⟨by decide, by decide⟩ cc_X8_266 ?_
    refine wp_lret dX8_lit_20 rfl ?_
    first
      | exact qvl (hQ h1 b1 E1 (by rw [Sp1.2.2 0 (by omega) (by have := nS_e V; omega)]; exact tT_0)) (by unfold aLit; rw [if_pos (by omega)])
      | exact qvl (hQ h b (fun _ _ => rfl) z0) (by unfold aLit; rw [if_neg (by omega)])
  · refine il_1 dX8_lit_4 ?_
    refine bi_6 dX8_lit_5 ?_
    refine wp_icmp_gt 17 dX8_lit_7 rfl (fun c7 => ?_) (fun c7 => ?_)
    · refine wp_ldc2 (-1) dX8_lit_17 ⟨by decide, by decide⟩ cc_X8_266 ?_
      refine wp_lret dX8_lit_20 rfl ?_
      first
        | exact qvl (hQ h1 b1 E1 (by rw [Sp1.2.2 0 (by omega) (by have := nS_e V; omega)]; exact tT_0)) (by unfold aLit; rw [if_pos (by omega)])
        | exact qvl (hQ h b (fun _ _ => rfl) z0) (by unfold aLit; rw [if_neg (by omega)])
    · refine il_2 dX8_lit_10 ?_
      refine c_X8_283 dX8_lit_11 rfl (Nat.le_of_ble_eq_true rfl) (by omega) ?_
      refine wX8_isLamp (by omega) ?_
      refine pv_i ?_
      refine wp_if_ne 21 dX8_lit_14 rfl (fun c14 => ?_) (fun c14 => ?_)
      · rw [b2i_n0] at c14
        refine al_0 dX8_lit_21 ?_
        refine il_1 dX8_lit_22 ?_
        refine c_X8_286 dX8_lit_23 rfl tt1 (Nat.le_of_ble_eq_true rfl) (by omega) ?_
        refine wX8_walked (by omega) C z0 (by omega) (by omega) (fun h1 b1 E1 Sp1 A1 => ?_)
        have C1 := C.sx E1
        have V := C.2.1
        have q1 : h1 3 1 = R 10 := C1.1.f.1.2.2.2.1
        have hk : kE R m < 7 := kE_R (by omega) (by omega)
        have lr := litC_R V hk (shl 1 l)
        have tr := tot_R V (m := m) (by omega) (by omega)
        refine pv_r ?_
        refine al_0 dX8_lit_26 ?_
        refine g_X8_12 (2) dX8_lit_27 rfl tt1 (rr8_0 tt1) (by omega) ?_
        refine g_X8_112 (3) dX8_lit_30 rfl tt2 (rr7_0 tt2) (by omega) ?_
        refine g_X8_170 dX8_lit_33 rfl tt3 ?_
        rw [q1]
        refine ic_1 dX8_lit_36 ?_
        refine il_2 dX8_lit_37 ?_
        refine wp_ishl dX8_lit_38 ?_
        refine c_X8_290 dX8_lit_39 rfl tt323 (Nat.le_of_ble_eq_true rfl) (by omega) ?_
        refine wX4_litWalks (by omega) Sp1 V hk (brb_R V (by omega) (by omega)) A1 ?_
        refine pv_l ?_
        refine al_0 dX8_lit_42 ?_
        refine g_X8_29 (323) dX8_lit_43 rfl tt1 (rr8_3 tt1) (by omega) ?_
        refine il_1 dX8_lit_46 ?_
        refine c_X8_294 dX8_lit_47 rfl tt323 (Nat.le_of_ble_eq_true rfl) (by omega) ?_
        refine wX4_walks (by omega) Sp1 V (by omega) (by omega) ?_
        refine pv_l ?_
        refine il_3 dX8_lit_50 ?_
        refine c_X8_274 dX8_lit_51 rfl (Nat.le_of_ble_eq_true rfl) (by omega) ?_
        refine wX8_inLowest (by omega) (by omega) (by omega) (by omega) (by omega) ?_
        refine pv_l ?_
        refine wp_lret dX8_lit_54 rfl ?_
        first
          | exact qvl (hQ h1 b1 E1 (by rw [Sp1.2.2 0 (by omega) (by have := nS_e V; omega)]; exact tT_0)) (by unfold aLit; rw [if_pos (by omega)])
          | exact qvl (hQ h b (fun _ _ => rfl) z0) (by unfold aLit; rw [if_neg (by omega)])
      · rw [b2i_0] at c14
        refine wp_ldc2 (-1) dX8_lit_17 ⟨by decide, by decide⟩ cc_X8_266 ?_
        refine wp_lret dX8_lit_20 rfl ?_
        first
          | exact qvl (hQ h1 b1 E1 (by rw [Sp1.2.2 0 (by omega) (by have := nS_e V; omega)]; exact tT_0)) (by unfold aLit; rw [if_pos (by omega)])
          | exact qvl (hQ h b (fun _ _ => rfl) z0) (by unfold aLit; rw [if_neg (by omega)])

theorem wX8_dark {G : GT} {δ : Nat} {h hl : Nat → Int → Int} {b : Bool × Bool} {Q : V → Hp → Prop} {m lo : Int} {R : Int → Int} {L : Laws} (hδ : δ ≤ 1640) (C : CT h R L) (z0 : h 324 0 = 0) (hQ : ∀ h' : Nat → Int → Int, ∀ b' : Bool × Bool, eqS h h' → h' 324 0 = 0 → Q (vl (aDark R m lo)) (HS h' hl b')) : WP G δ 0 0 MX8_dark 0 [vr (1), vi m, vi lo] [] (HS h hl b) Q := by
  obtain ⟨⟨s0, s3, s4, s1, s2, s5⟩, ⟨t0, t1, t5, t6, t7⟩, ⟨g7, g8, g11, g10, g10x⟩⟩ := C.1.f
  have vn' := C.2.1.n
  have vw := C.2.1.w
  refine il_1 dX8_dark_0 ?_
  refine wp_if_lt 10 dX8_dark_1 rfl (fun c1 => ?_) (fun c1 => ?_)
  · refine wp_ldc2 (-1) dX8_dark_10 ⟨by decide, by decide⟩ cc_X8_266 ?_
    refine wp_lret dX8_dark_13 rfl ?_
    first
      | exact qvl (hQ h1 b1 E1 (by rw [Sp1.2.2 0 (by omega) (by have := nS_e V; omega)]; exact tT_0)) (by unfold aDark; rw [if_pos (by omega)])
      | exact qvl (hQ h b (fun _ _ => rfl) z0) (by unfold aDark; rw [if_neg (by omega)])
  · refine il_1 dX8_dark_4 ?_
    refine bi_6 dX8_dark_5 ?_
    refine wp_icmp_le 14 dX8_dark_7 rfl (fun c7 => ?_) (fun c7 => ?_)
    · refine al_0 dX8_dark_14 ?_
      refine il_1 dX8_dark_15 ?_
      refine c_X8_286 dX8_dark_16 rfl tt1 (Nat.le_of_ble_eq_true rfl) (by omega) ?_
      refine wX8_walked (by omega) C z0 (by omega) (by omega) (fun h1 b1 E1 Sp1 A1 => ?_)
      have C1 := C.sx E1
      have V := C.2.1
      have q1 : h1 3 1 = R 10 := C1.1.f.1.2.2.2.1
      have hk : kE R m < 7 := kE_R (by omega) (by omega)
      have lr := litC_R V hk 0
      have tr := tot_R V (m := m) (by omega) (by omega)
      have dr := darkC_R V hk
      refine pv_r ?_
      refine al_0 dX8_dark_19 ?_
      refine g_X8_12 (2) dX8_dark_20 rfl tt1 (rr8_0 tt1) (by omega) ?_
      refine g_X8_112 (3) dX8_dark_23 rfl tt2 (rr7_0 tt2) (by omega) ?_
      refine g_X8_170 dX8_dark_26 rfl tt3 ?_
      rw [q1]
      refine c_X8_298 dX8_dark_29 rfl tt323 (Nat.le_of_ble_eq_true rfl) (by omega) ?_
      refine wX4_darkWalks (by omega) Sp1 V hk A1 ?_
      refine pv_l ?_
      refine al_0 dX8_dark_32 ?_
      refine g_X8_29 (323) dX8_dark_33 rfl tt1 (rr8_3 tt1) (by omega) ?_
      refine il_1 dX8_dark_36 ?_
      refine c_X8_294 dX8_dark_37 rfl tt323 (Nat.le_of_ble_eq_true rfl) (by omega) ?_
      refine wX4_walks (by omega) Sp1 V (by omega) (by omega) ?_
      refine pv_l ?_
      refine il_2 dX8_dark_40 ?_
      refine c_X8_274 dX8_dark_41 rfl (Nat.le_of_ble_eq_true rfl) (by omega) ?_
      refine wX8_inLowest (by omega) (by omega) (by omega) (by omega) (by omega) ?_
      refine pv_l ?_
      refine wp_lret dX8_dark_44 rfl ?_
      first
        | exact qvl (hQ h1 b1 E1 (by rw [Sp1.2.2 0 (by omega) (by have := nS_e V; omega)]; exact tT_0)) (by unfold aDark; rw [if_pos (by omega)])
        | exact qvl (hQ h b (fun _ _ => rfl) z0) (by unfold aDark; rw [if_neg (by omega)])
    · refine wp_ldc2 (-1) dX8_dark_10 ⟨by decide, by decide⟩ cc_X8_266 ?_
      refine wp_lret dX8_dark_13 rfl ?_
      first
        | exact qvl (hQ h1 b1 E1 (by rw [Sp1.2.2 0 (by omega) (by have := nS_e V; omega)]; exact tT_0)) (by unfold aDark; rw [if_pos (by omega)])
        | exact qvl (hQ h b (fun _ _ => rfl) z0) (by unfold aDark; rw [if_neg (by omega)])

theorem wX8_mean {G : GT} {δ : Nat} {h hl : Nat → Int → Int} {b : Bool × Bool} {Q : V → Hp → Prop} {m lo : Int} {R : Int → Int} {L : Laws} (hδ : δ ≤ 1640) (C : CT h R L) (z0 : h 324 0 = 0) (hQ : ∀ h' : Nat → Int → Int, ∀ b' : Bool × Bool, eqS h h' → h' 324 0 = 0 → Q (vl (aMean R m lo)) (HS h' hl b')) : WP G δ 0 0 MX8_mean 0 [vr (1), vi m, vi lo] [] (HS h hl b) Q := by
  obtain ⟨⟨s0, s3, s4, s1, s2, s5⟩, ⟨t0, t1, t5, t6, t7⟩, ⟨g7, g8, g11, g10, g10x⟩⟩ := C.1.f
  have vn' := C.2.1.n
  have vw := C.2.1.w
  refine il_1 dX8_mean_0 ?_
  refine wp_if_lt 10 dX8_mean_1 rfl (fun c1 => ?_) (fun c1 => ?_)
  · refine wp_ldc2 (-1) dX8_mean_10 ⟨by decide, by decide⟩ cc_X8_266 ?_
    refine wp_lret dX8_mean_13 rfl ?_
    first
      | exact qvl (hQ h1 b1 E1 (by rw [Sp1.2.2 0 (by omega) (by have := nS_e V; omega)]; exact tT_0)) (by unfold aMean; rw [if_pos (by omega)])
      | exact qvl (hQ h b (fun _ _ => rfl) z0) (by unfold aMean; rw [if_neg (by omega)])
  · refine il_1 dX8_mean_4 ?_
    refine bi_6 dX8_mean_5 ?_
    refine wp_icmp_le 14 dX8_mean_7 rfl (fun c7 => ?_) (fun c7 => ?_)
    · refine al_0 dX8_mean_14 ?_
      refine il_1 dX8_mean_15 ?_
      refine c_X8_286 dX8_mean_16 rfl tt1 (Nat.le_of_ble_eq_true rfl) (by omega) ?_
      refine wX8_walked (by omega) C z0 (by omega) (by omega) (fun h1 b1 E1 Sp1 A1 => ?_)
      have C1 := C.sx E1
      have V := C.2.1
      have q1 : h1 3 1 = R 10 := C1.1.f.1.2.2.2.1
      have hk : kE R m < 7 := kE_R (by omega) (by omega)
      have lr := litC_R V hk 1023
      have tr := tot_R V (m := m) (by omega) (by omega)
      refine pv_r ?_
      refine al_0 dX8_mean_19 ?_
      refine g_X8_12 (2) dX8_mean_20 rfl tt1 (rr8_0 tt1) (by omega) ?_
      refine g_X8_112 (3) dX8_mean_23 rfl tt2 (rr7_0 tt2) (by omega) ?_
      refine g_X8_170 dX8_mean_26 rfl tt3 ?_
      rw [q1]
      refine si_1023 dX8_mean_29 ?_
      refine c_X8_290 dX8_mean_32 rfl tt323 (Nat.le_of_ble_eq_true rfl) (by omega) ?_
      refine wX4_litWalks (by omega) Sp1 V hk (bra_R V) A1 ?_
      refine pv_l ?_
      refine al_0 dX8_mean_35 ?_
      refine g_X8_29 (323) dX8_mean_36 rfl tt1 (rr8_3 tt1) (by omega) ?_
      refine il_1 dX8_mean_39 ?_
      refine c_X8_294 dX8_mean_40 rfl tt323 (Nat.le_of_ble_eq_true rfl) (by omega) ?_
      refine wX4_walks (by omega) Sp1 V (by omega) (by omega) ?_
      refine pv_l ?_
      refine il_2 dX8_mean_43 ?_
      refine c_X8_274 dX8_mean_44 rfl (Nat.le_of_ble_eq_true rfl) (by omega) ?_
      refine wX8_inLowest (by omega) (by omega) (by omega) (by omega) (by omega) ?_
      refine pv_l ?_
      refine wp_lret dX8_mean_47 rfl ?_
      first
        | exact qvl (hQ h1 b1 E1 (by rw [Sp1.2.2 0 (by omega) (by have := nS_e V; omega)]; exact tT_0)) (by unfold aMean; rw [if_pos (by omega)])
        | exact qvl (hQ h b (fun _ _ => rfl) z0) (by unfold aMean; rw [if_neg (by omega)])
    · refine wp_ldc2 (-1) dX8_mean_10 ⟨by decide, by decide⟩ cc_X8_266 ?_
      refine wp_lret dX8_mean_13 rfl ?_
      first
        | exact qvl (hQ h1 b1 E1 (by rw [Sp1.2.2 0 (by omega) (by have := nS_e V; omega)]; exact tT_0)) (by unfold aMean; rw [if_pos (by omega)])
        | exact qvl (hQ h b (fun _ _ => rfl) z0) (by unfold aMean; rw [if_neg (by omega)])

theorem wX9_isRows {G : GT} {δ : Nat} {h hl : Nat → Int → Int} {b : Bool × Bool} {Q : V → Hp → Prop} {m0 : Int} (hδ : δ ≤ 1680)  (hQ : Q (vi (b2i (0 ≤ m0 ∧ m0 ≤ 6))) (HS h hl b)) : WP G δ 0 0 MX9_isRows 0 [vi m0] [] (HS h hl b) Q := by
  refine il_0 dX9_isRows_0 ?_
  refine ic_0 dX9_isRows_1 ?_
  refine bi_6 dX9_isRows_2 ?_
  refine c_X9_69 dX9_isRows_4 rfl (Nat.le_of_ble_eq_true rfl) (by omega) ?_
  refine wX9_isIn (by omega) ?_
  refine pv_i ?_
  refine wp_iretz dX9_isRows_7 rfl b2i_01 ?_
  exact hQ

theorem wX9_layRows_5 {G : GT} {δ : Nat} {h : Nat → Int → Int} {b : Bool × Bool} {Q : V → Hp → Prop} {m0 w : Int} {R : Int → Int} {L : Laws} (hδ : δ ≤ 1700) (M : MT h R L)  : ∀ (n : Nat) (i : Int) (hl : Nat → Int → Int), ((1024 - i).toNat) < n → (0 ≤ i) → (i ≤ 1024) → (∀ j : Int, 0 ≤ j → j < i → hl 349 j = rowP R 0 j) → (∀ hl' : Nat → Int → Int, (∀ j : Int, 0 ≤ j → j < 1024 → hl' 349 j = rowP R 0 j) → WP G δ 0 0 MX9_layRows 43 [vr 336, vi m0, vl w, vn, vn, vn, vn] [] (HS h hl' b) Q) → WP G δ 0 0 MX9_layRows 5 [vr (336), vi m0, vl w, vn, vi i, vn, vn] [] (HS h hl b) Q := by
  intro n
  induction n with
  | zero => intro i hl hlt; exact absurd hlt (Nat.not_lt_zero _)
  | succ n ih =>
    intro i hl hlt i0 i1 A hQ
    have m := M.1
    have V := M.2.1
    have vn' := V.n
    have vw := V.w
    refine il_4 dX9_layRows_5 ?_
    refine si_1024 dX9_layRows_7 ?_
    refine wp_icmp_ge 43 dX9_layRows_10 rfl (fun c10 => ?_) (fun c10 => ?_)
    · have e : i = 1024 := by omega
      subst e
      refine wp_fg (ls' := [_, _, _, vn, vn, vn, vn]) ⟨Or.inr rfl, Or.inr rfl, Or.inr rfl, Or.inl rfl, Or.inl rfl, Or.inl rfl, Or.inl rfl, trivial⟩ ?_
      exact hQ hl A
    · refine al_0 dX9_layRows_13 ?_
      refine g_X9_59 (349) dX9_layRows_14 rfl tt336 (rr9_29 tt336) (by omega) ?_
      refine il_4 dX9_layRows_17 ?_
      refine il_4 dX9_layRows_19 ?_
      refine al_0 dX9_layRows_21 ?_
      refine g_X9_7 (337) dX9_layRows_22 rfl tt336 (rr9_0 tt336) (by omega) ?_
      refine bi_10 dX9_layRows_25 ?_
      refine wp_iaload dX9_layRows_27 tt337 (by omega) (by omega) ?_
      first | rw [m2] | rw [m1] | rw [m] | rw [sw_s] | skip
      refine wp_icmp_ne 35 dX9_layRows_28 rfl (fun c28 => ?_) (fun c28 => ?_)
      · refine lc_0 dX9_layRows_35 ?_
        refine wp_lastore dX9_layRows_36 tt349 (by omega) (by omega) ?_
        refine ii_4 dX9_layRows_37 rfl (by decide) ⟨by decide, by decide⟩ (r32 (by omega) (by omega)) ?_
        refine wp_goto 5 dX9_layRows_40 rfl ?_
        refine ih (i + 1) _ (by omega) (by omega) (by omega) (fun j j0 j1 => ?_) hQ
        by_cases e : j = i
        · rw [e, up_s]
          show _ = if i = R 10 then 1 else 0
          first | rw [if_pos c28] | rw [if_neg c28]
        · rw [up_k e]; exact A j j0 (by omega)
      · refine lc_1 dX9_layRows_31 ?_
        refine wp_goto 36 dX9_layRows_32 rfl ?_
        refine wp_lastore dX9_layRows_36 tt349 (by omega) (by omega) ?_
        refine ii_4 dX9_layRows_37 rfl (by decide) ⟨by decide, by decide⟩ (r32 (by omega) (by omega)) ?_
        refine wp_goto 5 dX9_layRows_40 rfl ?_
        refine ih (i + 1) _ (by omega) (by omega) (by omega) (fun j j0 j1 => ?_) hQ
        by_cases e : j = i
        · rw [e, up_s]
          show _ = if i = R 10 then 1 else 0
          first | rw [if_pos c28] | rw [if_neg c28]
        · rw [up_k e]; exact A j j0 (by omega)

theorem wX9_layRows_83 {G : GT} {δ : Nat} {h : Nat → Int → Int} {b : Bool × Bool} {Q : V → Hp → Prop} {m0 w kk p : Int} {k : Nat} {R : Int → Int} {L : Laws} (hδ : δ ≤ 1700) (M : MT h R L) (hk : k < 6) (p0 : 0 ≤ p) (p1 : p < 1024) : ∀ (n : Nat) (d : Int) (hl : Nat → Int → Int), ((R 1 - d).toNat) < n → (0 ≤ d) → (d ≤ R 1) → (∀ j : Int, 0 ≤ j → j < 1024 → hl 349 j = rowP R k j) → (∀ j : Int, 0 ≤ j → j < p → hl 350 j = rowP R (k + 1) j) → (hl 350 p = sumN (fun d => rowP R k (bxor p (R (29 + d)))) d.toNat) → (∀ hl' : Nat → Int → Int, (∀ j : Int, 0 ≤ j → j < 1024 → hl' 349 j = rowP R k j) → (∀ j : Int, 0 ≤ j → j < p + 1 → hl' 350 j = rowP R (k + 1) j) → WP G δ 0 0 MX9_layRows 128 [vr 336, vi m0, vl w, vn, vi kk, vi p, vn] [] (HS h hl' b) Q) → WP G δ 0 0 MX9_layRows 83 [vr (336), vi m0, vl w, vn, vi kk, vi p, vi d] [] (HS h hl b) Q := by
  intro n
  induction n with
  | zero => intro d hl hlt; exact absurd hlt (Nat.not_lt_zero _)
  | succ n ih =>
    intro d hl hlt d0 d1 A B C hQ
    have m := M.1
    have V := M.2.1
    have vn' := V.n
    have vw := V.w
    have pk := p8_S k hk
    have wr := sumN_R (f := fun d => rowP R k (bxor p (R (29 + d)))) (c := 32768) d.toNat (fun i _ _ => by have := rowP_R V k (bxor p (R (29 + i))); exact ⟨this.1, by omega⟩)
    rw [← C] at wr
    refine il_6 dX9_layRows_83 ?_
    refine al_0 dX9_layRows_85 ?_
    refine g_X9_7 (337) dX9_layRows_86 rfl tt336 (rr9_0 tt336) (by omega) ?_
    refine ic_1 dX9_layRows_89 ?_
    refine wp_iaload dX9_layRows_90 tt337 (by omega) (by omega) ?_
    first | rw [m2] | rw [m1] | rw [m] | rw [sw_s] | skip
    refine wp_icmp_ge 128 dX9_layRows_91 rfl (fun c91 => ?_) (fun c91 => ?_)
    · have e : d = R 1 := by omega
      subst e
      refine wp_fg (ls' := [_, _, _, vn, _, _, vn]) ⟨Or.inr rfl, Or.inr rfl, Or.inr rfl, Or.inl rfl, Or.inr rfl, Or.inr rfl, Or.inl rfl, trivial⟩ ?_
      refine hQ hl A (fun j j0 j1 => ?_)
      by_cases e : j = p
      · rw [e, C]; rfl
      · exact B j j0 (by omega)
    · have di := V.di d d0 (by omega)
      have sx := bxor_lt p0 p1 di.1 di.2
      have wk := rowP_R V k (bxor p (R (29 + d)))
      refine al_0 dX9_layRows_94 ?_
      refine g_X9_62 (350) dX9_layRows_95 rfl tt336 (rr9_30 tt336) (by omega) ?_
      refine il_5 dX9_layRows_98 ?_
      refine wp_dup2 dX9_layRows_100 rfl rfl ?_
      refine wp_laload dX9_layRows_101 tt350 (by omega) (by omega) ?_
      refine al_0 dX9_layRows_102 ?_
      refine g_X9_59 (349) dX9_layRows_103 rfl tt336 (rr9_29 tt336) (by omega) ?_
      refine il_5 dX9_layRows_106 ?_
      refine al_0 dX9_layRows_108 ?_
      refine g_X9_7 (337) dX9_layRows_109 rfl tt336 (rr9_0 tt336) (by omega) ?_
      refine bi_29 dX9_layRows_112 ?_
      refine il_6 dX9_layRows_114 ?_
      refine wp_iadd dX9_layRows_116 (r32 (by omega) (by omega)) ?_
      refine wp_iaload dX9_layRows_117 tt337 (by omega) (by omega) ?_
      first | rw [m2] | rw [m1] | rw [m] | rw [sw_s] | skip
      refine wp_ixor dX9_layRows_118 ?_
      refine wp_laload dX9_layRows_119 tt349 (by omega) (by omega) ?_
      rw [A _ sx.1 sx.2]
      refine wp_ladd dX9_layRows_120 (r64 (by omega) (by omega)) ?_
      refine wp_lastore dX9_layRows_121 tt350 (by omega) (by omega) ?_
      refine ii_6 dX9_layRows_122 rfl (by decide) ⟨by decide, by decide⟩ (r32 (by omega) (by omega)) ?_
      refine wp_goto 83 dX9_layRows_125 rfl ?_
      refine ih (d + 1) _ (by omega) (by omega) (by omega) (fun j j0 j1 => ?_) (fun j j0 j1 => ?_) ?_ hQ
      · rw [up_o (by decide)]; exact A j j0 j1
      · rw [up_k (by omega)]; exact B j j0 j1
      · rw [up_s, sumN_s d0, C]

theorem wX9_layRows_64 {G : GT} {δ : Nat} {h : Nat → Int → Int} {b : Bool × Bool} {Q : V → Hp → Prop} {m0 w kk : Int} {k : Nat} {R : Int → Int} {L : Laws} (hδ : δ ≤ 1700) (M : MT h R L) (hk : k < 6) : ∀ (n : Nat) (p : Int) (hl : Nat → Int → Int) (c6 : Option (Int ⊕ Int ⊕ Nat ⊕ Nat)), ((1024 - p).toNat) < n → (0 ≤ p) → (p ≤ 1024) → (∀ j : Int, 0 ≤ j → j < 1024 → hl 349 j = rowP R k j) → (∀ j : Int, 0 ≤ j → j < p → hl 350 j = rowP R (k + 1) j) → (∀ hl' : Nat → Int → Int, (∀ j : Int, 0 ≤ j → j < 1024 → hl' 350 j = rowP R (k + 1) j) → WP G δ 0 0 MX9_layRows 134 [vr 336, vi m0, vl w, vn, vi kk, vn, vn] [] (HS h hl' b) Q) → WP G δ 0 0 MX9_layRows 64 [vr (336), vi m0, vl w, vn, vi kk, vi p, c6] [] (HS h hl b) Q := by
  intro n
  induction n with
  | zero => intro p hl c6 hlt; exact absurd hlt (Nat.not_lt_zero _)
  | succ n ih =>
    intro p hl c6 hlt p0 p1 A B hQ
    have m := M.1
    have V := M.2.1
    have vn' := V.n
    have vw := V.w
    refine il_5 dX9_layRows_64 ?_
    refine si_1024 dX9_layRows_66 ?_
    refine wp_icmp_ge 134 dX9_layRows_69 rfl (fun c69 => ?_) (fun c69 => ?_)
    · have e : p = 1024 := by omega
      subst e
      refine wp_fg (ls' := [_, _, _, vn, _, vn, vn]) ⟨Or.inr rfl, Or.inr rfl, Or.inr rfl, Or.inl rfl, Or.inr rfl, Or.inl rfl, Or.inl rfl, trivial⟩ ?_
      exact hQ hl B
    · refine al_0 dX9_layRows_72 ?_
      refine g_X9_62 (350) dX9_layRows_73 rfl tt336 (rr9_30 tt336) (by omega) ?_
      refine il_5 dX9_layRows_76 ?_
      refine lc_0 dX9_layRows_78 ?_
      refine wp_lastore dX9_layRows_79 tt350 (by omega) (by omega) ?_
      refine ic_0 dX9_layRows_80 ?_
      refine is_6 dX9_layRows_81 rfl (by decide) ?_
      refine wX9_layRows_83 (by omega) M hk (by omega) (by omega) _ 0 _ (Nat.lt_succ_self _) (by omega) (by omega) (fun j j0 j1 => ?_) (fun j j0 j1 => ?_) ?_ (fun hl1 A1 B1 => ?_)
      · rw [up_o (by decide)]; exact A j j0 j1
      · rw [up_k (by omega)]; exact B j j0 j1
      · rw [up_s]; rfl
      refine ii_5 dX9_layRows_128 rfl (by decide) ⟨by decide, by decide⟩ (r32 (by omega) (by omega)) ?_
      refine wp_goto 64 dX9_layRows_131 rfl ?_
      exact ih (p + 1) hl1 _ (by omega) (by omega) (by omega) A1 B1 hQ

theorem wX9_layRows_137 {G : GT} {δ : Nat} {h : Nat → Int → Int} {b : Bool × Bool} {Q : V → Hp → Prop} {m0 w kk : Int} {k : Nat} {R : Int → Int} {L : Laws} (hδ : δ ≤ 1700) (M : MT h R L)  : ∀ (n : Nat) (p : Int) (hl : Nat → Int → Int), ((1024 - p).toNat) < n → (0 ≤ p) → (p ≤ 1024) → (∀ j : Int, 0 ≤ j → j < 1024 → hl 350 j = rowP R k j) → (∀ j : Int, 0 ≤ j → j < p → hl 349 j = rowP R k j) → (∀ hl' : Nat → Int → Int, (∀ j : Int, 0 ≤ j → j < 1024 → hl' 349 j = rowP R k j) → WP G δ 0 0 MX9_layRows 165 [vr 336, vi m0, vl w, vn, vi kk, vn, vn] [] (HS h hl' b) Q) → WP G δ 0 0 MX9_layRows 137 [vr (336), vi m0, vl w, vn, vi kk, vi p, vn] [] (HS h hl b) Q := by
  intro n
  induction n with
  | zero => intro p hl hlt; exact absurd hlt (Nat.not_lt_zero _)
  | succ n ih =>
    intro p hl hlt p0 p1 B A hQ
    have m := M.1
    have V := M.2.1
    have vn' := V.n
    have vw := V.w
    refine il_5 dX9_layRows_137 ?_
    refine si_1024 dX9_layRows_139 ?_
    refine wp_icmp_ge 165 dX9_layRows_142 rfl (fun c142 => ?_) (fun c142 => ?_)
    · have e : p = 1024 := by omega
      subst e
      refine wp_fg (ls' := [_, _, _, vn, _, vn, vn]) ⟨Or.inr rfl, Or.inr rfl, Or.inr rfl, Or.inl rfl, Or.inr rfl, Or.inl rfl, Or.inl rfl, trivial⟩ ?_
      exact hQ hl A
    · refine al_0 dX9_layRows_145 ?_
      refine g_X9_59 (349) dX9_layRows_146 rfl tt336 (rr9_29 tt336) (by omega) ?_
      refine il_5 dX9_layRows_149 ?_
      refine al_0 dX9_layRows_151 ?_
      refine g_X9_62 (350) dX9_layRows_152 rfl tt336 (rr9_30 tt336) (by omega) ?_
      refine il_5 dX9_layRows_155 ?_
      refine wp_laload dX9_layRows_157 tt350 (by omega) (by omega) ?_
      refine wp_lastore dX9_layRows_158 tt349 (by omega) (by omega) ?_
      refine ii_5 dX9_layRows_159 rfl (by decide) ⟨by decide, by decide⟩ (r32 (by omega) (by omega)) ?_
      refine wp_goto 137 dX9_layRows_162 rfl ?_
      refine ih (p + 1) _ (by omega) (by omega) (by omega) (fun j j0 j1 => ?_) (fun j j0 j1 => ?_) hQ
      · rw [up_o (by decide)]; exact B j j0 j1
      · by_cases e : j = p
        · rw [e, up_s]; exact B p p0 (by omega)
        · rw [up_k e]; exact A j j0 (by omega)

theorem wX9_layRows_46 {G : GT} {δ : Nat} {h : Nat → Int → Int} {b : Bool × Bool} {Q : V → Hp → Prop} {m0 : Int} {R : Int → Int} {L : Laws} (hδ : δ ≤ 1700) (M : MT h R L) (m6 : m0 ≤ 6) : ∀ (n : Nat) (k : Nat) (w : Int) (hl : Nat → Int → Int) (c5 : Option (Int ⊕ Int ⊕ Nat ⊕ Nat)) (c6 : Option (Int ⊕ Int ⊕ Nat ⊕ Nat)), ((m0.toNat - k)) < n → ((k : Int) ≤ m0) → (k = 0 ∨ 0 < R 1) → (∀ j : Int, 0 ≤ j → j < 1024 → hl 349 j = rowP R k j) → (w = powN (R 1) k) → (∀ hl' : Nat → Int → Int, (∀ j : Int, 0 ≤ j → j < 1024 → hl' 349 j = rowP R (kE R m0) j) → Q (vl (totW R m0)) (HS h hl' b)) → WP G δ 0 0 MX9_layRows 46 [vr (336), vi m0, vl w, vn, vi k, c5, c6] [] (HS h hl b) Q := by
  intro n
  induction n with
  | zero => intro k w hl c5 c6 hlt; exact absurd hlt (Nat.not_lt_zero _)
  | succ n ih =>
    intro k w hl c5 c6 hlt k1 kz A hw hQ
    have m := M.1
    have V := M.2.1
    have vn' := V.n
    have vw := V.w
    have wr := powN_R (s := R 1) (by omega) (by omega) (k := k) (by omega)
    rw [← hw] at wr
    have wm := mulR wr.1 wr.2.1 (show (0 : Int) ≤ R 1 by omega) (show R 1 ≤ 8 by omega)
    refine il_4 dX9_layRows_46 ?_
    refine il_1 dX9_layRows_48 ?_
    refine wp_icmp_ge 181 dX9_layRows_49 rfl (fun c49 => ?_) (fun c49 => ?_)
    · have e : kE R m0 = k := by unfold kE; split <;> omega
      refine ll_2 dX9_layRows_181 ?_
      refine wp_lret dX9_layRows_182 rfl ?_
      unfold totW at hQ
      rw [e, ← hw] at hQ
      exact hQ hl A
    · refine al_0 dX9_layRows_52 ?_
      refine g_X9_7 (337) dX9_layRows_53 rfl tt336 (rr9_0 tt336) (by omega) ?_
      refine ic_1 dX9_layRows_56 ?_
      refine wp_iaload dX9_layRows_57 tt337 (by omega) (by omega) ?_
      first | rw [m2] | rw [m1] | rw [m] | rw [sw_s] | skip
      refine wp_if_le 181 dX9_layRows_58 rfl (fun c58 => ?_) (fun c58 => ?_)
      · have e : kE R m0 = k := by unfold kE; rw [if_neg (by omega)]; omega
        refine ll_2 dX9_layRows_181 ?_
        refine wp_lret dX9_layRows_182 rfl ?_
        unfold totW at hQ
        rw [e, ← hw] at hQ
        exact hQ hl A
      · refine ic_0 dX9_layRows_61 ?_
        refine is_5 dX9_layRows_62 rfl (by decide) ?_
        refine wX9_layRows_64 (by omega) M (by omega) _ 0 hl _ (Nat.lt_succ_self _) (by omega) (by omega) A (fun j j0 j1 => by omega) (fun hl1 B1 => ?_)
        refine ic_0 dX9_layRows_134 ?_
        refine is_5 dX9_layRows_135 rfl (by decide) ?_
        refine wX9_layRows_137 (by omega) M _ 0 hl1 (Nat.lt_succ_self _) (by omega) (by omega) B1 (fun j j0 j1 => by omega) (fun hl2 A2 => ?_)
        refine ll_2 dX9_layRows_165 ?_
        refine al_0 dX9_layRows_166 ?_
        refine g_X9_7 (337) dX9_layRows_167 rfl tt336 (rr9_0 tt336) (by omega) ?_
        refine ic_1 dX9_layRows_170 ?_
        refine wp_iaload dX9_layRows_171 tt337 (by omega) (by omega) ?_
        first | rw [m2] | rw [m1] | rw [m] | rw [sw_s] | skip
        refine wp_i2l dX9_layRows_172 ?_
        refine wp_lmul dX9_layRows_173 (r64 (by omega) (by omega)) ?_
        refine ls_2 dX9_layRows_174 rfl (by decide) ?_
        refine ii_4 dX9_layRows_175 rfl (by decide) ⟨by decide, by decide⟩ (r32 (by omega) (by omega)) ?_
        refine wp_goto 46 dX9_layRows_178 rfl ?_
        exact ih (k + 1) _ hl2 _ _ (by omega) (by omega) (Or.inr (by omega)) A2 (by rw [hw]; rfl) hQ

theorem wX9_layRows {G : GT} {δ : Nat} {h hl : Nat → Int → Int} {b : Bool × Bool} {Q : V → Hp → Prop} {m0 : Int} {R : Int → Int} {L : Laws} (hδ : δ ≤ 1700) (M : MT h R L) (m0_ : 0 ≤ m0) (m6 : m0 ≤ 6) (hQ : ∀ hl' : Nat → Int → Int, (∀ j : Int, 0 ≤ j → j < 1024 → hl' 349 j = rowP R (kE R m0) j) → Q (vl (totW R m0)) (HS h hl' b)) : WP G δ 0 0 MX9_layRows 0 [vr (336), vi m0, vn, vn, vn, vn, vn] [] (HS h hl b) Q := by
  have m := M.1
  have V := M.2.1
  have vn' := V.n
  have vw := V.w
  refine lc_1 dX9_layRows_0 ?_
  refine ls_2 dX9_layRows_1 rfl (by decide) ?_
  refine ic_0 dX9_layRows_2 ?_
  refine is_4 dX9_layRows_3 rfl (by decide) ?_
  refine wX9_layRows_5 (by omega) M _ 0 hl (Nat.lt_succ_self _) (by omega) (by omega) (fun j j0 j1 => by omega) (fun hl1 A1 => ?_)
  refine ic_0 dX9_layRows_43 ?_
  refine is_4 dX9_layRows_44 rfl (by decide) ?_
  exact wX9_layRows_46 (by omega) M m6 _ 0 1 hl1 _ _ (Nat.lt_succ_self _) (by omega) (Or.inl rfl) A1 rfl hQ

theorem wX9_lit_31 {G : GT} {δ : Nat} {h hl : Nat → Int → Int} {b : Bool × Bool} {Q : V → Hp → Prop} {m0 l lo w : Int} {k : Nat} {R : Int → Int} {L : Laws} (hδ : δ ≤ 1660) (M : MT h R L) (l0 : 0 ≤ l) (l1 : l < 10) (w0 : 0 < w) (hk : k < 7) (A : ∀ j : Int, 0 ≤ j → j < 1024 → hl 349 j = rowP R k j) : ∀ (n : Nat) (t : Int) (p : Int), ((1024 - p).toNat) < n → (0 ≤ p) → (p ≤ 1024) → (t = sumN (fun p => if tb p l = true then rowP R k p else 0) p.toNat) → (Q (vl (lowV (litC R k (shl 1 l)) w lo)) (HS h hl b)) → WP G δ 0 0 MX9_lit 31 [vr (336), vi m0, vi l, vi lo, vl w, vn, vl t, vn, vi p] [] (HS h hl b) Q := by
  intro n
  induction n with
  | zero => intro t p hlt; exact absurd hlt (Nat.not_lt_zero _)
  | succ n ih =>
    intro t p hlt p0 p1 ht hQ
    have m := M.1
    have V := M.2.1
    have vn' := V.n
    have vw := V.w
    have nn := nS_e V
    have pk := p8_R k hk
    have rk := rowP_R V k p
    have tr := sumN_R (f := fun p => if tb p l = true then rowP R k p else 0) (c := 262144) p.toNat (fun i _ _ => by
      have w := rowP_R V k i
      split <;> omega)
    rw [← ht] at tr
    refine il_8 dX9_lit_31 ?_
    refine si_1024 dX9_lit_33 ?_
    refine wp_icmp_ge 70 dX9_lit_36 rfl (fun c36 => ?_) (fun c36 => ?_)
    · have e : p = 1024 := by omega
      subst e
      refine ll_6 dX9_lit_70 ?_
      refine ll_4 dX9_lit_72 ?_
      refine il_3 dX9_lit_74 ?_
      refine c_X9_431 dX9_lit_75 rfl (Nat.le_of_ble_eq_true rfl) (by omega) ?_
      refine wX9_part (by omega) (by omega) (by omega) ?_
      refine pv_l ?_
      refine wp_lret dX9_lit_78 rfl ?_
      exact qvl hQ (by rw [ht, ← lit_e V k l0 l1]; rfl)
    · refine ll_6 dX9_lit_39 ?_
      refine il_8 dX9_lit_41 ?_
      refine il_2 dX9_lit_43 ?_
      refine c_X9_248 dX9_lit_44 rfl (Nat.le_of_ble_eq_true rfl) (by omega) ?_
      refine wX9_has (by omega) (by omega) (by omega) (by omega) (by omega) ?_
      refine pv_i ?_
      refine wp_if_eq 60 dX9_lit_47 rfl (fun c47 => ?_) (fun c47 => ?_)
      · rw [b2i_0] at c47
        refine lc_0 dX9_lit_60 ?_
        refine wp_ladd dX9_lit_61 (r64 (by omega) (by omega)) ?_
        refine ls_6 dX9_lit_62 rfl (by decide) ?_
        refine ii_8 dX9_lit_64 rfl (by decide) ⟨by decide, by decide⟩ (r32 (by omega) (by omega)) ?_
        refine wp_goto 31 dX9_lit_67 rfl ?_
        refine ih _ (p + 1) (by omega) (by omega) (by omega) ?_ hQ
        rw [sumN_s p0, ← ht]
        first | rw [if_pos c47] | (rw [if_neg c47])
      · rw [b2i_n0] at c47
        refine al_0 dX9_lit_50 ?_
        refine g_X9_59 (349) dX9_lit_51 rfl tt336 (rr9_29 tt336) (by omega) ?_
        refine il_8 dX9_lit_54 ?_
        refine wp_laload dX9_lit_56 tt349 (by omega) (by omega) ?_
        rw [A p p0 (by omega)]
        refine wp_goto 61 dX9_lit_57 rfl ?_
        refine wp_ladd dX9_lit_61 (r64 (by omega) (by omega)) ?_
        refine ls_6 dX9_lit_62 rfl (by decide) ?_
        refine ii_8 dX9_lit_64 rfl (by decide) ⟨by decide, by decide⟩ (r32 (by omega) (by omega)) ?_
        refine wp_goto 31 dX9_lit_67 rfl ?_
        refine ih _ (p + 1) (by omega) (by omega) (by omega) ?_ hQ
        rw [sumN_s p0, ← ht]
        first | rw [if_pos c47] | (rw [if_neg c47])

theorem wX9_lit {G : GT} {δ : Nat} {h hl : Nat → Int → Int} {b : Bool × Bool} {Q : V → Hp → Prop} {m0 l lo : Int} {R : Int → Int} {L : Laws} (hδ : δ ≤ 1660) (M : MT h R L)  (hQ : ∀ hl' : Nat → Int → Int, Q (vl (aLit R m0 l lo)) (HS h hl' b)) : WP G δ 0 0 MX9_lit 0 [vr (336), vi m0, vi l, vi lo, vn, vn, vn, vn, vn] [] (HS h hl b) Q := by
  have m := M.1
  have V := M.2.1
  have vn' := V.n
  have vw := V.w
  refine il_1 dX9_lit_0 ?_
  refine c_X9_435 dX9_lit_1 rfl (Nat.le_of_ble_eq_true rfl) (by omega) ?_
  refine wX9_isRows (by omega) ?_
  refine pv_i ?_
  refine wp_if_eq 14 dX9_lit_4 rfl (fun c4 => ?_) (fun c4 => ?_)
  · rw [b2i_0] at c4
    refine wp_ldc2 (-1) dX9_lit_14 ⟨by decide, by decide⟩ cc_X9_427 ?_
    refine wp_lret dX9_lit_17 rfl ?_
    first
      | exact qvl (hQ hl1) (by unfold aLit; rw [if_pos (by omega)])
      | exact qvl (hQ hl) (by unfold aLit; rw [if_neg (by omega)])
  · rw [b2i_n0] at c4
    refine il_2 dX9_lit_7 ?_
    refine c_X9_353 dX9_lit_8 rfl (Nat.le_of_ble_eq_true rfl) (by omega) ?_
    refine wX9_isLamp (by omega) ?_
    refine pv_i ?_
    refine wp_if_ne 18 dX9_lit_11 rfl (fun c11 => ?_) (fun c11 => ?_)
    · rw [b2i_n0] at c11
      refine al_0 dX9_lit_18 ?_
      refine il_1 dX9_lit_19 ?_
      refine c_X9_438 dX9_lit_20 rfl tt336 (Nat.le_of_ble_eq_true rfl) (by omega) ?_
      have hk : kE R m0 < 7 := kE_R (by omega) (by omega)
      have tr := tot_R V (m := m0) (by omega) (by omega)
      refine wX9_layRows (by omega) M (by omega) (by omega) (fun hl1 A1 => ?_)
      refine pv_l ?_
      refine ls_4 dX9_lit_23 rfl (by decide) ?_
      refine lc_0 dX9_lit_25 ?_
      refine ls_6 dX9_lit_26 rfl (by decide) ?_
      refine ic_0 dX9_lit_28 ?_
      refine is_8 dX9_lit_29 rfl (by decide) ?_
      exact wX9_lit_31 (by omega) M (by omega) (by omega) (by omega) hk A1 _ 0 0 (Nat.lt_succ_self _) (by omega) (by omega) rfl (qvl (hQ hl1) (by unfold aLit; rw [if_pos (by omega)]))
    · rw [b2i_0] at c11
      refine wp_ldc2 (-1) dX9_lit_14 ⟨by decide, by decide⟩ cc_X9_427 ?_
      refine wp_lret dX9_lit_17 rfl ?_
      first
        | exact qvl (hQ hl1) (by unfold aLit; rw [if_pos (by omega)])
        | exact qvl (hQ hl) (by unfold aLit; rw [if_neg (by omega)])

theorem wX9_dark {G : GT} {δ : Nat} {h hl : Nat → Int → Int} {b : Bool × Bool} {Q : V → Hp → Prop} {m0 lo : Int} {R : Int → Int} {L : Laws} (hδ : δ ≤ 1660) (M : MT h R L)  (hQ : ∀ hl' : Nat → Int → Int, Q (vl (aDark R m0 lo)) (HS h hl' b)) : WP G δ 0 0 MX9_dark 0 [vr (336), vi m0, vi lo, vn, vn] [] (HS h hl b) Q := by
  have m := M.1
  have V := M.2.1
  have vn' := V.n
  have vw := V.w
  refine il_1 dX9_dark_0 ?_
  refine c_X9_435 dX9_dark_1 rfl (Nat.le_of_ble_eq_true rfl) (by omega) ?_
  refine wX9_isRows (by omega) ?_
  refine pv_i ?_
  refine wp_if_ne 11 dX9_dark_4 rfl (fun c4 => ?_) (fun c4 => ?_)
  · rw [b2i_n0] at c4
    refine al_0 dX9_dark_11 ?_
    refine il_1 dX9_dark_12 ?_
    refine c_X9_438 dX9_dark_13 rfl tt336 (Nat.le_of_ble_eq_true rfl) (by omega) ?_
    have hk : kE R m0 < 7 := kE_R (by omega) (by omega)
    have tr := tot_R V (m := m0) (by omega) (by omega)
    refine wX9_layRows (by omega) M (by omega) (by omega) (fun hl1 A1 => ?_)
    refine pv_l ?_
    refine ls_3 dX9_dark_16 rfl (by decide) ?_
    refine al_0 dX9_dark_17 ?_
    refine g_X9_59 (349) dX9_dark_18 rfl tt336 (rr9_29 tt336) (by omega) ?_
    refine ic_0 dX9_dark_21 ?_
    refine wp_laload dX9_dark_22 tt349 (by omega) (by omega) ?_
    rw [A1 0 (by omega) (by omega), dark_e V]
    refine ll_3 dX9_dark_23 ?_
    refine il_2 dX9_dark_24 ?_
    refine c_X9_431 dX9_dark_25 rfl (Nat.le_of_ble_eq_true rfl) (by omega) ?_
    have dr := darkC_R V hk
    refine wX9_part (by omega) (by omega) (by omega) ?_
    refine pv_l ?_
    refine wp_lret dX9_dark_28 rfl ?_
    first
      | exact qvl (hQ hl1) (by unfold aDark; rw [if_pos (by omega)])
      | exact qvl (hQ hl) (by unfold aDark; rw [if_neg (by omega)])
  · rw [b2i_0] at c4
    refine wp_ldc2 (-1) dX9_dark_7 ⟨by decide, by decide⟩ cc_X9_427 ?_
    refine wp_lret dX9_dark_10 rfl ?_
    first
      | exact qvl (hQ hl1) (by unfold aDark; rw [if_pos (by omega)])
      | exact qvl (hQ hl) (by unfold aDark; rw [if_neg (by omega)])

theorem wX9_mean_23 {G : GT} {δ : Nat} {h hl : Nat → Int → Int} {b : Bool × Bool} {Q : V → Hp → Prop} {m0 lo w : Int} {k : Nat} {R : Int → Int} {L : Laws} (hδ : δ ≤ 1660) (M : MT h R L) (w0 : 0 < w) (hk : k < 7) (A : ∀ j : Int, 0 ≤ j → j < 1024 → hl 349 j = rowP R k j) : ∀ (n : Nat) (t : Int) (p : Int), ((1024 - p).toNat) < n → (0 ≤ p) → (p ≤ 1024) → (t = sumN (fun p => pc p * rowP R k p) p.toNat) → (Q (vl (lowV (litC R k 1023) w lo)) (HS h hl b)) → WP G δ 0 0 MX9_mean 23 [vr (336), vi m0, vi lo, vl w, vn, vl t, vn, vi p] [] (HS h hl b) Q := by
  intro n
  induction n with
  | zero => intro t p hlt; exact absurd hlt (Nat.not_lt_zero _)
  | succ n ih =>
    intro t p hlt p0 p1 ht hQ
    have m := M.1
    have V := M.2.1
    have vn' := V.n
    have vw := V.w
    have nn := nS_e V
    have pk := p8_R k hk
    have rk := rowP_R V k p
    have tr := sumN_R (f := fun p => pc p * rowP R k p) (c := 10 * 262144) p.toNat (fun i _ _ => by
      have w := rowP_R V k i
      have c := pc_R (x := i)
      exact mulR c.1 c.2 w.1 (by omega))
    rw [← ht] at tr
    have cr := pc_R (x := p)
    have pr := mulR (A := 10) (B := 262144) cr.1 cr.2 rk.1 (by omega)
    refine il_7 dX9_mean_23 ?_
    refine si_1024 dX9_mean_25 ?_
    refine wp_icmp_ge 56 dX9_mean_28 rfl (fun c28 => ?_) (fun c28 => ?_)
    · have e : p = 1024 := by omega
      subst e
      refine ll_5 dX9_mean_56 ?_
      refine ll_3 dX9_mean_58 ?_
      refine il_2 dX9_mean_59 ?_
      refine c_X9_431 dX9_mean_60 rfl (Nat.le_of_ble_eq_true rfl) (by omega) ?_
      refine wX9_part (by omega) (by omega) (by omega) ?_
      refine pv_l ?_
      refine wp_lret dX9_mean_63 rfl ?_
      exact qvl hQ (by rw [ht, ← mean_e V k]; rfl)
    · refine ll_5 dX9_mean_31 ?_
      refine il_7 dX9_mean_33 ?_
      refine c_X9_298 dX9_mean_35 rfl (Nat.le_of_ble_eq_true rfl) (by omega) ?_
      refine wX9_bits (by omega) (by omega) (by omega) ?_
      refine pv_i ?_
      refine wp_i2l dX9_mean_38 ?_
      refine al_0 dX9_mean_39 ?_
      refine g_X9_59 (349) dX9_mean_40 rfl tt336 (rr9_29 tt336) (by omega) ?_
      refine il_7 dX9_mean_43 ?_
      refine wp_laload dX9_mean_45 tt349 (by omega) (by omega) ?_
      rw [A p p0 (by omega)]
      refine wp_lmul dX9_mean_46 (r64 (by omega) (by omega)) ?_
      refine wp_ladd dX9_mean_47 (r64 (by omega) (by omega)) ?_
      refine ls_5 dX9_mean_48 rfl (by decide) ?_
      refine ii_7 dX9_mean_50 rfl (by decide) ⟨by decide, by decide⟩ (r32 (by omega) (by omega)) ?_
      refine wp_goto 23 dX9_mean_53 rfl ?_
      exact ih _ (p + 1) (by omega) (by omega) (by omega) (by rw [sumN_s p0, ← ht]) hQ

theorem wX9_mean {G : GT} {δ : Nat} {h hl : Nat → Int → Int} {b : Bool × Bool} {Q : V → Hp → Prop} {m0 lo : Int} {R : Int → Int} {L : Laws} (hδ : δ ≤ 1660) (M : MT h R L)  (hQ : ∀ hl' : Nat → Int → Int, Q (vl (aMean R m0 lo)) (HS h hl' b)) : WP G δ 0 0 MX9_mean 0 [vr (336), vi m0, vi lo, vn, vn, vn, vn, vn] [] (HS h hl b) Q := by
  have m := M.1
  have V := M.2.1
  have vn' := V.n
  have vw := V.w
  refine il_1 dX9_mean_0 ?_
  refine c_X9_435 dX9_mean_1 rfl (Nat.le_of_ble_eq_true rfl) (by omega) ?_
  refine wX9_isRows (by omega) ?_
  refine pv_i ?_
  refine wp_if_ne 11 dX9_mean_4 rfl (fun c4 => ?_) (fun c4 => ?_)
  · rw [b2i_n0] at c4
    refine al_0 dX9_mean_11 ?_
    refine il_1 dX9_mean_12 ?_
    refine c_X9_438 dX9_mean_13 rfl tt336 (Nat.le_of_ble_eq_true rfl) (by omega) ?_
    have hk : kE R m0 < 7 := kE_R (by omega) (by omega)
    have tr := tot_R V (m := m0) (by omega) (by omega)
    refine wX9_layRows (by omega) M (by omega) (by omega) (fun hl1 A1 => ?_)
    refine pv_l ?_
    refine ls_3 dX9_mean_16 rfl (by decide) ?_
    refine lc_0 dX9_mean_17 ?_
    refine ls_5 dX9_mean_18 rfl (by decide) ?_
    refine ic_0 dX9_mean_20 ?_
    refine is_7 dX9_mean_21 rfl (by decide) ?_
    exact wX9_mean_23 (by omega) M (by omega) hk A1 _ 0 0 (Nat.lt_succ_self _) (by omega) (by omega) rfl (qvl (hQ hl1) (by unfold aMean; rw [if_pos (by omega)]))
  · rw [b2i_0] at c4
    refine wp_ldc2 (-1) dX9_mean_7 ⟨by decide, by decide⟩ cc_X9_427 ?_
    refine wp_lret dX9_mean_10 rfl ?_
    first
      | exact qvl (hQ hl1) (by unfold aMean; rw [if_pos (by omega)])
      | exact qvl (hQ hl) (by unfold aMean; rw [if_neg (by omega)])
