/-! the steps of the model's reader -/
theorem PQ.mono {T : Int → Int} {N c0 : Int} {h : Nat → Int → Int} {b : Bool × Bool} {Q Q' : V → Hp → Prop} {r : MRs} (q : PQ T N c0 h b Q r) (k : ∀ (x : Int) (h' hl' : Nat → Int → Int), Q (vi x) (HS h' hl' b) → Q' (vi x) (HS h' hl' b)) : PQ T N c0 h b Q' r := by
  rcases r with e | t
  · exact fun h' hl' a c => k _ _ _ (q h' hl' a c)
  · exact fun h' hl' a c => k _ _ _ (q h' hl' a c)
theorem SR_hd {f : Int → Int} {P : List Int} (s : SR f P) (h : 1 ≤ P.length) : f ((P.length : Int) - 1) = hdP P := by
  obtain ⟨x, t, rfl⟩ := ne1 h
  have lc : ((x :: t).length : Int) = t.length + 1 := by rw [List.length_cons]; omega
  rw [lc, show (t.length : Int) + 1 - 1 = t.length by omega]
  exact s.1

theorem wX9_opened {G : GT} {δ : Nat} {h hl : Nat → Int → Int} {b : Bool × Bool} {Q : V → Hp → Prop} {x : Int} {i o N c0 s : Int} {T : Int → Int} {P : List Int} {W : MCd} (hδ : δ ≤ 1590) (Pb : PsB T N c0 s h) (M : TkM h hl T N i) (i0 : 0 ≤ i) (pl : P.length ≤ 159) (wp : W.length + P.length ≤ 303) (ol : -1000 ≤ o - P.length ∧ o ≤ 1000) (h16 : h 336 16 = P.length) (hS : SR (h 341) P) (h17 : h 336 17 = o) (hW : Wt h c0 W) (h18 : h 336 18 = 0) (hQ : PQ T N c0 h b Q (opdM x i P o W)) : WP G δ 0 0 MX9_opened 0 [vr (336), vi x] [] (HS h hl b) Q := by
  have Pc := Pb
  obtain ⟨⟨hN, hT, h12, h14⟩, hc, B, s01⟩ := Pb
  refine al_0 dX9_opened_0 ?_
  refine g_X9_165 dX9_opened_1 rfl tt336 ?_
  rw [h17]
  refine bi_8 dX9_opened_4 ?_
  refine wp_icmp_ne 11 dX9_opened_6 rfl (fun c6 => ?_) (fun c6 => ?_)
  · refine al_0 dX9_opened_11 ?_
    refine wp_dup dX9_opened_12 rfl ?_
    refine g_X9_165 dX9_opened_13 rfl tt336 ?_
    rw [h17]
    refine ic_1 dX9_opened_16 ?_
    refine wp_iadd dX9_opened_17 (r32 (by omega) (by omega)) ?_
    refine p_X9_165 dX9_opened_18 rfl tt336 ?_
    refine al_0 dX9_opened_21 ?_
    refine g_X9_29 (341) dX9_opened_22 rfl tt336 (rr9_15 tt336) (by omega) ?_
    refine al_0 dX9_opened_25 ?_
    refine g_X9_155 dX9_opened_26 rfl tt336 ?_
    rw [up_k (o := 336) (q := 336) (k := 17) (j := 16) (by decide)]
    rw [h16]
    refine il_1 dX9_opened_29 ?_
    refine wp_iastore dX9_opened_30 tt341 (by omega) (by omega) ?_
    refine al_0 dX9_opened_31 ?_
    refine wp_dup dX9_opened_32 rfl ?_
    refine g_X9_155 dX9_opened_33 rfl tt336 ?_
    rw [up_o (o := 341) (q := 336) (by decide)]
    rw [up_k (o := 336) (q := 336) (k := 17) (j := 16) (by decide)]
    rw [h16]
    refine ic_1 dX9_opened_36 ?_
    refine wp_iadd dX9_opened_37 (r32 (by omega) (by omega)) ?_
    refine p_X9_155 dX9_opened_38 rfl tt336 ?_
    refine al_0 dX9_opened_41 ?_
    refine c_X9_175 dX9_opened_42 rfl tt336 (Nat.le_of_ble_eq_true rfl) (by omega) ?_
    refine wX9_nextTokenM (T := T) (N := N) (j := i) (by omega) (by rw [up_k (by decide), up_o (by decide), up_k (by decide)]; exact hN) (by rw [up_o' (by decide), up_o' (by decide), up_o' (by decide)]; exact hT) B (by omega) (by rw [up_k (by decide), up_o (by decide), up_k (by decide)]; exact M.1) (fun h1 hl1 E1 M1 => ?_)
    refine pv_n ?_
    refine ic_0 dX9_opened_45 ?_
    refine wp_ireti dX9_opened_46 rfl ?_
    unfold opdM at hQ
    rw [if_neg (by omega)] at hQ
    have s1 : SR (up (up (up h 336 17 (o + 1)) 341 P.length x) 336 16 (P.length + 1) 341) (x :: P) := SR_up hS (fun k k0 k1 => by rw [up_o (by decide), up_k (by omega), up_o (by decide)]) (by rw [up_o (by decide), up_s])
    refine hQ h1 hl1 (PsE.tk (((PsE.rf.u6 (by unfold psK; omega)).u1).u6 (by unfold psK; omega)) E1) ⟨M1, ?_, ?_, ?_, ?_, ?_⟩
    · show h1 336 16 = (((x :: P).length : Nat) : Int)
      rw [E1.2 16 (by decide) (by decide) (by decide) (by decide), up_s, List.length_cons]; omega
    · show SR (h1 341) (x :: P)
      rw [E1.1 341 (by decide)]; exact s1
    · show h1 336 17 = o + 1
      rw [E1.2 17 (by decide) (by decide) (by decide) (by decide), up_k (by decide), up_o (by decide), up_s]
    · exact hW.c (by rw [E1.2 13 (by decide) (by decide) (by decide) (by decide), up_k (by decide), up_o (by decide), up_k (by decide)]) (fun k _ _ => by rw [E1.1 339 (by decide), up_o (by decide), up_o (by decide), up_o (by decide)])
    · show h1 336 18 = 0
      rw [E1.2 18 (by decide) (by decide) (by decide) (by decide), up_k (by decide), up_o (by decide), up_k (by decide)]; exact h18
  · refine ic_3 dX9_opened_9 ?_
    refine wp_ireti dX9_opened_10 rfl ?_
    unfold opdM at hQ
    rw [if_pos (by omega)] at hQ
    exact hQ h hl PsE.rf M.2.1

theorem setP_ln : ∀ (l : Int) (P : List Int) (o : Int) (W : MCd), (setP l P o W).1.length ≤ P.length ∧ (setP l P o W).2.2.length + (setP l P o W).1.length = W.length + P.length ∧ (o - P.length ≤ (setP l P o W).2.1 - (setP l P o W).1.length) ∧ (setP l P o W).2.1 ≤ o
  | l, [], o, W => ⟨Nat.le_refl _, rfl, Int.le_refl _, Int.le_refl _⟩
  | l, x :: P, o, W => by
    unfold setP
    split
    · obtain ⟨a, c, d, e⟩ := setP_ln l P (if bnd x = 7 ∨ x = 20 then o - 1 else o) (W ++ [(x, 0)])
      rw [List.length_append] at c
      simp only [List.length_cons, List.length_nil] at c ⊢
      refine ⟨by omega, by omega, ?_, ?_⟩
      · split at d <;> split <;> omega
      · split at e <;> split <;> omega
    · exact ⟨Nat.le_refl _, rfl, Int.le_refl _, Int.le_refl _⟩

theorem wX9_endOne {G : GT} {δ : Nat} {h hl : Nat → Int → Int} {b : Bool × Bool} {Q : V → Hp → Prop} {i o N c0 s : Int} {T : Int → Int} {P : List Int} {W : MCd} (hδ : δ ≤ 1590) (Pb : PsB T N c0 s h) (M : TkM h hl T N i) (i0 : 0 ≤ i) (pl : P.length ≤ 159) (wp : W.length + P.length ≤ 303) (ol : -1000 ≤ o - P.length ∧ o ≤ 1000) (h16 : h 336 16 = P.length) (hS : SR (h 341) P) (h17 : h 336 17 = o) (hW : Wt h c0 W) (hQ : PQ T N c0 h b Q (endM (kF T N) i P o W)) : WP G δ 0 0 MX9_endOne 0 [vr (336)] [] (HS h hl b) Q := by
  have Pc := Pb
  obtain ⟨⟨hN, hT, h12, h14⟩, hc, B, s01⟩ := Pb
  obtain ⟨R, hR⟩ : ∃ R, R = setP 7 P o W := ⟨_, rfl⟩
  have le := setP_ln 7 P o W
  unfold endM at hQ
  rw [← hR] at hQ le
  refine al_0 dX9_endOne_0 ?_
  refine bi_7 dX9_endOne_1 ?_
  refine c_X9_197 dX9_endOne_3 rfl tt336 (Nat.le_of_ble_eq_true rfl) (by omega) ?_
  refine wX9_settle (c0 := c0) (P := P) (o := o) (W := W) (by omega) h12 hc (by omega) wp ol h16 hS h17 hW (fun h1 E1 F1 a16 aS a17 aW => ?_)
  rw [← hR] at a16 aS a17 aW
  have M1 : TkM h1 hl T N i := M.c (F1 7 (by decide) (by decide) (by decide)) (F1 8 (by decide) (by decide) (by decide)) (F1 9 (by decide) (by decide) (by decide)) (F1 10 (by decide) (by decide) (by decide)) rfl
  have Pd := Pc.c E1
  obtain ⟨⟨gN, gT, g12, g14⟩, -⟩ := Pd
  refine pv_n ?_
  refine al_0 dX9_endOne_6 ?_
  refine ic_1 dX9_endOne_7 ?_
  refine p_X9_200 dX9_endOne_8 rfl tt336 (by omega) ?_
  refine al_0 dX9_endOne_11 ?_
  refine g_X9_155 dX9_endOne_12 rfl tt336 ?_
  rw [up_k (o := 336) (q := 336) (k := 18) (j := 16) (by decide)]
  rw [a16]
  refine wp_if_eq 34 dX9_endOne_15 rfl (fun c15 => ?_) (fun c15 => ?_)
  · have e0 : R.1 = [] := List.eq_nil_of_length_eq_zero (by omega)
    refine ic_0 dX9_endOne_34 ?_
    refine wp_ireti dX9_endOne_35 rfl ?_
    have nh : ¬ hdP R.1 = 41 := by
      first
        | (rw [e0]; decide)
        | exact c31
    rw [if_neg nh] at hQ
    exact hQ _ hl (E1.u6 (by unfold psK; omega)) ⟨M1.c (by rw [up_k (by decide)]) (by rw [up_k (by decide)]) (by rw [up_k (by decide)]) (by rw [up_k (by decide)]) rfl, by rw [up_k (by decide)]; exact a16, SR_c _ (fun _ _ _ => (up_o (by decide)).symm) aS, by rw [up_k (by decide)]; exact a17, aW.c (by rw [up_k (by decide)]) (fun k _ _ => by rw [up_o (by decide)]), up_s⟩
  · refine al_0 dX9_endOne_18 ?_
    refine g_X9_29 (341) dX9_endOne_19 rfl tt336 (rr9_15 tt336) (by omega) ?_
    refine al_0 dX9_endOne_22 ?_
    refine g_X9_155 dX9_endOne_23 rfl tt336 ?_
    rw [up_k (o := 336) (q := 336) (k := 18) (j := 16) (by decide)]
    rw [a16]
    refine ic_1 dX9_endOne_26 ?_
    refine wp_isub dX9_endOne_27 (r32 (by omega) (by omega)) ?_
    refine wp_iaload dX9_endOne_28 tt341 (by omega) (by omega) ?_
    rw [up_o (o := 336) (q := 341) (by decide)]
    rw [SR_hd aS (by omega)]
    refine bi_41 dX9_endOne_29 ?_
    refine wp_icmp_eq 36 dX9_endOne_31 rfl (fun c31 => ?_) (fun c31 => ?_)
    · refine al_0 dX9_endOne_36 ?_
      refine bi_111 dX9_endOne_37 ?_
      refine bi_102 dX9_endOne_39 ?_
      refine c_X9_122 dX9_endOne_41 rfl (Nat.le_of_ble_eq_true rfl) (by omega) ?_
      refine wX9_w2 (by omega) (by decide) (by decide) (by decide) (by decide) ?_
      refine pv_l ?_
      refine c_X9_190 dX9_endOne_44 rfl tt336 (Nat.le_of_ble_eq_true rfl) (by omega) ?_
      refine wX9_isWord (T := T) (N := N) (j := i) (x := 20) (by omega) (M1.c (by rw [up_k (by decide)]) (by rw [up_k (by decide)]) (by rw [up_k (by decide)]) (by rw [up_k (by decide)]) rfl) (by decide) (by decide) (by decide) (by decide) ?_
      refine pv_i ?_
      refine wp_if_ne 52 dX9_endOne_47 rfl (fun c47 => ?_) (fun c47 => ?_)
      · rw [b2i_n0] at c47
        refine al_0 dX9_endOne_52 ?_
        refine c_X9_175 dX9_endOne_53 rfl tt336 (Nat.le_of_ble_eq_true rfl) (by omega) ?_
        refine wX9_nextTokenM (T := T) (N := N) (j := i) (by omega) (by rw [up_k (by decide)]; exact gN) (by rw [up_o' (by decide)]; exact gT) B (by omega) (by rw [up_k (by decide)]; exact M1.1) (fun h2 hl2 E2 M2 => ?_)
        have b16 : h2 336 16 = R.1.length := by rw [E2.2 16 (by decide) (by decide) (by decide) (by decide), up_k (by decide)]; exact a16
        refine pv_n ?_
        refine al_0 dX9_endOne_56 ?_
        refine g_X9_29 (341) dX9_endOne_57 rfl tt336 (rr9_15 tt336) (by omega) ?_
        refine al_0 dX9_endOne_60 ?_
        refine g_X9_155 dX9_endOne_61 rfl tt336 ?_
        rw [b16]
        refine ic_1 dX9_endOne_64 ?_
        refine wp_isub dX9_endOne_65 (r32 (by omega) (by omega)) ?_
        refine ic_4 dX9_endOne_66 ?_
        refine wp_iastore dX9_endOne_67 tt341 (by omega) (by omega) ?_
        refine al_0 dX9_endOne_68 ?_
        refine ic_0 dX9_endOne_69 ?_
        refine p_X9_200 dX9_endOne_70 rfl tt336 (by omega) ?_
        refine ic_0 dX9_endOne_73 ?_
        refine wp_ireti dX9_endOne_74 rfl ?_
        rw [if_pos c31, if_pos c47] at hQ
        obtain ⟨x, t, et⟩ := ne1 (st := R.1) (by omega)
        have lt : (R.1.length : Int) = t.length + 1 := by rw [et, List.length_cons]; omega
        have e2 : PsE c0 h h2 := (E1.u6 (by unfold psK; omega)).tk E2
        have s2 : SR (h2 341) (x :: t) := by rw [E2.1 341 (by decide), up_o' (by decide), ← et]; exact aS
        rw [et] at hQ
        refine hQ _ hl2 ((e2.u1).u6 (by unfold psK; omega)) ⟨M2.c (by rw [up_k (by decide), up_o (by decide)]) (by rw [up_k (by decide), up_o (by decide)]) (by rw [up_k (by decide), up_o (by decide)]) (by rw [up_k (by decide), up_o (by decide)]) rfl, ?_, ?_, ?_, ?_, up_s⟩
        · show _ = (((4 :: t).length : Nat) : Int)
          rw [up_k (by decide), up_o (by decide), b16, List.length_cons]; omega
        · show SR _ (4 :: t)
          refine SR_up s2.2 (fun k k0 k1 => by rw [up_o (by decide), up_k (by omega)]) ?_
          rw [up_o (by decide), lt, show (t.length : Int) + 1 - 1 = t.length by omega, up_s]
        · show _ = R.2.1
          rw [up_k (by decide), up_o (by decide), E2.2 17 (by decide) (by decide) (by decide) (by decide), up_k (by decide)]; exact a17
        · refine aW.c ?_ (fun k _ _ => ?_)
          · rw [up_k (by decide), up_o (by decide), E2.2 13 (by decide) (by decide) (by decide) (by decide), up_k (by decide)]
          · rw [up_o (by decide), up_o (by decide), E2.1 339 (by decide), up_o (by decide)]
      · rw [b2i_0] at c47
        refine ic_1 dX9_endOne_50 ?_
        refine wp_ireti dX9_endOne_51 rfl ?_
        rw [if_pos c31, if_neg c47] at hQ
        exact hQ _ hl (E1.u6 (by unfold psK; omega)) (by rw [up_k (by decide)]; exact M1.2.1)
    · refine ic_0 dX9_endOne_34 ?_
      refine wp_ireti dX9_endOne_35 rfl ?_
      have nh : ¬ hdP R.1 = 41 := by
        first
          | (rw [e0]; decide)
          | exact c31
      rw [if_neg nh] at hQ
      exact hQ _ hl (E1.u6 (by unfold psK; omega)) ⟨M1.c (by rw [up_k (by decide)]) (by rw [up_k (by decide)]) (by rw [up_k (by decide)]) (by rw [up_k (by decide)]) rfl, by rw [up_k (by decide)]; exact a16, SR_c _ (fun _ _ _ => (up_o (by decide)).symm) aS, by rw [up_k (by decide)]; exact a17, aW.c (by rw [up_k (by decide)]) (fun k _ _ => by rw [up_o (by decide)]), up_s⟩

theorem wX9_compareOf {G : GT} {δ : Nat} {h hl : Nat → Int → Int} {b : Bool × Bool} {Q : V → Hp → Prop} {i N c0 s : Int} {T : Int → Int} (hδ : δ ≤ 1700) (Pb : PsB T N c0 s h) (M : TkM h hl T N i) (i0 : 0 ≤ i) (hQ : Q (vi (if 41 ≤ kF T N i ∧ kF T N i ≤ 46 then kF T N i - 31 else -1)) (HS h hl b)) : WP G δ 0 0 MX9_compareOf 0 [vr (336)] [] (HS h hl b) Q := by
  have g41 := M.sg (x := 41) (by decide) (by decide)
  rw [show tsg 41 = 60 by decide] at g41
  have g42 := M.sg (x := 42) (by decide) (by decide)
  rw [show tsg 42 = 4 by decide] at g42
  have g43 := M.sg (x := 43) (by decide) (by decide)
  rw [show tsg 43 = 62 by decide] at g43
  have g44 := M.sg (x := 44) (by decide) (by decide)
  rw [show tsg 44 = 5 by decide] at g44
  have g45 := M.sg (x := 45) (by decide) (by decide)
  rw [show tsg 45 = 61 by decide] at g45
  have g46 := M.sg (x := 46) (by decide) (by decide)
  rw [show tsg 46 = 35 by decide] at g46
  have g47 := M.sg (x := 47) (by decide) (by decide)
  rw [show tsg 47 = 43 by decide] at g47
  have g48 := M.sg (x := 48) (by decide) (by decide)
  rw [show tsg 48 = 45 by decide] at g48
  have g49 := M.sg (x := 49) (by decide) (by decide)
  rw [show tsg 49 = 42 by decide] at g49
  have g50 := M.sg (x := 50) (by decide) (by decide)
  rw [show tsg 50 = 47 by decide] at g50
  have g51 := M.sg (x := 51) (by decide) (by decide)
  rw [show tsg 51 = 40 by decide] at g51
  have g52 := M.sg (x := 52) (by decide) (by decide)
  rw [show tsg 52 = 41 by decide] at g52
  have g53 := M.sg (x := 53) (by decide) (by decide)
  rw [show tsg 53 = 59 by decide] at g53
  refine al_0 dX9_compareOf_0 ?_
  refine g_X9_100 dX9_compareOf_1 rfl tt336 ?_
  refine bi_60 dX9_compareOf_4 ?_
  refine wp_icmp_ne 14 dX9_compareOf_6 rfl (fun c6 => ?_) (fun c6 => ?_)
  · refine al_0 dX9_compareOf_14 ?_
    refine g_X9_100 dX9_compareOf_15 rfl tt336 ?_
    refine ic_4 dX9_compareOf_18 ?_
    refine wp_icmp_ne 27 dX9_compareOf_19 rfl (fun c19 => ?_) (fun c19 => ?_)
    · refine al_0 dX9_compareOf_27 ?_
      refine g_X9_100 dX9_compareOf_28 rfl tt336 ?_
      refine bi_62 dX9_compareOf_31 ?_
      refine wp_icmp_ne 41 dX9_compareOf_33 rfl (fun c33 => ?_) (fun c33 => ?_)
      · refine al_0 dX9_compareOf_41 ?_
        refine g_X9_100 dX9_compareOf_42 rfl tt336 ?_
        refine ic_5 dX9_compareOf_45 ?_
        refine wp_icmp_ne 54 dX9_compareOf_46 rfl (fun c46 => ?_) (fun c46 => ?_)
        · refine al_0 dX9_compareOf_54 ?_
          refine g_X9_100 dX9_compareOf_55 rfl tt336 ?_
          refine bi_61 dX9_compareOf_58 ?_
          refine wp_icmp_ne 68 dX9_compareOf_60 rfl (fun c60 => ?_) (fun c60 => ?_)
          · refine al_0 dX9_compareOf_68 ?_
            refine g_X9_100 dX9_compareOf_69 rfl tt336 ?_
            refine bi_35 dX9_compareOf_72 ?_
            refine wp_icmp_ne 82 dX9_compareOf_74 rfl (fun c74 => ?_) (fun c74 => ?_)
            · refine ic_m1 dX9_compareOf_82 ?_
              refine wp_ireti dX9_compareOf_83 rfl ?_
              refine qv hQ ?_
              first
                | (have e : kF T N i = 41 := g41.mp (by omega)
                   rw [e]; decide)
                | (have e : kF T N i = 42 := g42.mp (by omega)
                   rw [e]; decide)
                | (have e : kF T N i = 43 := g43.mp (by omega)
                   rw [e]; decide)
                | (have e : kF T N i = 44 := g44.mp (by omega)
                   rw [e]; decide)
                | (have e : kF T N i = 45 := g45.mp (by omega)
                   rw [e]; decide)
                | (have e : kF T N i = 46 := g46.mp (by omega)
                   rw [e]; decide)
                | (rw [if_neg (fun z => ?_)]
                   rcases (show kF T N i = 41 ∨ kF T N i = 42 ∨ kF T N i = 43 ∨ kF T N i = 44 ∨ kF T N i = 45 ∨ kF T N i = 46 by omega) with q | q | q | q | q | q
                   · have := g41.mpr q; omega
                   · have := g42.mpr q; omega
                   · have := g43.mpr q; omega
                   · have := g44.mpr q; omega
                   · have := g45.mpr q; omega
                   · have := g46.mpr q; omega)
            · refine bi_15 dX9_compareOf_77 ?_
              refine wp_goto 83 dX9_compareOf_79 rfl ?_
              refine wp_ireti dX9_compareOf_83 rfl ?_
              refine qv hQ ?_
              first
                | (have e : kF T N i = 41 := g41.mp (by omega)
                   rw [e]; decide)
                | (have e : kF T N i = 42 := g42.mp (by omega)
                   rw [e]; decide)
                | (have e : kF T N i = 43 := g43.mp (by omega)
                   rw [e]; decide)
                | (have e : kF T N i = 44 := g44.mp (by omega)
                   rw [e]; decide)
                | (have e : kF T N i = 45 := g45.mp (by omega)
                   rw [e]; decide)
                | (have e : kF T N i = 46 := g46.mp (by omega)
                   rw [e]; decide)
                | (rw [if_neg (fun z => ?_)]
                   rcases (show kF T N i = 41 ∨ kF T N i = 42 ∨ kF T N i = 43 ∨ kF T N i = 44 ∨ kF T N i = 45 ∨ kF T N i = 46 by omega) with q | q | q | q | q | q
                   · have := g41.mpr q; omega
                   · have := g42.mpr q; omega
                   · have := g43.mpr q; omega
                   · have := g44.mpr q; omega
                   · have := g45.mpr q; omega
                   · have := g46.mpr q; omega)
          · refine bi_14 dX9_compareOf_63 ?_
            refine wp_goto 83 dX9_compareOf_65 rfl ?_
            refine wp_ireti dX9_compareOf_83 rfl ?_
            refine qv hQ ?_
            first
              | (have e : kF T N i = 41 := g41.mp (by omega)
                 rw [e]; decide)
              | (have e : kF T N i = 42 := g42.mp (by omega)
                 rw [e]; decide)
              | (have e : kF T N i = 43 := g43.mp (by omega)
                 rw [e]; decide)
              | (have e : kF T N i = 44 := g44.mp (by omega)
                 rw [e]; decide)
              | (have e : kF T N i = 45 := g45.mp (by omega)
                 rw [e]; decide)
              | (have e : kF T N i = 46 := g46.mp (by omega)
                 rw [e]; decide)
              | (rw [if_neg (fun z => ?_)]
                 rcases (show kF T N i = 41 ∨ kF T N i = 42 ∨ kF T N i = 43 ∨ kF T N i = 44 ∨ kF T N i = 45 ∨ kF T N i = 46 by omega) with q | q | q | q | q | q
                 · have := g41.mpr q; omega
                 · have := g42.mpr q; omega
                 · have := g43.mpr q; omega
                 · have := g44.mpr q; omega
                 · have := g45.mpr q; omega
                 · have := g46.mpr q; omega)
        · refine bi_13 dX9_compareOf_49 ?_
          refine wp_goto 83 dX9_compareOf_51 rfl ?_
          refine wp_ireti dX9_compareOf_83 rfl ?_
          refine qv hQ ?_
          first
            | (have e : kF T N i = 41 := g41.mp (by omega)
               rw [e]; decide)
            | (have e : kF T N i = 42 := g42.mp (by omega)
               rw [e]; decide)
            | (have e : kF T N i = 43 := g43.mp (by omega)
               rw [e]; decide)
            | (have e : kF T N i = 44 := g44.mp (by omega)
               rw [e]; decide)
            | (have e : kF T N i = 45 := g45.mp (by omega)
               rw [e]; decide)
            | (have e : kF T N i = 46 := g46.mp (by omega)
               rw [e]; decide)
            | (rw [if_neg (fun z => ?_)]
               rcases (show kF T N i = 41 ∨ kF T N i = 42 ∨ kF T N i = 43 ∨ kF T N i = 44 ∨ kF T N i = 45 ∨ kF T N i = 46 by omega) with q | q | q | q | q | q
               · have := g41.mpr q; omega
               · have := g42.mpr q; omega
               · have := g43.mpr q; omega
               · have := g44.mpr q; omega
               · have := g45.mpr q; omega
               · have := g46.mpr q; omega)
      · refine bi_12 dX9_compareOf_36 ?_
        refine wp_goto 83 dX9_compareOf_38 rfl ?_
        refine wp_ireti dX9_compareOf_83 rfl ?_
        refine qv hQ ?_
        first
          | (have e : kF T N i = 41 := g41.mp (by omega)
             rw [e]; decide)
          | (have e : kF T N i = 42 := g42.mp (by omega)
             rw [e]; decide)
          | (have e : kF T N i = 43 := g43.mp (by omega)
             rw [e]; decide)
          | (have e : kF T N i = 44 := g44.mp (by omega)
             rw [e]; decide)
          | (have e : kF T N i = 45 := g45.mp (by omega)
             rw [e]; decide)
          | (have e : kF T N i = 46 := g46.mp (by omega)
             rw [e]; decide)
          | (rw [if_neg (fun z => ?_)]
             rcases (show kF T N i = 41 ∨ kF T N i = 42 ∨ kF T N i = 43 ∨ kF T N i = 44 ∨ kF T N i = 45 ∨ kF T N i = 46 by omega) with q | q | q | q | q | q
             · have := g41.mpr q; omega
             · have := g42.mpr q; omega
             · have := g43.mpr q; omega
             · have := g44.mpr q; omega
             · have := g45.mpr q; omega
             · have := g46.mpr q; omega)
    · refine bi_11 dX9_compareOf_22 ?_
      refine wp_goto 83 dX9_compareOf_24 rfl ?_
      refine wp_ireti dX9_compareOf_83 rfl ?_
      refine qv hQ ?_
      first
        | (have e : kF T N i = 41 := g41.mp (by omega)
           rw [e]; decide)
        | (have e : kF T N i = 42 := g42.mp (by omega)
           rw [e]; decide)
        | (have e : kF T N i = 43 := g43.mp (by omega)
           rw [e]; decide)
        | (have e : kF T N i = 44 := g44.mp (by omega)
           rw [e]; decide)
        | (have e : kF T N i = 45 := g45.mp (by omega)
           rw [e]; decide)
        | (have e : kF T N i = 46 := g46.mp (by omega)
           rw [e]; decide)
        | (rw [if_neg (fun z => ?_)]
           rcases (show kF T N i = 41 ∨ kF T N i = 42 ∨ kF T N i = 43 ∨ kF T N i = 44 ∨ kF T N i = 45 ∨ kF T N i = 46 by omega) with q | q | q | q | q | q
           · have := g41.mpr q; omega
           · have := g42.mpr q; omega
           · have := g43.mpr q; omega
           · have := g44.mpr q; omega
           · have := g45.mpr q; omega
           · have := g46.mpr q; omega)
  · refine bi_10 dX9_compareOf_9 ?_
    refine wp_goto 83 dX9_compareOf_11 rfl ?_
    refine wp_ireti dX9_compareOf_83 rfl ?_
    refine qv hQ ?_
    first
      | (have e : kF T N i = 41 := g41.mp (by omega)
         rw [e]; decide)
      | (have e : kF T N i = 42 := g42.mp (by omega)
         rw [e]; decide)
      | (have e : kF T N i = 43 := g43.mp (by omega)
         rw [e]; decide)
      | (have e : kF T N i = 44 := g44.mp (by omega)
         rw [e]; decide)
      | (have e : kF T N i = 45 := g45.mp (by omega)
         rw [e]; decide)
      | (have e : kF T N i = 46 := g46.mp (by omega)
         rw [e]; decide)
      | (rw [if_neg (fun z => ?_)]
         rcases (show kF T N i = 41 ∨ kF T N i = 42 ∨ kF T N i = 43 ∨ kF T N i = 44 ∨ kF T N i = 45 ∨ kF T N i = 46 by omega) with q | q | q | q | q | q
         · have := g41.mpr q; omega
         · have := g42.mpr q; omega
         · have := g43.mpr q; omega
         · have := g44.mpr q; omega
         · have := g45.mpr q; omega
         · have := g46.mpr q; omega)

theorem wX9_betweenOf {G : GT} {δ : Nat} {h hl : Nat → Int → Int} {b : Bool × Bool} {Q : V → Hp → Prop} {i N c0 s : Int} {T : Int → Int} {P : List Int} (hδ : δ ≤ 1600) (Pb : PsB T N c0 s h) (M : TkM h hl T N i) (i0 : 0 ≤ i) (pl : P.length ≤ 159) (h16 : h 336 16 = P.length) (hS : SR (h 341) P) (hQ : Q (vi (btwM (kF T N) i P)) (HS h hl b)) : WP G δ 0 0 MX9_betweenOf 0 [vr (336)] [] (HS h hl b) Q := by
  have g41 := M.sg (x := 41) (by decide) (by decide)
  rw [show tsg 41 = 60 by decide] at g41
  have g42 := M.sg (x := 42) (by decide) (by decide)
  rw [show tsg 42 = 4 by decide] at g42
  have g43 := M.sg (x := 43) (by decide) (by decide)
  rw [show tsg 43 = 62 by decide] at g43
  have g44 := M.sg (x := 44) (by decide) (by decide)
  rw [show tsg 44 = 5 by decide] at g44
  have g45 := M.sg (x := 45) (by decide) (by decide)
  rw [show tsg 45 = 61 by decide] at g45
  have g46 := M.sg (x := 46) (by decide) (by decide)
  rw [show tsg 46 = 35 by decide] at g46
  have g47 := M.sg (x := 47) (by decide) (by decide)
  rw [show tsg 47 = 43 by decide] at g47
  have g48 := M.sg (x := 48) (by decide) (by decide)
  rw [show tsg 48 = 45 by decide] at g48
  have g49 := M.sg (x := 49) (by decide) (by decide)
  rw [show tsg 49 = 42 by decide] at g49
  have g50 := M.sg (x := 50) (by decide) (by decide)
  rw [show tsg 50 = 47 by decide] at g50
  have g51 := M.sg (x := 51) (by decide) (by decide)
  rw [show tsg 51 = 40 by decide] at g51
  have g52 := M.sg (x := 52) (by decide) (by decide)
  rw [show tsg 52 = 41 by decide] at g52
  have g53 := M.sg (x := 53) (by decide) (by decide)
  rw [show tsg 53 = 59 by decide] at g53
  refine al_0 dX9_betweenOf_0 ?_
  refine g_X9_100 dX9_betweenOf_1 rfl tt336 ?_
  refine bi_43 dX9_betweenOf_4 ?_
  refine wp_icmp_ne 12 dX9_betweenOf_6 rfl (fun c6 => ?_) (fun c6 => ?_)
  · refine al_0 dX9_betweenOf_12 ?_
    refine g_X9_100 dX9_betweenOf_13 rfl tt336 ?_
    refine bi_45 dX9_betweenOf_16 ?_
    refine wp_icmp_ne 24 dX9_betweenOf_18 rfl (fun c18 => ?_) (fun c18 => ?_)
    · refine al_0 dX9_betweenOf_24 ?_
      refine g_X9_100 dX9_betweenOf_25 rfl tt336 ?_
      refine bi_42 dX9_betweenOf_28 ?_
      refine wp_icmp_ne 36 dX9_betweenOf_30 rfl (fun c30 => ?_) (fun c30 => ?_)
      · refine al_0 dX9_betweenOf_36 ?_
        refine g_X9_100 dX9_betweenOf_37 rfl tt336 ?_
        refine bi_47 dX9_betweenOf_40 ?_
        refine wp_icmp_ne 48 dX9_betweenOf_42 rfl (fun c42 => ?_) (fun c42 => ?_)
        · refine al_0 dX9_betweenOf_48 ?_
          have nar : ¬ (47 ≤ kF T N i ∧ kF T N i ≤ 50) := fun z => by
            rcases (show kF T N i = 47 ∨ kF T N i = 48 ∨ kF T N i = 49 ∨ kF T N i = 50 by omega) with q | q | q | q
            · have := g47.mpr q; omega
            · have := g48.mpr q; omega
            · have := g49.mpr q; omega
            · have := g50.mpr q; omega
          refine c_X9_172 dX9_betweenOf_49 rfl tt336 (Nat.le_of_ble_eq_true rfl) (by omega) ?_
          refine wX9_openNow (by omega) (by omega) h16 hS ?_
          refine pv_i ?_
          refine bi_42 dX9_betweenOf_52 ?_
          refine wp_icmp_eq 59 dX9_betweenOf_54 rfl (fun c54 => ?_) (fun c54 => ?_)
          · refine al_0 dX9_betweenOf_59 ?_
            refine c_X9_203 dX9_betweenOf_60 rfl tt336 (Nat.le_of_ble_eq_true rfl) (by omega) ?_
            refine wX9_isCompared (by omega) (by omega) h16 hS ?_
            refine pv_i ?_
            refine wp_if_ne 71 dX9_betweenOf_63 rfl (fun c63 => ?_) (fun c63 => ?_)
            · rw [b2i_n0] at c63
              refine al_0 dX9_betweenOf_71 ?_
              refine bi_97 dX9_betweenOf_72 ?_
              refine bi_110 dX9_betweenOf_74 ?_
              refine bi_100 dX9_betweenOf_76 ?_
              refine c_X9_126 dX9_betweenOf_78 rfl (Nat.le_of_ble_eq_true rfl) (by omega) ?_
              refine wX9_w3 (by omega) (by decide) (by decide) (by decide) (by decide) (by decide) (by decide) ?_
              refine pv_l ?_
              refine c_X9_190 dX9_betweenOf_81 rfl tt336 (Nat.le_of_ble_eq_true rfl) (by omega) ?_
              refine wX9_isWord (T := T) (N := N) (j := i) (x := 27) (by omega) M (by decide) (by decide) (by decide) (by decide) ?_
              refine pv_i ?_
              refine wp_if_eq 92 dX9_betweenOf_84 rfl (fun c84 => ?_) (fun c84 => ?_)
              · rw [b2i_0] at c84
                refine al_0 dX9_betweenOf_92 ?_
                refine bi_111 dX9_betweenOf_93 ?_
                refine bi_114 dX9_betweenOf_95 ?_
                refine c_X9_122 dX9_betweenOf_97 rfl (Nat.le_of_ble_eq_true rfl) (by omega) ?_
                refine wX9_w2 (by omega) (by decide) (by decide) (by decide) (by decide) ?_
                refine pv_l ?_
                refine c_X9_190 dX9_betweenOf_100 rfl tt336 (Nat.le_of_ble_eq_true rfl) (by omega) ?_
                refine wX9_isWord (T := T) (N := N) (j := i) (x := 26) (by omega) M (by decide) (by decide) (by decide) (by decide) ?_
                refine pv_i ?_
                refine wp_if_eq 111 dX9_betweenOf_103 rfl (fun c103 => ?_) (fun c103 => ?_)
                · rw [b2i_0] at c103
                  refine ic_m1 dX9_betweenOf_111 ?_
                  refine wp_ireti dX9_betweenOf_112 rfl ?_
                  refine qv hQ ?_
                  unfold btwM
                  rw [if_neg nar, if_neg (fun z => z c54), if_neg (fun z => by rw [c63] at z; cases z)]
                  first
                    | rw [if_pos c84]
                    | rw [if_neg c84, if_pos c103]
                    | rw [if_neg c84, if_neg c103]
                · rw [b2i_n0] at c103
                  refine bi_22 dX9_betweenOf_106 ?_
                  refine wp_goto 112 dX9_betweenOf_108 rfl ?_
                  refine wp_ireti dX9_betweenOf_112 rfl ?_
                  refine qv hQ ?_
                  unfold btwM
                  rw [if_neg nar, if_neg (fun z => z c54), if_neg (fun z => by rw [c63] at z; cases z)]
                  first
                    | rw [if_pos c84]
                    | rw [if_neg c84, if_pos c103]
                    | rw [if_neg c84, if_neg c103]
              · rw [b2i_n0] at c84
                refine bi_21 dX9_betweenOf_87 ?_
                refine wp_goto 112 dX9_betweenOf_89 rfl ?_
                refine wp_ireti dX9_betweenOf_112 rfl ?_
                refine qv hQ ?_
                unfold btwM
                rw [if_neg nar, if_neg (fun z => z c54), if_neg (fun z => by rw [c63] at z; cases z)]
                first
                  | rw [if_pos c84]
                  | rw [if_neg c84, if_pos c103]
                  | rw [if_neg c84, if_neg c103]
            · rw [b2i_0] at c63
              refine al_0 dX9_betweenOf_66 ?_
              refine c_X9_206 dX9_betweenOf_67 rfl tt336 (Nat.le_of_ble_eq_true rfl) (by omega) ?_
              refine wX9_compareOf (by omega) Pb M i0 ?_
              refine pv_i ?_
              refine wp_ireti dX9_betweenOf_70 rfl ?_
              refine qv hQ ?_
              unfold btwM
              rw [if_neg nar, if_neg (fun z => z c54), if_pos (by cases z : cmpB P; rfl; exact absurd z c63)]
          · refine ic_m1 dX9_betweenOf_57 ?_
            refine wp_ireti dX9_betweenOf_58 rfl ?_
            refine qv hQ ?_
            unfold btwM
            rw [if_neg nar, if_pos c54]
        · refine bi_9 dX9_betweenOf_45 ?_
          refine wp_ireti dX9_betweenOf_47 rfl ?_
          have e : kF T N i = 50 := g50.mp (by omega)
          refine qv hQ ?_
          unfold btwM
          rw [if_pos (by omega)]; omega
      · refine bi_8 dX9_betweenOf_33 ?_
        refine wp_ireti dX9_betweenOf_35 rfl ?_
        have e : kF T N i = 49 := g49.mp (by omega)
        refine qv hQ ?_
        unfold btwM
        rw [if_pos (by omega)]; omega
    · refine bi_7 dX9_betweenOf_21 ?_
      refine wp_ireti dX9_betweenOf_23 rfl ?_
      have e : kF T N i = 48 := g48.mp (by omega)
      refine qv hQ ?_
      unfold btwM
      rw [if_pos (by omega)]; omega
  · refine bi_6 dX9_betweenOf_9 ?_
    refine wp_ireti dX9_betweenOf_11 rfl ?_
    have e : kF T N i = 47 := g47.mp (by omega)
    refine qv hQ ?_
    unfold btwM
    rw [if_pos (by omega)]; omega

theorem wX9_partOf {G : GT} {δ : Nat} {h hl : Nat → Int → Int} {b : Bool × Bool} {Q : V → Hp → Prop} {p i N c0 s : Int} {T : Int → Int} {P : List Int} (hδ : δ ≤ 1600) (Pb : PsB T N c0 s h) (M : TkM h hl T N i) (i0 : 0 ≤ i) (pl : P.length ≤ 159) (h16 : h 336 16 = P.length) (hS : SR (h 341) P) (hp : p = opnP P) (hQ : Q (vi (prtM (kF T N) i P)) (HS h hl b)) : WP G δ 0 0 MX9_partOf 0 [vr (336), vi p] [] (HS h hl b) Q := by
  have g52 := M.sg (x := 52) (by decide) (by decide)
  rw [show tsg 52 = 41 by decide] at g52
  refine il_1 dX9_partOf_0 ?_
  rcases (show ((p) < 40 ∨ 44 < (p)) ∨ ((p) = 40) ∨ ((p) = 41) ∨ ((p) = 42) ∨ ((p) = 43) ∨ ((p) = 44) by omega) with c1 | c1 | c1 | c1 | c1 | c1
  · refine wp_tswD 130 dX9_partOf_1 (by omega) rfl ?_
    refine ic_m1 dX9_partOf_130 ?_
    refine wp_ireti dX9_partOf_131 rfl ?_
    refine qv hQ ?_
    unfold prtM
    rw [← hp, if_neg (by omega), if_neg (by omega), if_neg (by omega), if_neg (by omega)]
  · refine wp_tsw 36 dX9_partOf_1 (by omega) (by omega) (35) (by rw [c1]; rfl) rfl ?_
    refine al_0 dX9_partOf_36 ?_
    refine g_X9_100 dX9_partOf_37 rfl tt336 ?_
    refine bi_41 dX9_partOf_40 ?_
    refine wp_icmp_ne 49 dX9_partOf_42 rfl (fun c42 => ?_) (fun c42 => ?_)
    · refine ic_m1 dX9_partOf_49 ?_
      refine wp_ireti dX9_partOf_50 rfl ?_
      refine qv hQ ?_
      unfold prtM
      rw [← hp, if_pos (by omega)]
      first | rw [if_pos (g52.mp (by omega))] | rw [if_neg (fun z => by have := g52.mpr z; omega)]
    · refine ic_0 dX9_partOf_45 ?_
      refine wp_goto 50 dX9_partOf_46 rfl ?_
      refine wp_ireti dX9_partOf_50 rfl ?_
      refine qv hQ ?_
      unfold prtM
      rw [← hp, if_pos (by omega)]
      first | rw [if_pos (g52.mp (by omega))] | rw [if_neg (fun z => by have := g52.mpr z; omega)]
  · refine wp_tsw 130 dX9_partOf_1 (by omega) (by omega) (129) (by rw [c1]; rfl) rfl ?_
    refine ic_m1 dX9_partOf_130 ?_
    refine wp_ireti dX9_partOf_131 rfl ?_
    refine qv hQ ?_
    unfold prtM
    rw [← hp, if_neg (by omega), if_neg (by omega), if_neg (by omega), if_neg (by omega)]
  · refine wp_tsw 51 dX9_partOf_1 (by omega) (by omega) (50) (by rw [c1]; rfl) rfl ?_
    refine al_0 dX9_partOf_51 ?_
    refine bi_116 dX9_partOf_52 ?_
    refine bi_104 dX9_partOf_54 ?_
    refine bi_101 dX9_partOf_56 ?_
    refine bi_110 dX9_partOf_58 ?_
    refine c_X9_130 dX9_partOf_60 rfl (Nat.le_of_ble_eq_true rfl) (by omega) ?_
    refine wX9_w4 (by omega) (by decide) (by decide) (by decide) (by decide) (by decide) (by decide) (by decide) (by decide) ?_
    refine pv_l ?_
    refine c_X9_190 dX9_partOf_63 rfl tt336 (Nat.le_of_ble_eq_true rfl) (by omega) ?_
    refine wX9_isWord (T := T) (N := N) (j := i) (x := 23) (by omega) M (by decide) (by decide) (by decide) (by decide) ?_
    refine pv_i ?_
    refine wp_if_eq 81 dX9_partOf_66 rfl (fun c66 => ?_) (fun c66 => ?_)
    · rw [b2i_0] at c66
      refine ic_m1 dX9_partOf_81 ?_
      refine wp_ireti dX9_partOf_82 rfl ?_
      refine qv hQ ?_
      unfold prtM
      rw [← hp, if_neg (by omega), if_pos (by omega)]
      first
        | (have z1 : kF T N i = 23 := c66
           have z2 : cmpB P = true := c73
           rw [if_pos (And.intro z1 z2)])
        | (have z2 : ¬ cmpB P = true := c73
           rw [if_neg (fun z => z2 z.2)])
        | (have z2 : ¬ kF T N i = 23 := c66
           rw [if_neg (fun z => z2 z.1)])
    · rw [b2i_n0] at c66
      refine al_0 dX9_partOf_69 ?_
      refine c_X9_203 dX9_partOf_70 rfl tt336 (Nat.le_of_ble_eq_true rfl) (by omega) ?_
      refine wX9_isCompared (by omega) (by omega) h16 hS ?_
      refine pv_i ?_
      refine wp_if_eq 81 dX9_partOf_73 rfl (fun c73 => ?_) (fun c73 => ?_)
      · rw [b2i_0] at c73
        refine ic_m1 dX9_partOf_81 ?_
        refine wp_ireti dX9_partOf_82 rfl ?_
        refine qv hQ ?_
        unfold prtM
        rw [← hp, if_neg (by omega), if_pos (by omega)]
        first
          | (have z1 : kF T N i = 23 := c66
             have z2 : cmpB P = true := c73
             rw [if_pos (And.intro z1 z2)])
          | (have z2 : ¬ cmpB P = true := c73
             rw [if_neg (fun z => z2 z.2)])
          | (have z2 : ¬ kF T N i = 23 := c66
             rw [if_neg (fun z => z2 z.1)])
      · rw [b2i_n0] at c73
        refine bi_43 dX9_partOf_76 ?_
        refine wp_goto 82 dX9_partOf_78 rfl ?_
        refine wp_ireti dX9_partOf_82 rfl ?_
        refine qv hQ ?_
        unfold prtM
        rw [← hp, if_neg (by omega), if_pos (by omega)]
        first
          | (have z1 : kF T N i = 23 := c66
             have z2 : cmpB P = true := c73
             rw [if_pos (And.intro z1 z2)])
          | (have z2 : ¬ cmpB P = true := c73
             rw [if_neg (fun z => z2 z.2)])
          | (have z2 : ¬ kF T N i = 23 := c66
             rw [if_neg (fun z => z2 z.1)])
  · refine wp_tsw 83 dX9_partOf_1 (by omega) (by omega) (82) (by rw [c1]; rfl) rfl ?_
    refine al_0 dX9_partOf_83 ?_
    refine bi_101 dX9_partOf_84 ?_
    refine bi_108 dX9_partOf_86 ?_
    refine bi_115 dX9_partOf_88 ?_
    refine bi_101 dX9_partOf_90 ?_
    refine c_X9_130 dX9_partOf_92 rfl (Nat.le_of_ble_eq_true rfl) (by omega) ?_
    refine wX9_w4 (by omega) (by decide) (by decide) (by decide) (by decide) (by decide) (by decide) (by decide) (by decide) ?_
    refine pv_l ?_
    refine c_X9_190 dX9_partOf_95 rfl tt336 (Nat.le_of_ble_eq_true rfl) (by omega) ?_
    refine wX9_isWord (T := T) (N := N) (j := i) (x := 24) (by omega) M (by decide) (by decide) (by decide) (by decide) ?_
    refine pv_i ?_
    refine wp_if_eq 106 dX9_partOf_98 rfl (fun c98 => ?_) (fun c98 => ?_)
    · rw [b2i_0] at c98
      refine ic_m1 dX9_partOf_106 ?_
      refine wp_ireti dX9_partOf_107 rfl ?_
      refine qv hQ ?_
      unfold prtM
      rw [← hp, if_neg (by omega), if_neg (by omega), if_pos (by omega)]
      first | rw [if_pos c98] | rw [if_neg c98]
    · rw [b2i_n0] at c98
      refine bi_44 dX9_partOf_101 ?_
      refine wp_goto 107 dX9_partOf_103 rfl ?_
      refine wp_ireti dX9_partOf_107 rfl ?_
      refine qv hQ ?_
      unfold prtM
      rw [← hp, if_neg (by omega), if_neg (by omega), if_pos (by omega)]
      first | rw [if_pos c98] | rw [if_neg c98]
  · refine wp_tsw 108 dX9_partOf_1 (by omega) (by omega) (107) (by rw [c1]; rfl) rfl ?_
    refine al_0 dX9_partOf_108 ?_
    refine bi_101 dX9_partOf_109 ?_
    refine bi_110 dX9_partOf_111 ?_
    refine bi_100 dX9_partOf_113 ?_
    refine c_X9_126 dX9_partOf_115 rfl (Nat.le_of_ble_eq_true rfl) (by omega) ?_
    refine wX9_w3 (by omega) (by decide) (by decide) (by decide) (by decide) (by decide) (by decide) ?_
    refine pv_l ?_
    refine c_X9_190 dX9_partOf_118 rfl tt336 (Nat.le_of_ble_eq_true rfl) (by omega) ?_
    refine wX9_isWord (T := T) (N := N) (j := i) (x := 25) (by omega) M (by decide) (by decide) (by decide) (by decide) ?_
    refine pv_i ?_
    refine wp_if_eq 128 dX9_partOf_121 rfl (fun c121 => ?_) (fun c121 => ?_)
    · rw [b2i_0] at c121
      refine ic_m1 dX9_partOf_128 ?_
      refine wp_ireti dX9_partOf_129 rfl ?_
      refine qv hQ ?_
      unfold prtM
      rw [← hp, if_neg (by omega), if_neg (by omega), if_neg (by omega), if_pos (by omega)]
      first | rw [if_pos c121] | rw [if_neg c121]
    · rw [b2i_n0] at c121
      refine ic_0 dX9_partOf_124 ?_
      refine wp_goto 129 dX9_partOf_125 rfl ?_
      refine wp_ireti dX9_partOf_129 rfl ?_
      refine qv hQ ?_
      unfold prtM
      rw [← hp, if_neg (by omega), if_neg (by omega), if_neg (by omega), if_pos (by omega)]
      first | rw [if_pos c121] | rw [if_neg c121]

theorem wX9_beginOne {G : GT} {δ : Nat} {h hl : Nat → Int → Int} {b : Bool × Bool} {Q : V → Hp → Prop} {i o N c0 s : Int} {T : Int → Int} {P : List Int} {W : MCd} (hδ : δ ≤ 1570) (Pb : PsB T N c0 s h) (M : TkM h hl T N i) (i0 : 0 ≤ i) (pl : P.length ≤ 159) (wp : W.length + P.length ≤ 302) (ol : -1000 ≤ o - P.length ∧ o ≤ 1000) (h16 : h 336 16 = P.length) (hS : SR (h 341) P) (h17 : h 336 17 = o) (hW : Wt h c0 W) (h18 : h 336 18 = 0) (hQ : PQ T N c0 h b Q (begM (kF T N) (vF T N) s i P o W)) : WP G δ 0 0 MX9_beginOne 0 [vr (336), vn] [] (HS h hl b) Q := by
  have Pc := Pb
  obtain ⟨⟨hN, hT, h12, h14⟩, hc, B, s01⟩ := Pb
  have kr := kF_R (T := T) (N := N) i
  have t1 := M.n1
  have hnum := M.num
  have g51 := M.sg (x := 51) (by decide) (by decide)
  rw [show tsg 51 = 40 by decide] at g51
  have g48 := M.sg (x := 48) (by decide) (by decide)
  rw [show tsg 48 = 45 by decide] at g48
  obtain ⟨v, hv⟩ : ∃ v, v = (if kF T N i < 10 then m2c (kF T N i) else -1) := ⟨_, rfl⟩
  have mr := m2c_R (k := kF T N i) kr.1
  have vr1 : kF T N i < 10 → v = m2c (kF T N i) := fun z => by rw [hv, if_pos z]
  have vr2 : ¬ kF T N i < 10 → v = -1 := fun z => by rw [hv, if_neg z]
  have T93 : ¬ kF T N i = 40 → ¬ kF T N i < 10 → WP G δ 0 0 MX9_beginOne 93 [vr 336, vi v] [] (HS h hl b) Q := by
      intro n40 n10
      refine al_0 dX9_beginOne_93 ?_
      refine g_X9_100 dX9_beginOne_94 rfl tt336 ?_
      refine bi_40 dX9_beginOne_97 ?_
      refine wp_icmp_ne 109 dX9_beginOne_99 rfl (fun c99 => ?_) (fun c99 => ?_)
      · have g51' := g51.mpr
        have n51 : ¬ kF T N i = 51 := fun z => c99 (g51.mpr z)
        refine al_0 dX9_beginOne_109 ?_
        refine g_X9_100 dX9_beginOne_110 rfl tt336 ?_
        refine bi_45 dX9_beginOne_113 ?_
        refine wp_icmp_ne 124 dX9_beginOne_115 rfl (fun c115 => ?_) (fun c115 => ?_)
        · have n48 : ¬ kF T N i = 48 := fun z => c115 (g48.mpr z)
          refine al_0 dX9_beginOne_124 ?_
          refine bi_97 dX9_beginOne_125 ?_
          refine bi_114 dX9_beginOne_127 ?_
          refine bi_111 dX9_beginOne_129 ?_
          refine bi_117 dX9_beginOne_131 ?_
          refine bi_110 dX9_beginOne_133 ?_
          refine bi_100 dX9_beginOne_135 ?_
          refine c_X9_144 dX9_beginOne_137 rfl (Nat.le_of_ble_eq_true rfl) (by omega) ?_
          refine wX9_w6 (by omega) (by decide) (by decide) (by decide) (by decide) (by decide) (by decide) (by decide) (by decide) (by decide) (by decide) (by decide) (by decide) ?_
          refine pv_l ?_
          refine c_X9_190 dX9_beginOne_140 rfl tt336 (Nat.le_of_ble_eq_true rfl) (by omega) ?_
          refine wX9_isWord (T := T) (N := N) (j := i) (x := 19) (by omega) M (by decide) (by decide) (by decide) (by decide) ?_
          refine pv_i ?_
          refine wp_if_eq 153 dX9_beginOne_143 rfl (fun c143 => ?_) (fun c143 => ?_)
          · rw [b2i_0] at c143
            refine al_0 dX9_beginOne_153 ?_
            refine bi_108 dX9_beginOne_154 ?_
            refine bi_97 dX9_beginOne_156 ?_
            refine bi_109 dX9_beginOne_158 ?_
            refine bi_112 dX9_beginOne_160 ?_
            refine c_X9_130 dX9_beginOne_162 rfl (Nat.le_of_ble_eq_true rfl) (by omega) ?_
            refine wX9_w4 (by omega) (by decide) (by decide) (by decide) (by decide) (by decide) (by decide) (by decide) (by decide) ?_
            refine pv_l ?_
            refine c_X9_190 dX9_beginOne_165 rfl tt336 (Nat.le_of_ble_eq_true rfl) (by omega) ?_
            refine wX9_isWord (T := T) (N := N) (j := i) (x := 21) (by omega) M (by decide) (by decide) (by decide) (by decide) ?_
            refine pv_i ?_
            refine wp_if_eq 177 dX9_beginOne_168 rfl (fun c168 => ?_) (fun c168 => ?_)
            · rw [b2i_0] at c168
              refine al_0 dX9_beginOne_177 ?_
              refine bi_105 dX9_beginOne_178 ?_
              refine bi_102 dX9_beginOne_180 ?_
              refine c_X9_122 dX9_beginOne_182 rfl (Nat.le_of_ble_eq_true rfl) (by omega) ?_
              refine wX9_w2 (by omega) (by decide) (by decide) (by decide) (by decide) ?_
              refine pv_l ?_
              refine c_X9_190 dX9_beginOne_185 rfl tt336 (Nat.le_of_ble_eq_true rfl) (by omega) ?_
              refine wX9_isWord (T := T) (N := N) (j := i) (x := 22) (by omega) M (by decide) (by decide) (by decide) (by decide) ?_
              refine pv_i ?_
              refine wp_if_eq 198 dX9_beginOne_188 rfl (fun c188 => ?_) (fun c188 => ?_)
              · rw [b2i_0] at c188
                refine al_0 dX9_beginOne_198 ?_
                refine bi_110 dX9_beginOne_199 ?_
                refine bi_111 dX9_beginOne_201 ?_
                refine bi_116 dX9_beginOne_203 ?_
                refine c_X9_126 dX9_beginOne_205 rfl (Nat.le_of_ble_eq_true rfl) (by omega) ?_
                refine wX9_w3 (by omega) (by decide) (by decide) (by decide) (by decide) (by decide) (by decide) ?_
                refine pv_l ?_
                refine c_X9_190 dX9_beginOne_208 rfl tt336 (Nat.le_of_ble_eq_true rfl) (by omega) ?_
                refine wX9_isWord (T := T) (N := N) (j := i) (x := 28) (by omega) M (by decide) (by decide) (by decide) (by decide) ?_
                refine pv_i ?_
                refine wp_if_eq 230 dX9_beginOne_211 rfl (fun c211 => ?_) (fun c211 => ?_)
                · rw [b2i_0] at c211
                  refine ic_1 dX9_beginOne_230 ?_
                  refine wp_ireti dX9_beginOne_231 rfl ?_
                  first
                    | exact hQ
                    | (have e : begM (kF T N) (vF T N) s i P o W = .inl (1, i) := by
                         unfold begM
                         rw [if_neg (by omega), if_neg (by omega), if_neg (by omega), if_neg (by omega), if_neg (by omega), if_neg (by omega), if_neg (by omega), if_neg (by omega), if_neg (by omega)]
                         first
                           | rw [if_neg (fun z => c211 z.1)]
                           | rw [if_neg (fun z => c218 z.2)]
                       rw [e] at hQ
                       exact hQ h hl PsE.rf M.2.1)
                · rw [b2i_n0] at c211
                  refine al_0 dX9_beginOne_214 ?_
                  refine c_X9_194 dX9_beginOne_215 rfl tt336 (Nat.le_of_ble_eq_true rfl) (by omega) ?_
                  refine wX9_isAskAhead (by omega) (by omega) h16 hS ?_
                  refine pv_i ?_
                  refine wp_if_eq 230 dX9_beginOne_218 rfl (fun c218 => ?_) (fun c218 => ?_)
                  · rw [b2i_0] at c218
                    refine ic_1 dX9_beginOne_230 ?_
                    refine wp_ireti dX9_beginOne_231 rfl ?_
                    first
                      | exact hQ
                      | (have e : begM (kF T N) (vF T N) s i P o W = .inl (1, i) := by
                           unfold begM
                           rw [if_neg (by omega), if_neg (by omega), if_neg (by omega), if_neg (by omega), if_neg (by omega), if_neg (by omega), if_neg (by omega), if_neg (by omega), if_neg (by omega)]
                           first
                             | rw [if_neg (fun z => c211 z.1)]
                             | rw [if_neg (fun z => c218 z.2)]
                         rw [e] at hQ
                         exact hQ h hl PsE.rf M.2.1)
                  · rw [b2i_n0] at c218
                    refine al_0 dX9_beginOne_221 ?_
                    refine bi_20 dX9_beginOne_222 ?_
                    refine c_X9_187 dX9_beginOne_224 rfl tt336 (Nat.le_of_ble_eq_true rfl) (by omega) ?_
                    have e : begM (kF T N) (vF T N) s i P o W = opdM 20 i P o W := by
                      unfold begM
                      rw [if_neg (by omega), if_neg (by omega), if_neg (by omega), if_neg (by omega), if_neg (by omega), if_neg (by omega), if_neg (by omega), if_neg (by omega), if_neg (by omega), if_pos ⟨c211, c218⟩]
                    refine wX9_opened (x := 20) (by omega) Pc M i0 (by omega) (by omega) ol h16 hS h17 hW h18 ?_
                    rw [e] at hQ
                    refine PQ.mono hQ (fun x h1 hl1 hQ => ?_)
                    refine pv_i ?_
                    refine wp_goto 231 dX9_beginOne_227 rfl ?_
                    refine wp_ireti dX9_beginOne_231 rfl ?_
                    first
                      | exact hQ
                      | (have e : begM (kF T N) (vF T N) s i P o W = .inl (1, i) := by
                           unfold begM
                           rw [if_neg (by omega), if_neg (by omega), if_neg (by omega), if_neg (by omega), if_neg (by omega), if_neg (by omega), if_neg (by omega), if_neg (by omega), if_neg (by omega)]
                           first
                             | rw [if_neg (fun z => c211 z.1)]
                             | rw [if_neg (fun z => c218 z.2)]
                         rw [e] at hQ
                         exact hQ h hl PsE.rf M.2.1)
              · rw [b2i_n0] at c188
                refine al_0 dX9_beginOne_191 ?_
                refine bi_42 dX9_beginOne_192 ?_
                refine c_X9_187 dX9_beginOne_194 rfl tt336 (Nat.le_of_ble_eq_true rfl) (by omega) ?_
                have e : begM (kF T N) (vF T N) s i P o W = opdM 42 i P o W := by
                  unfold begM
                  repeat first | rw [if_neg (by omega)] | rw [if_pos (by omega)]
                refine wX9_opened (x := 42) (by omega) Pc M i0 (by omega) (by omega) ol h16 hS h17 hW h18 ?_
                rw [e] at hQ
                refine PQ.mono hQ (fun x h1 hl1 hQ => ?_)
                refine pv_i ?_
                refine wp_ireti dX9_beginOne_197 rfl ?_
                exact hQ
            · rw [b2i_n0] at c168
              refine al_0 dX9_beginOne_171 ?_
              refine ic_2 dX9_beginOne_172 ?_
              refine c_X9_187 dX9_beginOne_173 rfl tt336 (Nat.le_of_ble_eq_true rfl) (by omega) ?_
              have e : begM (kF T N) (vF T N) s i P o W = opdM 2 i P o W := by
                unfold begM
                repeat first | rw [if_neg (by omega)] | rw [if_pos (by omega)]
              refine wX9_opened (x := 2) (by omega) Pc M i0 (by omega) (by omega) ol h16 hS h17 hW h18 ?_
              rw [e] at hQ
              refine PQ.mono hQ (fun x h1 hl1 hQ => ?_)
              refine pv_i ?_
              refine wp_ireti dX9_beginOne_176 rfl ?_
              exact hQ
          · rw [b2i_n0] at c143
            refine al_0 dX9_beginOne_146 ?_
            refine bi_41 dX9_beginOne_147 ?_
            refine c_X9_187 dX9_beginOne_149 rfl tt336 (Nat.le_of_ble_eq_true rfl) (by omega) ?_
            have e : begM (kF T N) (vF T N) s i P o W = opdM 41 i P o W := by
              unfold begM
              repeat first | rw [if_neg (by omega)] | rw [if_pos (by omega)]
            refine wX9_opened (x := 41) (by omega) Pc M i0 (by omega) (by omega) ol h16 hS h17 hW h18 ?_
            rw [e] at hQ
            refine PQ.mono hQ (fun x h1 hl1 hQ => ?_)
            refine pv_i ?_
            refine wp_ireti dX9_beginOne_152 rfl ?_
            exact hQ
        · have k48 := g48.mp (by omega)
          refine al_0 dX9_beginOne_118 ?_
          refine ic_5 dX9_beginOne_119 ?_
          refine c_X9_187 dX9_beginOne_120 rfl tt336 (Nat.le_of_ble_eq_true rfl) (by omega) ?_
          have e : begM (kF T N) (vF T N) s i P o W = opdM 5 i P o W := by
            unfold begM
            repeat first | rw [if_neg (by omega)] | rw [if_pos (by omega)]
          refine wX9_opened (x := 5) (by omega) Pc M i0 (by omega) (by omega) ol h16 hS h17 hW h18 ?_
          rw [e] at hQ
          refine PQ.mono hQ (fun x h1 hl1 hQ => ?_)
          refine pv_i ?_
          refine wp_ireti dX9_beginOne_123 rfl ?_
          exact hQ
      · have k51 := g51.mp (by omega)
        refine al_0 dX9_beginOne_102 ?_
        refine bi_40 dX9_beginOne_103 ?_
        refine c_X9_187 dX9_beginOne_105 rfl tt336 (Nat.le_of_ble_eq_true rfl) (by omega) ?_
        have e : begM (kF T N) (vF T N) s i P o W = opdM 40 i P o W := by
          unfold begM
          repeat first | rw [if_neg (by omega)] | rw [if_pos (by omega)]
        refine wX9_opened (x := 40) (by omega) Pc M i0 (by omega) (by omega) ol h16 hS h17 hW h18 ?_
        rw [e] at hQ
        refine PQ.mono hQ (fun x h1 hl1 hQ => ?_)
        refine pv_i ?_
        refine wp_ireti dX9_beginOne_108 rfl ?_
        exact hQ
  have T81 : ∀ o' v' : Int, begM (kF T N) (vF T N) s i P o W = endM (kF T N) (i + 1) P o (W ++ [(o', v')]) → WP G δ 0 0 MX9_beginOne 81 [vr 336, vi v] [vi v', vi o', vr 336] (HS h hl b) Q := by
      intro o' v' e
      refine c_X9_161 dX9_beginOne_81 rfl tt336 (Nat.le_of_ble_eq_true rfl) (by omega) ?_
      refine wX9_emit (c0 := c0) (W := W) (by omega) h12 hc hW (by omega) (fun h1 E1 F1 G1 W1 => ?_)
      have Ea : PsE c0 h h1 := ⟨E1.mono (by decide), fun k hk => F1 k (fun z => hk (by unfold psK; omega)), G1⟩
      obtain ⟨⟨gN, gT, g12, g14⟩, -⟩ := Pc.c Ea
      refine pv_n ?_
      refine al_0 dX9_beginOne_84 ?_
      refine c_X9_175 dX9_beginOne_85 rfl tt336 (Nat.le_of_ble_eq_true rfl) (by omega) ?_
      refine wX9_nextTokenM (T := T) (N := N) (j := i) (by omega) gN gT B (by omega) (by rw [F1 7 (by decide)]; exact M.1) (fun h2 hl2 E2 M2 => ?_)
      have Eb : PsE c0 h h2 := Ea.tk E2
      have wl1 : (W ++ [(o', v')]).length = W.length + 1 := by simp
      refine pv_n ?_
      refine al_0 dX9_beginOne_88 ?_
      refine c_X9_184 dX9_beginOne_89 rfl tt336 (Nat.le_of_ble_eq_true rfl) (by omega) ?_
      refine wX9_endOne (T := T) (N := N) (i := i + 1) (P := P) (o := o) (W := W ++ [(o', v')]) (by omega) (Pc.c Eb) M2 (by omega) (by omega) (by omega) (by omega) (by rw [E2.2 16 (by decide) (by decide) (by decide) (by decide), F1 16 (by decide)]; exact h16) (by rw [E2.1 341 (by decide), E1 341 (by decide)]; exact hS) (by rw [E2.2 17 (by decide) (by decide) (by decide) (by decide), F1 17 (by decide)]; exact h17) (W1.c (E2.2 13 (by decide) (by decide) (by decide) (by decide)) (fun k _ _ => by rw [E2.1 339 (by decide)])) ?_
      rw [e] at hQ
      refine PQ.mono (hQ.c Eb) (fun x h3 hl3 hQ => ?_)
      refine pv_i ?_
      refine wp_ireti dX9_beginOne_92 rfl ?_
      exact hQ
  have T39 : ¬ (kF T N i = 40 ∧ 9999 < vF T N i) → ¬ (kF T N i < 10 ∧ ((s = 0 ∧ kF T N i = 9) ∨ (¬ s = 0 ∧ (kF T N i = 7 ∨ kF T N i = 8)))) → WP G δ 0 0 MX9_beginOne 39 [vr 336, vi v] [] (HS h hl b) Q := by
      intro nz nb
      refine al_0 dX9_beginOne_39 ?_
      refine g_X9_100 dX9_beginOne_40 rfl tt336 ?_
      refine ic_1 dX9_beginOne_43 ?_
      refine wp_icmp_eq 51 dX9_beginOne_44 rfl (fun c44 => ?_) (fun c44 => ?_)
      · refine al_0 dX9_beginOne_51 ?_
        refine al_0 dX9_beginOne_52 ?_
        refine g_X9_100 dX9_beginOne_53 rfl tt336 ?_
        refine ic_1 dX9_beginOne_56 ?_
        refine wp_icmp_ne 64 dX9_beginOne_57 rfl (fun c57 => ?_) (fun c57 => ?_)
        · refine ic_1 dX9_beginOne_64 ?_
          refine al_0 dX9_beginOne_65 ?_
          refine g_X9_100 dX9_beginOne_66 rfl tt336 ?_
          refine ic_1 dX9_beginOne_69 ?_
          refine wp_icmp_ne 80 dX9_beginOne_70 rfl (fun c70 => ?_) (fun c70 => ?_)
          · refine il_1 dX9_beginOne_80 ?_
            first
              | (exfalso; omega)
              | exact T81 0 (vF T N i) (by unfold begM; rw [if_neg (by omega), if_neg (by omega), if_pos (by omega)])
              | exact T81 1 v (by rw [vr1 (by omega)]; unfold begM; rw [if_neg (by omega), if_neg (by omega), if_neg (by omega), if_pos (by omega)])
          · refine al_0 dX9_beginOne_73 ?_
            refine g_X9_106 dX9_beginOne_74 rfl tt336 ?_
            first
              | (rw [show h 336 10 = vF T N i by have := hnum (by omega); omega])
              | skip
            refine wp_goto 81 dX9_beginOne_77 rfl ?_
            first
              | (exfalso; omega)
              | exact T81 0 (vF T N i) (by unfold begM; rw [if_neg (by omega), if_neg (by omega), if_pos (by omega)])
              | exact T81 1 v (by rw [vr1 (by omega)]; unfold begM; rw [if_neg (by omega), if_neg (by omega), if_neg (by omega), if_pos (by omega)])
        · refine ic_0 dX9_beginOne_60 ?_
          refine wp_goto 65 dX9_beginOne_61 rfl ?_
          refine al_0 dX9_beginOne_65 ?_
          refine g_X9_100 dX9_beginOne_66 rfl tt336 ?_
          refine ic_1 dX9_beginOne_69 ?_
          refine wp_icmp_ne 80 dX9_beginOne_70 rfl (fun c70 => ?_) (fun c70 => ?_)
          · refine il_1 dX9_beginOne_80 ?_
            first
              | (exfalso; omega)
              | exact T81 0 (vF T N i) (by unfold begM; rw [if_neg (by omega), if_neg (by omega), if_pos (by omega)])
              | exact T81 1 v (by rw [vr1 (by omega)]; unfold begM; rw [if_neg (by omega), if_neg (by omega), if_neg (by omega), if_pos (by omega)])
          · refine al_0 dX9_beginOne_73 ?_
            refine g_X9_106 dX9_beginOne_74 rfl tt336 ?_
            first
              | (rw [show h 336 10 = vF T N i by have := hnum (by omega); omega])
              | skip
            refine wp_goto 81 dX9_beginOne_77 rfl ?_
            first
              | (exfalso; omega)
              | exact T81 0 (vF T N i) (by unfold begM; rw [if_neg (by omega), if_neg (by omega), if_pos (by omega)])
              | exact T81 1 v (by rw [vr1 (by omega)]; unfold begM; rw [if_neg (by omega), if_neg (by omega), if_neg (by omega), if_pos (by omega)])
      · refine il_1 dX9_beginOne_47 ?_
        refine wp_if_lt 93 dX9_beginOne_48 rfl (fun c48 => ?_) (fun c48 => ?_)
        · first
            | (exfalso; omega)
            | exact T93 (by omega) (by omega)
        · refine al_0 dX9_beginOne_51 ?_
          refine al_0 dX9_beginOne_52 ?_
          refine g_X9_100 dX9_beginOne_53 rfl tt336 ?_
          refine ic_1 dX9_beginOne_56 ?_
          refine wp_icmp_ne 64 dX9_beginOne_57 rfl (fun c57 => ?_) (fun c57 => ?_)
          · refine ic_1 dX9_beginOne_64 ?_
            refine al_0 dX9_beginOne_65 ?_
            refine g_X9_100 dX9_beginOne_66 rfl tt336 ?_
            refine ic_1 dX9_beginOne_69 ?_
            refine wp_icmp_ne 80 dX9_beginOne_70 rfl (fun c70 => ?_) (fun c70 => ?_)
            · refine il_1 dX9_beginOne_80 ?_
              first
                | (exfalso; omega)
                | exact T81 0 (vF T N i) (by unfold begM; rw [if_neg (by omega), if_neg (by omega), if_pos (by omega)])
                | exact T81 1 v (by rw [vr1 (by omega)]; unfold begM; rw [if_neg (by omega), if_neg (by omega), if_neg (by omega), if_pos (by omega)])
            · refine al_0 dX9_beginOne_73 ?_
              refine g_X9_106 dX9_beginOne_74 rfl tt336 ?_
              first
                | (rw [show h 336 10 = vF T N i by have := hnum (by omega); omega])
                | skip
              refine wp_goto 81 dX9_beginOne_77 rfl ?_
              first
                | (exfalso; omega)
                | exact T81 0 (vF T N i) (by unfold begM; rw [if_neg (by omega), if_neg (by omega), if_pos (by omega)])
                | exact T81 1 v (by rw [vr1 (by omega)]; unfold begM; rw [if_neg (by omega), if_neg (by omega), if_neg (by omega), if_pos (by omega)])
          · refine ic_0 dX9_beginOne_60 ?_
            refine wp_goto 65 dX9_beginOne_61 rfl ?_
            refine al_0 dX9_beginOne_65 ?_
            refine g_X9_100 dX9_beginOne_66 rfl tt336 ?_
            refine ic_1 dX9_beginOne_69 ?_
            refine wp_icmp_ne 80 dX9_beginOne_70 rfl (fun c70 => ?_) (fun c70 => ?_)
            · refine il_1 dX9_beginOne_80 ?_
              first
                | (exfalso; omega)
                | exact T81 0 (vF T N i) (by unfold begM; rw [if_neg (by omega), if_neg (by omega), if_pos (by omega)])
                | exact T81 1 v (by rw [vr1 (by omega)]; unfold begM; rw [if_neg (by omega), if_neg (by omega), if_neg (by omega), if_pos (by omega)])
            · refine al_0 dX9_beginOne_73 ?_
              refine g_X9_106 dX9_beginOne_74 rfl tt336 ?_
              first
                | (rw [show h 336 10 = vF T N i by have := hnum (by omega); omega])
                | skip
              refine wp_goto 81 dX9_beginOne_77 rfl ?_
              first
                | (exfalso; omega)
                | exact T81 0 (vF T N i) (by unfold begM; rw [if_neg (by omega), if_neg (by omega), if_pos (by omega)])
                | exact T81 1 v (by rw [vr1 (by omega)]; unfold begM; rw [if_neg (by omega), if_neg (by omega), if_neg (by omega), if_pos (by omega)])
  have T20 : ¬ (kF T N i = 40 ∧ 9999 < vF T N i) → WP G δ 0 0 MX9_beginOne 20 [vr 336, vn] [] (HS h hl b) Q := by
      intro nz
      refine al_0 dX9_beginOne_20 ?_
      refine c_X9_178 dX9_beginOne_21 rfl tt336 (Nat.le_of_ble_eq_true rfl) (by omega) ?_
      refine wX9_nameOf (by omega) Pc M i0 ?_
      rw [← hv]
      refine pv_i ?_
      refine is_1 dX9_beginOne_24 rfl (by decide) ?_
      refine il_1 dX9_beginOne_25 ?_
      refine wp_if_lt 39 dX9_beginOne_26 rfl (fun c26 => ?_) (fun c26 => ?_)
      · exact T39 nz (by first | omega | (intro z; omega))
      · refine al_0 dX9_beginOne_29 ?_
        refine il_1 dX9_beginOne_30 ?_
        refine c_X9_181 dX9_beginOne_31 rfl tt336 (Nat.le_of_ble_eq_true rfl) (by omega) ?_
        refine wX9_isOf (by omega) h14 s01 ?_
        refine pv_i ?_
        refine wp_if_ne 39 dX9_beginOne_34 rfl (fun c34 => ?_) (fun c34 => ?_)
        · rw [b2i_n0] at c34
          exact T39 nz (by first | omega | (intro z; omega))
        · rw [b2i_0] at c34
          refine ic_5 dX9_beginOne_37 ?_
          refine wp_ireti dX9_beginOne_38 rfl ?_
          have e : begM (kF T N) (vF T N) s i P o W = .inl (5, i) := by
            unfold begM
            rw [if_neg nz, if_pos (by omega)]
          rw [e] at hQ
          exact hQ h hl PsE.rf M.2.1
  refine al_0 dX9_beginOne_0 ?_
  refine g_X9_100 dX9_beginOne_1 rfl tt336 ?_
  refine ic_1 dX9_beginOne_4 ?_
  refine wp_icmp_ne 20 dX9_beginOne_5 rfl (fun c5 => ?_) (fun c5 => ?_)
  · exact T20 (fun z => by have := hnum z.1; omega)
  · refine al_0 dX9_beginOne_8 ?_
    refine g_X9_106 dX9_beginOne_9 rfl tt336 ?_
    refine si_9999 dX9_beginOne_12 ?_
    refine wp_icmp_le 20 dX9_beginOne_15 rfl (fun c15 => ?_) (fun c15 => ?_)
    · exact T20 (fun z => by have := hnum z.1; omega)
    · refine ic_2 dX9_beginOne_18 ?_
      refine wp_ireti dX9_beginOne_19 rfl ?_
      have e : begM (kF T N) (vF T N) s i P o W = .inl (2, i) := by
        unfold begM
        rw [if_pos ⟨by omega, by have := hnum (by omega); omega⟩]
      rw [e] at hQ
      exact hQ h hl PsE.rf M.2.1

theorem wX9_behindOne {G : GT} {δ : Nat} {h hl : Nat → Int → Int} {b : Bool × Bool} {Q : V → Hp → Prop} {n i o N c0 s : Int} {T : Int → Int} {P : List Int} {W : MCd} (hδ : δ ≤ 1570) (Pb : PsB T N c0 s h) (M : TkM h hl T N i) (i0 : 0 ≤ i) (h16 : h 336 16 = P.length) (hS : SR (h 341) P) (h17 : h 336 17 = o) (hW : Wt h c0 W) (I : MInv n (i, P, o, W, true)) (t : TkE (kF T N) n) (hq : ∀ r, behM (kF T N) i P o W = some r → PQ T N c0 h b Q r) (hQ : behM (kF T N) i P o W = none → Q (vi (-1)) (HS h hl b)) : WP G δ 0 0 MX9_behindOne 0 [vr (336), vn, vn, vn] [] (HS h hl b) Q := by
  have Pc := Pb
  obtain ⟨⟨hN, hT, h12, h14⟩, hc, B, s01⟩ := Pb
  obtain ⟨I0, I1, I2, I3, I4, I5⟩ := I
  have I0 : 0 ≤ i := I0
  have I1 : i ≤ n - 1 := I1
  have I2 : wl P := I2
  have I3 : cntP P = o := I3
  have I4 : o ≤ 8 := I4
  have I5 : (W.length : Int) + P.length ≤ i := I5
  have I6 := wl_len P I2
  have I7 := bndT_R (P := P)
  have I8 := cntP_R P
  have tn := t.2.1
  have bR := btwM_R (K := kF T N) (i := i) (P := P)
  have pR := prtM_R (K := kF T N) (i := i) (P := P)
  obtain ⟨x, hx⟩ : ∃ x, x = btwM (kF T N) i P := ⟨_, rfl⟩
  obtain ⟨y, hy⟩ : ∃ y, y = prtM (kF T N) i P := ⟨_, rfl⟩
  refine al_0 dX9_behindOne_0 ?_
  refine c_X9_209 dX9_behindOne_1 rfl tt336 (Nat.le_of_ble_eq_true rfl) (by omega) ?_
  refine wX9_betweenOf (by omega) Pc M i0 (by omega) h16 hS ?_
  rw [← hx]
  refine pv_i ?_
  refine is_1 dX9_behindOne_4 rfl (by decide) ?_
  refine il_1 dX9_behindOne_5 ?_
  refine wp_if_lt 60 dX9_behindOne_6 rfl (fun c6 => ?_) (fun c6 => ?_)
  · refine al_0 dX9_behindOne_60 ?_
    refine c_X9_172 dX9_behindOne_61 rfl tt336 (Nat.le_of_ble_eq_true rfl) (by omega) ?_
    refine wX9_openNow (by omega) (by omega) h16 hS ?_
    refine pv_i ?_
    refine is_2 dX9_behindOne_64 rfl (by decide) ?_
    refine al_0 dX9_behindOne_65 ?_
    refine il_2 dX9_behindOne_66 ?_
    refine c_X9_212 dX9_behindOne_67 rfl tt336 (Nat.le_of_ble_eq_true rfl) (by omega) ?_
    refine wX9_partOf (by omega) Pc M i0 (by omega) h16 hS rfl ?_
    rw [← hy]
    refine pv_i ?_
    refine is_3 dX9_behindOne_70 rfl (by decide) ?_
    refine il_3 dX9_behindOne_71 ?_
    refine wp_if_ge 77 dX9_behindOne_72 rfl (fun c72 => ?_) (fun c72 => ?_)
    · refine al_0 dX9_behindOne_77 ?_
      refine ic_1 dX9_behindOne_78 ?_
      refine c_X9_197 dX9_behindOne_79 rfl tt336 (Nat.le_of_ble_eq_true rfl) (by omega) ?_
      obtain ⟨R, hR⟩ : ∃ R, R = setP 1 P o W := ⟨_, rfl⟩
      have ln := setP_ln 1 P o W
      rw [← hR] at ln
      refine wX9_settle (c0 := c0) (P := P) (o := o) (W := W) (by omega) h12 hc (by omega) (by omega) (by omega) h16 hS h17 hW (fun h1 E1 F1 a16 aS a17 aW => ?_)
      rw [← hR] at a16 aS a17 aW
      have M1 : TkM h1 hl T N i := M.c (F1 7 (by decide) (by decide) (by decide)) (F1 8 (by decide) (by decide) (by decide)) (F1 9 (by decide) (by decide) (by decide)) (F1 10 (by decide) (by decide) (by decide)) rfl
      obtain ⟨⟨gN, gT, g12, g14⟩, -⟩ := Pc.c E1
      refine pv_n ?_
      refine al_0 dX9_behindOne_82 ?_
      refine c_X9_175 dX9_behindOne_83 rfl tt336 (Nat.le_of_ble_eq_true rfl) (by omega) ?_
      refine wX9_nextTokenM (T := T) (N := N) (j := i) (by omega) gN gT B (by omega) M1.1 (fun h2 hl2 E2 M2 => ?_)
      have b16 : h2 336 16 = R.1.length := by rw [E2.2 16 (by decide) (by decide) (by decide) (by decide)]; exact a16
      have b17 : h2 336 17 = R.2.1 := by rw [E2.2 17 (by decide) (by decide) (by decide) (by decide)]; exact a17
      have bS : SR (h2 341) R.1 := by rw [E2.1 341 (by decide)]; exact aS
      have bW : Wt h2 c0 R.2.2 := aW.c (E2.2 13 (by decide) (by decide) (by decide) (by decide)) (fun k _ _ => by rw [E2.1 339 (by decide)])
      have e2 : PsE c0 h h2 := E1.tk E2
      have tp := open_top (o := o) (W := W) rfl I2 (show 0 ≤ opnP P by omega)
      rw [← hR] at tp
      obtain ⟨z, P2, ez⟩ : ∃ z P2, R.1 = z :: P2 := by
        cases q : R.1 with
        | nil => rw [q] at tp; exact absurd tp.1 (by decide)
        | cons z P2 => exact ⟨z, P2, rfl⟩
      have lz : (R.1.length : Int) = P2.length + 1 := by rw [ez, List.length_cons]; omega
      have lz' : R.1.length = P2.length + 1 := by rw [ez, List.length_cons]
      have z40 : 40 ≤ z := by rw [ez] at tp; exact tp.1
      have zo : z = opnP P := by rw [ez] at tp; exact tp.2
      rw [ez] at bS
      refine pv_n ?_
      refine il_3 dX9_behindOne_86 ?_
      refine wp_if_ne 127 dX9_behindOne_87 rfl (fun c87 => ?_) (fun c87 => ?_)
      · refine al_0 dX9_behindOne_127 ?_
        refine g_X9_29 (341) dX9_behindOne_128 rfl tt336 (rr9_15 tt336) (by omega) ?_
        refine al_0 dX9_behindOne_131 ?_
        refine c_X9_168 dX9_behindOne_132 rfl tt336 (Nat.le_of_ble_eq_true rfl) (by omega) ?_
        refine wX9_openAt (P := z :: P2) (by omega) (by rw [List.length_cons]; omega) (by rw [b16, ez]) bS ?_
        rw [show opA (z :: P2) = (P2.length : Int) by show (if 40 ≤ z then (P2.length : Int) else opA P2) = _; rw [if_pos z40]]
        refine pv_i ?_
        refine il_3 dX9_behindOne_135 ?_
        refine wp_iastore dX9_behindOne_136 tt341 (by omega) (by omega) ?_
        refine al_0 dX9_behindOne_137 ?_
        refine ic_0 dX9_behindOne_138 ?_
        refine p_X9_200 dX9_behindOne_139 rfl tt336 (by omega) ?_
        refine ic_0 dX9_behindOne_142 ?_
        refine wp_ireti dX9_behindOne_143 rfl ?_
        have be : behM (kF T N) i P o W = some (.inr (i + 1, y :: P2, R.2.1, R.2.2, false)) := by
          unfold behM
          rw [← hx, if_neg (by omega), ← hy, if_neg (by omega), if_neg (by omega), ← hR, ez]
          rfl
        refine hq _ be _ hl2 ((e2.u1).u6 (by unfold psK; omega)) ⟨M2.c (by rw [up_k (by decide), up_o (by decide)]) (by rw [up_k (by decide), up_o (by decide)]) (by rw [up_k (by decide), up_o (by decide)]) (by rw [up_k (by decide), up_o (by decide)]) rfl, ?_, ?_, ?_, ?_, up_s⟩
        · show _ = (((y :: P2).length : Nat) : Int)
          rw [up_k (by decide), up_o (by decide), b16, List.length_cons]; omega
        · show SR _ (y :: P2)
          exact SR_up bS.2 (fun k k0 k1 => by rw [up_o (by decide), up_k (by omega)]) (by rw [up_o (by decide), up_s])
        · show _ = R.2.1
          rw [up_k (by decide), up_o (by decide)]; exact b17
        · exact bW.c (by rw [up_k (by decide), up_o (by decide)]) (fun k _ _ => by rw [up_o (by decide), up_o (by decide)])
      · refine al_0 dX9_behindOne_90 ?_
        refine wp_dup dX9_behindOne_91 rfl ?_
        refine g_X9_165 dX9_behindOne_92 rfl tt336 ?_
        rw [b17]
        refine ic_1 dX9_behindOne_95 ?_
        refine wp_isub dX9_behindOne_96 (r32 (by omega) (by omega)) ?_
        refine p_X9_165 dX9_behindOne_97 rfl tt336 ?_
        refine al_0 dX9_behindOne_100 ?_
        refine wp_dup dX9_behindOne_101 rfl ?_
        refine g_X9_155 dX9_behindOne_102 rfl tt336 ?_
        rw [up_k (o := 336) (q := 336) (k := 17) (j := 16) (by decide)]
        rw [b16]
        refine ic_1 dX9_behindOne_105 ?_
        refine wp_isub dX9_behindOne_106 (r32 (by omega) (by omega)) ?_
        refine p_X9_155 dX9_behindOne_107 rfl tt336 ?_
        refine il_2 dX9_behindOne_110 ?_
        refine bi_44 dX9_behindOne_111 ?_
        refine wp_icmp_ne 122 dX9_behindOne_113 rfl (fun c113 => ?_) (fun c113 => ?_)
        · refine al_0 dX9_behindOne_122 ?_
          refine c_X9_184 dX9_behindOne_123 rfl tt336 (Nat.le_of_ble_eq_true rfl) (by omega) ?_
          have be : behM (kF T N) i P o W = some (endM (kF T N) (i + 1) P2 (R.2.1 - 1) (if opnP P = 44 then R.2.2 ++ [(3, 0)] else R.2.2)) := by
            unfold behM
            rw [← hx, if_neg (by omega), ← hy, if_neg (by omega), if_pos (by omega), ← hR, ez]
            rfl
          have hq' := hq _ be
          first
            | (have q : opnP P = 44 := by omega
               rw [if_pos q] at hq'
               refine wX9_endOne (T := T) (N := N) (i := i + 1) (P := P2) (o := R.2.1 - 1) (W := R.2.2 ++ [(3, 0)]) (by omega) (Pc.c Ea) (M2.c (by rw [F3 7 (by decide), up_k (by decide), up_k (by decide)]) (by rw [F3 8 (by decide), up_k (by decide), up_k (by decide)]) (by rw [F3 9 (by decide), up_k (by decide), up_k (by decide)]) (by rw [F3 10 (by decide), up_k (by decide), up_k (by decide)]) rfl) (by omega) (by omega) (by omega) (by omega) (by rw [F3 16 (by decide), up_s]; omega) (by rw [E3 341 (by decide), up_o' (by decide), up_o' (by decide)]; exact bS.2) (by rw [F3 17 (by decide), up_k (by decide), up_s]) W3 ?_
               refine PQ.mono (hq'.c Ea) (fun x h4 hl4 hQ => ?_))
            | (have q : ¬ opnP P = 44 := by omega
               rw [if_neg q] at hq'
               have Ea : PsE c0 h (up (up h2 336 17 (R.2.1 - 1)) 336 16 (R.1.length - 1)) := (e2.u6 (k := 17) (by unfold psK; omega)).u6 (k := 16) (by unfold psK; omega)
               refine wX9_endOne (T := T) (N := N) (i := i + 1) (P := P2) (o := R.2.1 - 1) (W := R.2.2) (by omega) (Pc.c Ea) (M2.c (by rw [up_k (by decide), up_k (by decide)]) (by rw [up_k (by decide), up_k (by decide)]) (by rw [up_k (by decide), up_k (by decide)]) (by rw [up_k (by decide), up_k (by decide)]) rfl) (by omega) (by omega) (by omega) (by omega) (by rw [up_s]; omega) (by rw [up_o' (by decide), up_o' (by decide)]; exact bS.2) (by rw [up_k (by decide), up_s]) (bW.c (by rw [up_k (by decide), up_k (by decide)]) (fun k _ _ => by rw [up_o (by decide), up_o (by decide)])) ?_
               refine PQ.mono (hq'.c Ea) (fun x h4 hl4 hQ => ?_))
          refine pv_i ?_
          refine wp_ireti dX9_behindOne_126 rfl ?_
          exact hQ
        · refine al_0 dX9_behindOne_116 ?_
          refine ic_3 dX9_behindOne_117 ?_
          refine ic_0 dX9_behindOne_118 ?_
          refine c_X9_161 dX9_behindOne_119 rfl tt336 (Nat.le_of_ble_eq_true rfl) (by omega) ?_
          refine wX9_emit (c0 := c0) (W := R.2.2) (by omega) (by rw [up_k (by decide), up_k (by decide), E2.2 12 (by decide) (by decide) (by decide) (by decide)]; exact g12) hc (bW.c (by rw [up_k (by decide), up_k (by decide)]) (fun k _ _ => by rw [up_o (by decide), up_o (by decide)])) (by omega) (fun h3 E3 F3 G3 W3 => ?_)
          have Ea : PsE c0 h h3 := ((e2.u6 (k := 17) (by unfold psK; omega)).u6 (k := 16) (by unfold psK; omega)).tr ⟨E3.mono (by decide), fun k hk => F3 k (fun z => hk (by unfold psK; omega)), G3⟩
          have wl3 : (R.2.2 ++ [((3 : Int), (0 : Int))]).length = R.2.2.length + 1 := by simp
          refine pv_n ?_
          refine al_0 dX9_behindOne_122 ?_
          refine c_X9_184 dX9_behindOne_123 rfl tt336 (Nat.le_of_ble_eq_true rfl) (by omega) ?_
          have be : behM (kF T N) i P o W = some (endM (kF T N) (i + 1) P2 (R.2.1 - 1) (if opnP P = 44 then R.2.2 ++ [(3, 0)] else R.2.2)) := by
            unfold behM
            rw [← hx, if_neg (by omega), ← hy, if_neg (by omega), if_pos (by omega), ← hR, ez]
            rfl
          have hq' := hq _ be
          first
            | (have q : opnP P = 44 := by omega
               rw [if_pos q] at hq'
               refine wX9_endOne (T := T) (N := N) (i := i + 1) (P := P2) (o := R.2.1 - 1) (W := R.2.2 ++ [(3, 0)]) (by omega) (Pc.c Ea) (M2.c (by rw [F3 7 (by decide), up_k (by decide), up_k (by decide)]) (by rw [F3 8 (by decide), up_k (by decide), up_k (by decide)]) (by rw [F3 9 (by decide), up_k (by decide), up_k (by decide)]) (by rw [F3 10 (by decide), up_k (by decide), up_k (by decide)]) rfl) (by omega) (by omega) (by omega) (by omega) (by rw [F3 16 (by decide), up_s]; omega) (by rw [E3 341 (by decide), up_o' (by decide), up_o' (by decide)]; exact bS.2) (by rw [F3 17 (by decide), up_k (by decide), up_s]) W3 ?_
               refine PQ.mono (hq'.c Ea) (fun x h4 hl4 hQ => ?_))
            | (have q : ¬ opnP P = 44 := by omega
               rw [if_neg q] at hq'
               have Ea : PsE c0 h (up (up h2 336 17 (R.2.1 - 1)) 336 16 (R.1.length - 1)) := (e2.u6 (k := 17) (by unfold psK; omega)).u6 (k := 16) (by unfold psK; omega)
               refine wX9_endOne (T := T) (N := N) (i := i + 1) (P := P2) (o := R.2.1 - 1) (W := R.2.2) (by omega) (Pc.c Ea) (M2.c (by rw [up_k (by decide), up_k (by decide)]) (by rw [up_k (by decide), up_k (by decide)]) (by rw [up_k (by decide), up_k (by decide)]) (by rw [up_k (by decide), up_k (by decide)]) rfl) (by omega) (by omega) (by omega) (by omega) (by rw [up_s]; omega) (by rw [up_o' (by decide), up_o' (by decide)]; exact bS.2) (by rw [up_k (by decide), up_s]) (bW.c (by rw [up_k (by decide), up_k (by decide)]) (fun k _ _ => by rw [up_o (by decide), up_o (by decide)])) ?_
               refine PQ.mono (hq'.c Ea) (fun x h4 hl4 hQ => ?_))
          refine pv_i ?_
          refine wp_ireti dX9_behindOne_126 rfl ?_
          exact hQ
    · refine ic_m1 dX9_behindOne_75 ?_
      refine wp_ireti dX9_behindOne_76 rfl ?_
      refine hQ ?_
      unfold behM
      rw [← hx, if_neg (by omega), ← hy, if_pos (by omega)]
  · refine al_0 dX9_behindOne_9 ?_
    refine il_1 dX9_behindOne_10 ?_
    refine c_X9_158 dX9_behindOne_11 rfl (Nat.le_of_ble_eq_true rfl) (by omega) ?_
    refine wX9_bindOf (by omega) ?_
    refine pv_i ?_
    refine ic_4 dX9_behindOne_14 ?_
    refine wp_icmp_ne 22 dX9_behindOne_15 rfl (fun c15 => ?_) (fun c15 => ?_)
    · refine il_1 dX9_behindOne_22 ?_
      refine c_X9_158 dX9_behindOne_23 rfl (Nat.le_of_ble_eq_true rfl) (by omega) ?_
      refine wX9_bindOf (by omega) ?_
      refine pv_i ?_
      refine c_X9_197 dX9_behindOne_26 rfl tt336 (Nat.le_of_ble_eq_true rfl) (by omega) ?_
      have hl5 : (if bnd x = 4 then 5 else bnd x) = (bnd x) := by rw [if_neg c15]
      obtain ⟨R, hR⟩ : ∃ R, R = setP (bnd x) P o W := ⟨_, rfl⟩
      have ln := setP_ln (bnd x) P o W
      rw [← hR] at ln
      refine wX9_settle (c0 := c0) (P := P) (o := o) (W := W) (by omega) h12 hc (by omega) (by omega) (by omega) h16 hS h17 hW (fun h1 E1 F1 a16 aS a17 aW => ?_)
      rw [← hR] at a16 aS a17 aW
      have M1 : TkM h1 hl T N i := M.c (F1 7 (by decide) (by decide) (by decide)) (F1 8 (by decide) (by decide) (by decide)) (F1 9 (by decide) (by decide) (by decide)) (F1 10 (by decide) (by decide) (by decide)) rfl
      obtain ⟨⟨gN, gT, g12, g14⟩, -⟩ := Pc.c E1
      
      refine pv_n ?_
      refine al_0 dX9_behindOne_29 ?_
      refine g_X9_29 (341) dX9_behindOne_30 rfl tt336 (rr9_15 tt336) (by omega) ?_
      
      refine al_0 dX9_behindOne_33 ?_
      refine g_X9_155 dX9_behindOne_34 rfl tt336 ?_
      rw [a16]
      refine il_1 dX9_behindOne_37 ?_
      refine wp_iastore dX9_behindOne_38 tt341 (by omega) (by omega) ?_
      refine al_0 dX9_behindOne_39 ?_
      refine wp_dup dX9_behindOne_40 rfl ?_
      refine g_X9_155 dX9_behindOne_41 rfl tt336 ?_
      rw [up_o (o := 341) (q := 336) (by decide)]
      rw [a16]
      refine ic_1 dX9_behindOne_44 ?_
      refine wp_iadd dX9_behindOne_45 (r32 (by omega) (by omega)) ?_
      refine p_X9_155 dX9_behindOne_46 rfl tt336 ?_
      refine al_0 dX9_behindOne_49 ?_
      refine ic_0 dX9_behindOne_50 ?_
      refine p_X9_200 dX9_behindOne_51 rfl tt336 (by omega) ?_
      refine al_0 dX9_behindOne_54 ?_
      refine c_X9_175 dX9_behindOne_55 rfl tt336 (Nat.le_of_ble_eq_true rfl) (by omega) ?_
      refine wX9_nextTokenM (T := T) (N := N) (j := i) (by omega) (by rw [up_k (by decide), up_k (by decide), up_o (by decide)]; exact gN) (by rw [up_o' (by decide), up_o' (by decide), up_o' (by decide)]; exact gT) B (by omega) (by rw [up_k (by decide), up_k (by decide), up_o (by decide)]; exact M1.1) (fun h2 hl2 E2 M2 => ?_)
      refine pv_n ?_
      refine ic_0 dX9_behindOne_58 ?_
      refine wp_ireti dX9_behindOne_59 rfl ?_
      have be : behM (kF T N) i P o W = some (.inr (i + 1, x :: R.1, R.2.1, R.2.2, false)) := by
        unfold behM
        rw [← hx, if_pos (by omega), hl5, ← hR]
      have s1 : SR (up (up (up h1 341 R.1.length x) 336 16 (R.1.length + 1)) 336 18 0 341) (x :: R.1) := SR_up aS (fun k k0 k1 => by rw [up_o (by decide), up_o (by decide), up_k (by omega)]) (by rw [up_o (by decide), up_o (by decide), up_s])
      refine hq _ be h2 hl2 ((((E1.u1).u6 (by unfold psK; omega)).u6 (by unfold psK; omega)).tk E2) ⟨M2, ?_, ?_, ?_, ?_, ?_⟩
      · show h2 336 16 = (((x :: R.1).length : Nat) : Int)
        rw [E2.2 16 (by decide) (by decide) (by decide) (by decide), up_k (by decide), up_s, List.length_cons]; omega
      · show SR (h2 341) (x :: R.1)
        rw [E2.1 341 (by decide)]; exact s1
      · show h2 336 17 = R.2.1
        rw [E2.2 17 (by decide) (by decide) (by decide) (by decide), up_k (by decide), up_k (by decide), up_o (by decide)]; exact a17
      · exact aW.c (by rw [E2.2 13 (by decide) (by decide) (by decide) (by decide), up_k (by decide), up_k (by decide), up_o (by decide)]) (fun k _ _ => by rw [E2.1 339 (by decide), up_o (by decide), up_o (by decide), up_o (by decide)])
      · show h2 336 18 = 0
        rw [E2.2 18 (by decide) (by decide) (by decide) (by decide), up_s]
    · refine ic_5 dX9_behindOne_18 ?_
      refine wp_goto 26 dX9_behindOne_19 rfl ?_
      refine c_X9_197 dX9_behindOne_26 rfl tt336 (Nat.le_of_ble_eq_true rfl) (by omega) ?_
      have hl5 : (if bnd x = 4 then 5 else bnd x) = 5 := by rw [if_pos c15]
      obtain ⟨R, hR⟩ : ∃ R, R = setP 5 P o W := ⟨_, rfl⟩
      have ln := setP_ln 5 P o W
      rw [← hR] at ln
      refine wX9_settle (c0 := c0) (P := P) (o := o) (W := W) (by omega) h12 hc (by omega) (by omega) (by omega) h16 hS h17 hW (fun h1 E1 F1 a16 aS a17 aW => ?_)
      rw [← hR] at a16 aS a17 aW
      have M1 : TkM h1 hl T N i := M.c (F1 7 (by decide) (by decide) (by decide)) (F1 8 (by decide) (by decide) (by decide)) (F1 9 (by decide) (by decide) (by decide)) (F1 10 (by decide) (by decide) (by decide)) rfl
      obtain ⟨⟨gN, gT, g12, g14⟩, -⟩ := Pc.c E1
      
      refine pv_n ?_
      refine al_0 dX9_behindOne_29 ?_
      refine g_X9_29 (341) dX9_behindOne_30 rfl tt336 (rr9_15 tt336) (by omega) ?_
      
      refine al_0 dX9_behindOne_33 ?_
      refine g_X9_155 dX9_behindOne_34 rfl tt336 ?_
      rw [a16]
      refine il_1 dX9_behindOne_37 ?_
      refine wp_iastore dX9_behindOne_38 tt341 (by omega) (by omega) ?_
      refine al_0 dX9_behindOne_39 ?_
      refine wp_dup dX9_behindOne_40 rfl ?_
      refine g_X9_155 dX9_behindOne_41 rfl tt336 ?_
      rw [up_o (o := 341) (q := 336) (by decide)]
      rw [a16]
      refine ic_1 dX9_behindOne_44 ?_
      refine wp_iadd dX9_behindOne_45 (r32 (by omega) (by omega)) ?_
      refine p_X9_155 dX9_behindOne_46 rfl tt336 ?_
      refine al_0 dX9_behindOne_49 ?_
      refine ic_0 dX9_behindOne_50 ?_
      refine p_X9_200 dX9_behindOne_51 rfl tt336 (by omega) ?_
      refine al_0 dX9_behindOne_54 ?_
      refine c_X9_175 dX9_behindOne_55 rfl tt336 (Nat.le_of_ble_eq_true rfl) (by omega) ?_
      refine wX9_nextTokenM (T := T) (N := N) (j := i) (by omega) (by rw [up_k (by decide), up_k (by decide), up_o (by decide)]; exact gN) (by rw [up_o' (by decide), up_o' (by decide), up_o' (by decide)]; exact gT) B (by omega) (by rw [up_k (by decide), up_k (by decide), up_o (by decide)]; exact M1.1) (fun h2 hl2 E2 M2 => ?_)
      refine pv_n ?_
      refine ic_0 dX9_behindOne_58 ?_
      refine wp_ireti dX9_behindOne_59 rfl ?_
      have be : behM (kF T N) i P o W = some (.inr (i + 1, x :: R.1, R.2.1, R.2.2, false)) := by
        unfold behM
        rw [← hx, if_pos (by omega), hl5, ← hR]
      have s1 : SR (up (up (up h1 341 R.1.length x) 336 16 (R.1.length + 1)) 336 18 0 341) (x :: R.1) := SR_up aS (fun k k0 k1 => by rw [up_o (by decide), up_o (by decide), up_k (by omega)]) (by rw [up_o (by decide), up_o (by decide), up_s])
      refine hq _ be h2 hl2 ((((E1.u1).u6 (by unfold psK; omega)).u6 (by unfold psK; omega)).tk E2) ⟨M2, ?_, ?_, ?_, ?_, ?_⟩
      · show h2 336 16 = (((x :: R.1).length : Nat) : Int)
        rw [E2.2 16 (by decide) (by decide) (by decide) (by decide), up_k (by decide), up_s, List.length_cons]; omega
      · show SR (h2 341) (x :: R.1)
        rw [E2.1 341 (by decide)]; exact s1
      · show h2 336 17 = R.2.1
        rw [E2.2 17 (by decide) (by decide) (by decide) (by decide), up_k (by decide), up_k (by decide), up_o (by decide)]; exact a17
      · exact aW.c (by rw [E2.2 13 (by decide) (by decide) (by decide) (by decide), up_k (by decide), up_k (by decide), up_o (by decide)]) (fun k _ _ => by rw [E2.1 339 (by decide), up_o (by decide), up_o (by decide), up_o (by decide)])
      · show h2 336 18 = 0
        rw [E2.2 18 (by decide) (by decide) (by decide) (by decide), up_s]
