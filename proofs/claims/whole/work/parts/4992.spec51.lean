/-! the model reads a sum -/

theorem wX9_summed_33 {G : GT} {δ : Nat} {h0 : Nat → Int → Int} {b : Bool × Bool} {Q : V → Hp → Prop} {n N c0 : Int} {T : Int → Int} {Gs : MSt → Prop} (hδ : δ ≤ 1550)
    (hG : ∀ t, Gs t → MInv n t → ∀ h' hl' : Nat → Int → Int, PsE c0 h0 h' → PsI T N c0 h' hl' t → WP G δ 0 0 MX9_summed 15 [vr 336, vn] [] (HS h' hl' b) Q)
    {r : MRs} (I : MIr n r) (R : rsM (fun f j => ∀ h' hl' : Nat → Int → Int, PsE c0 h0 h' → h' 336 8 = pF T N j → Q (vi f) (HS h' hl' b)) Gs r) : PQ T N c0 h0 b (fun v σ' => WP G δ 0 0 MX9_summed 33 [vr 336, vn] (pushV v []) σ' Q) r := by
  rcases r with e | t
  · intro h' hl' E p8
    obtain ⟨I1, I2, I3⟩ := I
    refine pv_i ?_
    refine is_1 dX9_summed_33 rfl (by decide) ?_
    refine il_1 dX9_summed_34 ?_
    refine wp_if_le 40 dX9_summed_35 rfl (fun c35 => ?_) (fun c35 => ?_)
    · omega
    · refine il_1 dX9_summed_38 ?_
      refine wp_ireti dX9_summed_39 rfl ?_
      exact R h' hl' E p8
  · intro h' hl' E S
    refine pv_i ?_
    refine is_1 dX9_summed_33 rfl (by decide) ?_
    refine il_1 dX9_summed_34 ?_
    refine wp_if_le 40 dX9_summed_35 rfl (fun c35 => ?_) (fun c35 => ?_)
    · refine il_1 dX9_summed_40 ?_
      refine wp_if_ne 47 dX9_summed_41 rfl (fun c41 => ?_) (fun c41 => ?_)
      · omega
      · refine wp_goto 15 dX9_summed_44 rfl ?_
        refine wp_fg (ls' := [_, vn]) ⟨Or.inr rfl, Or.inl rfl, trivial⟩ ?_
        exact hG t R I h' hl' E S
    · omega
theorem wX9_summed_go {G : GT} {δ : Nat} {h0 : Nat → Int → Int} {b : Bool × Bool} {Q : V → Hp → Prop} {n N c0 s : Int} {T : Int → Int} (hδ : δ ≤ 1550) (Pb : PsB T N c0 s h0) (t : TkE (kF T N) n) :
    MGo (kF T N) (vF T N) s (fun u => MInv n u → ∀ h' hl' : Nat → Int → Int, PsE c0 h0 h' → PsI T N c0 h' hl' u → WP G δ 0 0 MX9_summed 15 [vr 336, vn] [] (HS h' hl' b) Q) (fun f j => ∀ h' hl' : Nat → Int → Int, PsE c0 h0 h' → h' 336 8 = pF T N j → Q (vi f) (HS h' hl' b)) (fun j W' => ∀ h' hl' : Nat → Int → Int, PsE c0 h0 h' → TkM h' hl' T N j → Wt h' c0 W' → Q (vi 0) (HS h' hl' b)) := by
  have hG : ∀ u, (MInv n u → ∀ h' hl' : Nat → Int → Int, PsE c0 h0 h' → PsI T N c0 h' hl' u → WP G δ 0 0 MX9_summed 15 [vr 336, vn] [] (HS h' hl' b) Q) → MInv n u → ∀ h' hl' : Nat → Int → Int, PsE c0 h0 h' → PsI T N c0 h' hl' u → WP G δ 0 0 MX9_summed 15 [vr 336, vn] [] (HS h' hl' b) Q := fun u q => q
  refine ⟨fun i P o W R I h hl E S => ?_, fun i P o W R I h hl E S => ?_⟩
  · skip
    obtain ⟨M, h16, hS, h17, hW, h18⟩ := S
    have h16 : h 336 16 = P.length := h16
    have hS : SR (h 341) P := hS
    have h17 : h 336 17 = o := h17
    have hW : Wt h c0 W := hW
    have M : TkM h hl T N i := M
    have h18 : h 336 18 = 0 := h18
    refine al_0 dX9_summed_15 ?_
    refine g_X9_200 dX9_summed_16 rfl tt336 ?_
    rw [h18]
    refine wp_if_eq 29 dX9_summed_19 rfl (fun c19 => ?_) (fun c19 => ?_)
    · refine al_0 dX9_summed_29 ?_
      refine c_X9_218 dX9_summed_30 rfl tt336 (Nat.le_of_ble_eq_true rfl) (by omega) ?_
      have I0 := I
      obtain ⟨a1, a2, a3, a4, a5, a6⟩ := I
      have a1 : 0 ≤ i := a1
      have a2 : i ≤ n - 1 := a2
      have a3 : wl P := a3
      have a4 : cntP P = o := a4
      have a5 : o ≤ 8 := a5
      have a6 : (W.length : Int) + P.length ≤ i := a6
      have a7 := wl_len P a3
      have a8 := bndT_R (P := P)
      have a9 := cntP_R P
      have tn := t.2.1
      refine wX9_beginOne (T := T) (N := N) (i := i) (P := P) (o := o) (W := W) (by omega) (Pb.c E) M a1 (by omega) (by omega) (by omega) h16 hS h17 hW h18 ?_
      exact (wX9_summed_33 (by omega) hG (begM_I t I0) R).c E
    · exact absurd rfl c19
  · unfold rsO at R
    obtain ⟨M, h16, hS, h17, hW, h18⟩ := S
    have h16 : h 336 16 = P.length := h16
    have hS : SR (h 341) P := hS
    have h17 : h 336 17 = o := h17
    have hW : Wt h c0 W := hW
    have M : TkM h hl T N i := M
    have h18 : h 336 18 = 1 := h18
    refine al_0 dX9_summed_15 ?_
    refine g_X9_200 dX9_summed_16 rfl tt336 ?_
    rw [h18]
    refine wp_if_eq 29 dX9_summed_19 rfl (fun c19 => ?_) (fun c19 => ?_)
    · exact absurd c19 (by decide)
    · refine al_0 dX9_summed_22 ?_
      refine c_X9_215 dX9_summed_23 rfl tt336 (Nat.le_of_ble_eq_true rfl) (by omega) ?_
      have I0 := I
      obtain ⟨a1, a2, a3, a4, a5, a6⟩ := I
      have a1 : 0 ≤ i := a1
      have a2 : i ≤ n - 1 := a2
      have a3 : wl P := a3
      have a4 : cntP P = o := a4
      have a5 : o ≤ 8 := a5
      have a6 : (W.length : Int) + P.length ≤ i := a6
      have a7 := wl_len P a3
      have a8 := bndT_R (P := P)
      have a9 := cntP_R P
      have tn := t.2.1
      refine wX9_behindOne (T := T) (N := N) (n := n) (i := i) (P := P) (o := o) (W := W) (by omega) (Pb.c E) M a1 h16 hS h17 hW I0 t (fun r hr => ?_) (fun hn => ?_)
      · rw [hr] at R
        refine PQ.c (PQ.mono (wX9_summed_33 (by omega) hG (behM_I t I0 r hr) R) (fun x h' hl' q => ?_)) E
        refine pv_i ?_
        exact wp_goto 33 dX9_summed_26 rfl q
      rw [hn] at R
      have R : (if 0 ≤ opnP P then (∀ h' hl' : Nat → Int → Int, PsE c0 h0 h' → h' 336 8 = pF T N i → Q (vi 1) (HS h' hl' b)) else (∀ h' hl' : Nat → Int → Int, PsE c0 h0 h' → TkM h' hl' T N i → Wt h' c0 (setP 1 P o W).2.2 → Q (vi 0) (HS h' hl' b))) := R
      refine pv_i ?_
      refine wp_goto 33 dX9_summed_26 rfl ?_
      refine is_1 dX9_summed_33 rfl (by decide) ?_
      refine il_1 dX9_summed_34 ?_
      refine wp_if_le 40 dX9_summed_35 rfl (fun c35 => ?_) (fun c35 => ?_)
      · refine il_1 dX9_summed_40 ?_
        refine wp_if_ne 47 dX9_summed_41 rfl (fun c41 => ?_) (fun c41 => ?_)
        · refine al_0 dX9_summed_47 ?_
          refine c_X9_172 dX9_summed_48 rfl tt336 (Nat.le_of_ble_eq_true rfl) (by omega) ?_
          refine wX9_openNow (by omega) (by omega) h16 hS ?_
          refine pv_i ?_
          refine wp_if_lt 56 dX9_summed_51 rfl (fun c51 => ?_) (fun c51 => ?_)
          · refine al_0 dX9_summed_56 ?_
            refine ic_1 dX9_summed_57 ?_
            refine c_X9_197 dX9_summed_58 rfl tt336 (Nat.le_of_ble_eq_true rfl) (by omega) ?_
            obtain ⟨⟨gN, gT, g12, g14⟩, gc, -⟩ := Pb.c E
            refine wX9_settle (c0 := c0) (P := P) (o := o) (W := W) (by omega) g12 gc (by omega) (by omega) (by omega) h16 hS h17 hW (fun h1 E1 F1 b16 bS b17 bW => ?_)
            refine pv_n ?_
            refine ic_0 dX9_summed_61 ?_
            refine wp_ireti dX9_summed_62 rfl ?_
            rw [if_neg (by omega)] at R
            exact R h1 hl (E.tr E1) (M.c (F1 7 (by decide) (by decide) (by decide)) (F1 8 (by decide) (by decide) (by decide)) (F1 9 (by decide) (by decide) (by decide)) (F1 10 (by decide) (by decide) (by decide)) rfl) bW
          · refine ic_1 dX9_summed_54 ?_
            refine wp_ireti dX9_summed_55 rfl ?_
            rw [if_pos (by omega)] at R
            exact R h hl E M.2.1
        · omega
      · omega

theorem wX9_summed {G : GT} {δ : Nat} {h hl : Nat → Int → Int} {b : Bool × Bool} {Q : V → Hp → Prop} {n i u N c0 s : Int} {T : Int → Int} {W : MCd} (hδ : δ ≤ 1550) (Pb : PsB T N c0 s h) (M : TkM h hl T N i) (i0 : 0 ≤ i) (i1 : i ≤ n - 1) (t : TkE (kF T N) n) (hW : Wt h c0 W) (wl : (W.length : Int) ≤ i) (hQ : onR (fun f j => ∀ h' hl' : Nat → Int → Int, PsE c0 h h' → h' 336 8 = pF T N j → Q (vi f) (HS h' hl' b)) (fun j M => (fun j W' => ∀ h' hl' : Nat → Int → Int, PsE c0 h h' → TkM h' hl' T N j → Wt h' c0 W' → Q (vi 0) (HS h' hl' b)) j (W ++ M)) ((lvP (kF T N) (vF T N) s 8).1 i u)) : WP G δ 0 0 MX9_summed 0 [vr (336), vn] [] (HS h hl b) Q := by
  refine al_0 dX9_summed_0 ?_
  refine ic_0 dX9_summed_1 ?_
  refine p_X9_155 dX9_summed_2 rfl tt336 ?_
  refine al_0 dX9_summed_5 ?_
  refine ic_0 dX9_summed_6 ?_
  refine p_X9_165 dX9_summed_7 rfl tt336 ?_
  refine al_0 dX9_summed_10 ?_
  refine ic_0 dX9_summed_11 ?_
  refine p_X9_200 dX9_summed_12 rfl tt336 (by omega) ?_
  have E : PsE c0 h (up (up (up h 336 16 0) 336 17 0) 336 18 0) := ((PsE.rf.u6 (by unfold psK; omega)).u6 (by unfold psK; omega)).u6 (by unfold psK; omega)
  refine sum_eqv (wX9_summed_go (h0 := h) hδ Pb t) t i0 i1 (r := hQ) ⟨i0, i1, trivial, rfl, by show (0 : Int) ≤ 8; decide, by show (W.length : Int) + ((0 : Nat) : Int) ≤ i; omega⟩ _ hl E ⟨M.c ?_ ?_ ?_ ?_ rfl, ?_, trivial, ?_, hW.c ?_ (fun k _ _ => ?_), up_s⟩
  · rw [up_k (by decide), up_k (by decide), up_k (by decide)]
  · rw [up_k (by decide), up_k (by decide), up_k (by decide)]
  · rw [up_k (by decide), up_k (by decide), up_k (by decide)]
  · rw [up_k (by decide), up_k (by decide), up_k (by decide)]
  · rw [up_k (by decide), up_k (by decide), up_s]; rfl
  · rw [up_k (by decide), up_s]
  · rw [up_k (by decide), up_k (by decide), up_k (by decide)]
  · rw [up_o (by decide), up_o (by decide), up_o (by decide)]
