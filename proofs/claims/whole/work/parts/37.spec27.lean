/-! a text played -/
def rCl (L : Laws) (R : Int → Int) (s v w u : Int) : Int → Int :=
  if s = 2 then rPer R v w else if s = 3 then rDis R (lampsFr v (w + 1).toNat) else if s = 4 then rArgue L R v w u else if s = 5 then rPourH R w v else if s = 6 then rSnuffH R v else if s = 7 then rNts L true true v.toNat R else R
def aCl (L : Laws) (R : Int → Int) (s v w u : Int) : Int :=
  if s = 2 then b2i (aPer R v w ≠ -1) else if s = 3 then b2i (aDis R (lampsFr v (w + 1).toNat) ≠ -1) else if s = 4 then b2i (aArgue L R v w u ≠ -1) else if s = 5 then aPourH R w v else if s = 6 then aSnuffH R v else if s = 7 then b2i (rNts L true true v.toNat R 8 - R 8 = v) else 1
def cT (L : Laws) (T : Int → Int) (i k : Int) (R : Int → Int) : Int → Int := rCl L R (T (705 * i + 1 + 4 * k)) (T (705 * i + 1 + 4 * k + 1)) (T (705 * i + 1 + 4 * k + 2)) (T (705 * i + 1 + 4 * k + 3))
def cA (L : Laws) (T : Int → Int) (i k : Int) (R : Int → Int) : Int := aCl L R (T (705 * i + 1 + 4 * k)) (T (705 * i + 1 + 4 * k + 1)) (T (705 * i + 1 + 4 * k + 2)) (T (705 * i + 1 + 4 * k + 3))
def plR (L : Laws) (T : Int → Int) (i : Int) : Nat → Int → (Int → Int) → Int → Int
  | 0, _, R => R
  | m + 1, k, R => if cA L T i k R = 0 then cT L T i k R else plR L T i m (k + 1) (cT L T i k R)
def plA (L : Laws) (T : Int → Int) (i : Int) : Nat → Int → (Int → Int) → Int
  | 0, _, _ => -1
  | m + 1, k, R => if cA L T i k R = 0 then k else plA L T i m (k + 1) (cT L T i k R)
def rPlayed (L : Laws) (T R : Int → Int) (t : Int) : Int → Int := if 0 ≤ t ∧ t < R 2 then plR L T t (T (705 * t)).toNat 0 R else R
def aPlayed (L : Laws) (T R : Int → Int) (t : Int) : Int := if 0 ≤ t ∧ t < R 2 then plA L T t (T (705 * t)).toNat 0 R else -2
section PLAY
variable {h h' : Nat → Int → Int} {R R' : Int → Int} {L : Laws} {T : Int → Int} {o : Nat} {i k s v w u : Int}
theorem cl_eq (C : ClK h o T i k) : rCl L R (T (705 * i + 1 + 4 * k)) (h (o + 2) (k * 3 + 0)) (h (o + 2) (k * 3 + 1)) (h (o + 2) (k * 3 + 2)) = cT L T i k R ∧ aCl L R (T (705 * i + 1 + 4 * k)) (h (o + 2) (k * 3 + 0)) (h (o + 2) (k * 3 + 1)) (h (o + 2) (k * 3 + 2)) = cA L T i k R := by
  obtain ⟨⟨a0, a1⟩, b, c, d, e, f⟩ := C
  unfold cT cA rCl aCl
  generalize T (705 * i + 1 + 4 * k) = s at *
  rcases (show s = 0 ∨ s = 1 ∨ s = 2 ∨ s = 3 ∨ s = 4 ∨ s = 5 ∨ s = 6 ∨ s = 7 by omega) with q | q | q | q | q | q | q | q <;> subst q
  · constructor <;> simp
  · constructor <;> simp
  · rw [d (by decide), e (by decide) (by decide)]; constructor <;> simp
  · rw [d (by decide), e (by decide) (by decide)]; constructor <;> simp
  · rw [d (by decide), e (by decide) (by decide), f rfl]; constructor <;> simp
  · rw [d (by decide), e (by decide) (by decide)]; constructor <;> simp
  · rw [d (by decide)]; constructor <;> simp
  · rw [d (by decide)]; constructor <;> simp
theorem cl_ok (C : ClK h o T i k) : ClOK (T (705 * i + 1 + 4 * k)) (T (705 * i + 1 + 4 * k + 1)) (T (705 * i + 1 + 4 * k + 2)) (T (705 * i + 1 + 4 * k + 3)) := by
  obtain ⟨⟨a0, a1⟩, b, c, d, e, f⟩ := C
  unfold ClOK at *
  omega
theorem aPer_R (V : RV R) : aPer R v w = -1 ∨ 0 ≤ aPer R v w := by have := V.n; unfold aPer; split <;> omega
theorem aDis_R (V : RV R) : aDis R v = -1 ∨ 0 ≤ aDis R v := by have := V.n; unfold aDis; split <;> omega
theorem aArgue_R (V : RV R) : aArgue L R v w u = -1 ∨ 0 ≤ aArgue L R v w u := by
  unfold aArgue
  split
  · rename_i c
    have k0 : rKeep R 0 = R 0 := rKeep_o V (by decide) (by decide)
    have := loserV_R (L := L) (R := rKeep R) (d := v) (p := w) (q := u) c.2.1.1 (by rw [k0]; exact c.2.1.2) c.2.2.1.1 (by rw [k0]; exact c.2.2.1.2)
    omega
  · omega
theorem lampsFr_R (v0 : 0 ≤ v) (v1 : v ≤ 9) (w0 : 0 ≤ w) (w1 : w ≤ 9) : 0 ≤ lampsFr v (w + 1).toNat ∧ lampsFr v (w + 1).toNat ≤ 1023 := by
  obtain ⟨n, hn, rfl⟩ := nat_of (n := 10) v0 (by omega)
  exact lampsFr_t n hn (w + 1).toNat (by omega)
/-! what was told stays told, under every call -/
theorem T_per (t : TC R) (V : RV R) : TC (rPer R v w) := by unfold rPer; split; exact rPerson_T t V (by omega); exact t
theorem T_dis (t : TC R) (V : RV R) : TC (rDis R v) := by unfold rDis; split; exact rDisp_T t V (by omega); exact t
theorem T_kp (t : TC R) (V : RV R) (e : nowEq (rKeep R) R') : TC R' := ((rKeep_T t V).nw (rKeep_F V) (rKeep_V V) e).1
theorem T_arg (t : TC R) (V : RV R) : TC (rArgue L R v w u) := by
  unfold rArgue
  split
  · rename_i c
    have k0 : rKeep R 0 = R 0 := rKeep_o V (by decide) (by decide)
    have k1 : rKeep R 1 = R 1 := rKeep_o V (by decide) (by decide)
    exact T_kp t V (rArg_ok (L := L) (w := true) (rKeep_V V) c.1.1 (by rw [k1]; exact c.1.2) c.2.1.1 (by rw [k0]; exact c.2.1.2) c.2.2.1.1 (by rw [k0]; exact c.2.2.1.2)).2.1
  · exact t
theorem T_pour (t : TC R) (V : RV R) : TC (rPourH R v w) := by
  unfold rPourH
  split
  · rename_i c
    have n := V.n
    exact T_kp t V (nowEq.rf.ur (by omega))
  · exact t
theorem T_snuff (t : TC R) (V : RV R) : TC (rSnuffH R v) := by
  unfold rSnuffH
  split
  · exact T_kp t V rSnuff_N
  · exact t
theorem T_nts {z : Bool} : ∀ (n : Nat) (R : Int → Int), TC R → RV R → TC (rNts L true z n R)
  | 0, R, t, _ => t
  | n + 1, R, t, V => by
    by_cases e : R 8 < 9999
    · have q := rNts_t (L := L) (s := true) (w := z) (n := n) e
      rw [if_pos rfl] at q
      rw [q]
      have k8 : rKeep R 8 = R 8 := rKeep_o V (by decide) (by decide)
      have p := rPass_ok (L := L) (w := z) (rKeep_V V) (by omega)
      exact T_nts n _ (T_kp t V p.2.1) ((rKeep_V V).nw p.2.1 p.1)
    · rw [rNts_f e]; exact t
theorem T_yrs : ∀ (n : Nat) (R : Int → Int), TC R → FR R → RV R → TC (rYrs L true n R)
  | 0, R, t, _, _ => t
  | n + 1, R, t, f, V => by
    have y := rYear_ok (L := L) (w := true) V
    have z := t.nw f V y.2
    exact T_yrs n _ z.1 z.2 (V.nw y.2 y.1)
theorem T_years (t : TC R) (V : RV R) : TC (rYears L R v w) := by
  unfold rYears
  split
  · have K := rKeep_V V
    have Ex : nowEq (rKeep R) (ur (rKeep R) 9 (v * 2 + 367)) := nowEq.rf.ur (by omega)
    have z := (rKeep_T t V).nw (rKeep_F V) K Ex
    exact T_yrs _ _ z.1 z.2 (K.nw Ex (K.2.1.xx (by omega) (by omega)))
  · exact t
theorem T_night (t : TC R) (V : RV R) : TC (rNight L R v) := by unfold rNight; split; exact T_nts _ _ t V; exact t
theorem T_undo (t : TC R) (V : RV R) : TC (rUndo R) := by
  unfold rUndo
  split
  · exact t
  · exact rBack_T t V (by have := V.n; omega)
theorem T_by (t : TC R) (V : RV R) : TC (rBy R v) := by unfold rBy; split; exact t.tl V e_by; exact t
theorem T_str (t : TC R) (V : RV R) : TC (rStreet R v) := by
  unfold rStreet; split
  · exact t.tl V e_s0
  · split
    · exact t.tl V (e_s V (by omega))
    · exact t
theorem T_ver (t : TC R) (V : RV R) : TC (rVerd R v w) := by
  unfold rVerd; split
  · exact t.tl V e_v0
  · split
    · exact t.tl V (e_v V (by omega))
    · exact t
theorem T_sai (t : TC R) (V : RV R) : TC (rSaid R v w u) := by
  unfold rSaid; split
  · exact t.tl V e_t0
  · split
    · exact t.tl V (e_t V (by omega))
    · exact t
theorem T_cl (t : TC R) (V : RV R) : TC (rCl L R s v w u) := by
  unfold rCl
  split
  · exact T_per t V
  · split
    · exact T_dis t V
    · split
      · exact T_arg t V
      · split
        · exact T_pour t V
        · split
          · exact T_snuff t V
          · split
            · exact T_nts _ _ t V
            · exact t
end PLAY

theorem uX7_tellPerson {G : GT} {δ : Nat} {h hl : Nat → Int → Int} {b : Bool × Bool} {Q : V → Hp → Prop} {x s : Int} {R : Int → Int} {L : Laws} (hδ : δ ≤ 1680) (C : CT h R L)
  (hQ : ∀ h', eqT h h' → CT h' (rPer R x s) L → Q (vi (aPer R x s)) (HS h' hl b)) : WP G δ 0 0 MX7_tellPerson 0 [vr (2), vi x, vi s, vn] [] (HS h hl b) Q := by
  refine wX7_tellPerson hδ C (fun nc => ?_) (fun yc h1 E1 C1 => ?_)
  · have e1 : rPer R x s = R := by unfold rPer; exact if_neg (by unfold canTell at nc; exact nc)
    rw [e1] at hQ
    exact qv (hQ h eqT.rf C) (by unfold aPer; exact if_neg (by unfold canTell at nc; exact nc))
  · have e1 : rPer R x s = rPerson R x s := by unfold rPer; exact if_pos (by unfold canTell at yc; exact yc)
    rw [e1] at hQ
    exact qv (hQ h1 E1 C1) (by unfold aPer; exact if_pos (by unfold canTell at yc; exact yc))

theorem uX7_tellDispute {G : GT} {δ : Nat} {h hl : Nat → Int → Int} {b : Bool × Bool} {Q : V → Hp → Prop} {l : Int} {R : Int → Int} {L : Laws} (hδ : δ ≤ 1680) (C : CT h R L)
  (hQ : ∀ h', eqT h h' → CT h' (rDis R l) L → Q (vi (aDis R l)) (HS h' hl b)) : WP G δ 0 0 MX7_tellDispute 0 [vr (2), vi l] [] (HS h hl b) Q := by
  refine wX7_tellDispute hδ C (fun nc => ?_) (fun yc h1 E1 C1 => ?_)
  · have e1 : rDis R l = R := by unfold rDis; exact if_neg (by unfold canTellD at nc; exact nc)
    rw [e1] at hQ
    exact qv (hQ h eqT.rf C) (by unfold aDis; exact if_neg (by unfold canTellD at nc; exact nc))
  · have e1 : rDis R l = rDisp R l := by unfold rDis; exact if_pos (by unfold canTellD at yc; exact yc)
    rw [e1] at hQ
    exact qv (hQ h1 E1 C1) (by unfold aDis; exact if_pos (by unfold canTellD at yc; exact yc))

theorem uX7_argueByHand {G : GT} {δ : Nat} {h hl : Nat → Int → Int} {b : Bool × Bool} {Q : V → Hp → Prop} {d p q : Int} {R : Int → Int} {L : Laws} (hδ : δ ≤ 1600) (C : CT h R L)
  (hQ : ∀ h', eqT h h' → CT h' (rArgue L R d p q) L → Q (vi (aArgue L R d p q)) (HS h' hl b)) : WP G δ 0 0 MX7_argueByHand 0 [vr (2), vi d, vi p, vi q] [] (HS h hl b) Q := by
  refine wX7_argueByHand hδ C (fun nc => ?_) (fun yc h1 E1 C1 => ?_)
  · have e1 : rArgue L R d p q = R := by unfold rArgue; exact if_neg (by unfold canArg at nc; exact nc)
    rw [e1] at hQ
    exact qv (hQ h eqT.rf C) (by unfold aArgue; exact if_neg (by unfold canArg at nc; exact nc))
  · have e1 : rArgue L R d p q = rArg L true (rKeep R) d p q := by unfold rArgue; exact if_pos (by unfold canArg at yc; exact yc)
    rw [e1] at hQ
    exact qv (hQ h1 E1 C1) (by unfold aArgue; exact if_pos (by unfold canArg at yc; exact yc))

theorem uX7_pourByHand {G : GT} {δ : Nat} {h hl : Nat → Int → Int} {b : Bool × Bool} {Q : V → Hp → Prop} {p x : Int} {R : Int → Int} {L : Laws} (hδ : δ ≤ 1640) (C : CT h R L)
  (hQ : ∀ h', eqT h h' → CT h' (rPourH R p x) L → Q (vi (aPourH R p x)) (HS h' hl b)) : WP G δ 0 0 MX7_pourByHand 0 [vr (2), vi p, vi x] [] (HS h hl b) Q := by
  refine wX7_pourByHand hδ C (fun nc => ?_) (fun yc h1 E1 C1 => ?_)
  · have e1 : rPourH R p x = R := by unfold rPourH; exact if_neg (by unfold canPr at nc; exact nc)
    rw [e1] at hQ
    exact qv (hQ h eqT.rf C) (by unfold aPourH; exact if_neg (by unfold canPr at nc; exact nc))
  · have e1 : rPourH R p x = rPour (rKeep R) p x := by unfold rPourH; exact if_pos (by unfold canPr at yc; exact yc)
    rw [e1] at hQ
    exact qv (hQ h1 E1 C1) (by unfold aPourH; exact if_pos (by unfold canPr at yc; exact yc))

theorem uX7_snuffByHand {G : GT} {δ : Nat} {h hl : Nat → Int → Int} {b : Bool × Bool} {Q : V → Hp → Prop} {l : Int} {R : Int → Int} {L : Laws} (hδ : δ ≤ 1640) (C : CT h R L)
  (hQ : ∀ h', eqT h h' → CT h' (rSnuffH R l) L → Q (vi (aSnuffH R l)) (HS h' hl b)) : WP G δ 0 0 MX7_snuffByHand 0 [vr (2), vi l] [] (HS h hl b) Q := by
  refine wX7_snuffByHand hδ C (fun nc => ?_) (fun yc h1 E1 C1 => ?_)
  · have e1 : rSnuffH R l = R := by unfold rSnuffH; exact if_neg (by exact nc)
    rw [e1] at hQ
    exact qv (hQ h eqT.rf C) (by unfold aSnuffH; exact if_neg (by exact nc))
  · have e1 : rSnuffH R l = rSnuff (rKeep R) l := by unfold rSnuffH; exact if_pos (by exact yc)
    rw [e1] at hQ
    exact qv (hQ h1 E1 C1) (by unfold aSnuffH; exact if_pos (by exact yc))

theorem wX7_play {G : GT} {δ : Nat} {h hl : Nat → Int → Int} {b : Bool × Bool} {Q : V → Hp → Prop} {o : Nat} {k s v w u : Int} {R : Int → Int} {L : Laws} (hδ : δ ≤ 1580) (C : CT h R L) (ho : ty TT o = some (.inl 3)) (hn0 : h o 0 ≤ 24) (k0 : 0 ≤ k) (hk : k < h o 0) (hs : 0 ≤ s ∧ s ≤ 7) (hkd : h (o + 1) k = kmp s) (hv : h (o + 2) (k * 3 + 0) = v) (hw : h (o + 2) (k * 3 + 1) = w) (hu : h (o + 2) (k * 3 + 2) = u) (ok : ClOK s v w u) (hQ : ∀ h', eqT h h' → CT h' (rCl L R s v w u) L → Q (vi (aCl L R s v w u)) (HS h' hl b)) : WP G δ 0 0 MX7_play 0 [vr (2), vr (o), vi k, vn, vn, vn] [] (HS h hl b) Q := by
  refine al_1 dX7_play_0 ?_
  refine il_2 dX7_play_1 ?_
  refine ic_0 dX7_play_2 ?_
  refine c_X7_210 dX7_play_3 rfl ho (Nat.le_of_ble_eq_true rfl) (by omega) ?_
  refine wX3_number (by omega) ho hn0 (by omega) (by omega) (by omega) (by omega) ?_
  rw [if_pos hk]
  rw [hv]
  refine pv_i ?_
  refine is_3 dX7_play_6 rfl (by decide) ?_
  refine al_1 dX7_play_7 ?_
  refine il_2 dX7_play_8 ?_
  refine ic_1 dX7_play_9 ?_
  refine c_X7_210 dX7_play_10 rfl ho (Nat.le_of_ble_eq_true rfl) (by omega) ?_
  refine wX3_number (by omega) ho hn0 (by omega) (by omega) (by omega) (by omega) ?_
  rw [if_pos hk]
  rw [hw]
  refine pv_i ?_
  refine is_4 dX7_play_13 rfl (by decide) ?_
  refine al_1 dX7_play_15 ?_
  refine il_2 dX7_play_16 ?_
  refine ic_2 dX7_play_17 ?_
  refine c_X7_210 dX7_play_18 rfl ho (Nat.le_of_ble_eq_true rfl) (by omega) ?_
  refine wX3_number (by omega) ho hn0 (by omega) (by omega) (by omega) (by omega) ?_
  rw [if_pos hk]
  rw [hu]
  refine pv_i ?_
  refine is_5 dX7_play_21 rfl (by decide) ?_
  refine al_1 dX7_play_23 ?_
  refine il_2 dX7_play_24 ?_
  refine c_X7_213 dX7_play_25 rfl ho (Nat.le_of_ble_eq_true rfl) (by omega) ?_
  refine wX3_kind (by omega) ho hn0 ?_
  rw [if_pos ⟨k0, hk⟩, hkd]
  obtain ⟨kd, ekd⟩ : ∃ kd, kd = kmp s := ⟨_, rfl⟩
  rw [← ekd]
  have kc : (s = 7 ∧ kd = 0) ∨ (s ≠ 7 ∧ kd = s + 10) := by rw [ekd]; unfold kmp; by_cases q : s = 7; exact Or.inl ⟨q, if_pos q⟩; exact Or.inr ⟨q, if_neg q⟩
  refine pv_i ?_
  rcases (show ((kd) < 0 ∨ 16 < (kd)) ∨ ((kd) = 0) ∨ ((kd) = 1) ∨ ((kd) = 2) ∨ ((kd) = 3) ∨ ((kd) = 4) ∨ ((kd) = 5) ∨ ((kd) = 6) ∨ ((kd) = 7) ∨ ((kd) = 8) ∨ ((kd) = 9) ∨ ((kd) = 10) ∨ ((kd) = 11) ∨ ((kd) = 12) ∨ ((kd) = 13) ∨ ((kd) = 14) ∨ ((kd) = 15) ∨ ((kd) = 16) by omega) with c28 | c28 | c28 | c28 | c28 | c28 | c28 | c28 | c28 | c28 | c28 | c28 | c28 | c28 | c28 | c28 | c28 | c28
  · refine wp_tswD 198 dX7_play_28 (by omega) rfl ?_
    refine ic_1 dX7_play_198 ?_
    refine wp_iretz dX7_play_199 rfl (by omega) ?_
    have er : rCl L R s v w u = R := by unfold rCl; rw [if_neg (by omega), if_neg (by omega), if_neg (by omega), if_neg (by omega), if_neg (by omega), if_neg (by omega)]
    rw [er] at hQ
    exact qv (hQ h eqT.rf C) (by unfold aCl; rw [if_neg (by omega), if_neg (by omega), if_neg (by omega), if_neg (by omega), if_neg (by omega), if_neg (by omega)])
  · refine wp_tsw 182 dX7_play_28 (by omega) (by omega) (154) (by rw [c28]; rfl) rfl ?_
    refine al_0 dX7_play_182 ?_
    refine il_3 dX7_play_183 ?_
    refine ic_1 dX7_play_184 ?_
    refine c_X7_206 dX7_play_185 rfl tt2 (Nat.le_of_ble_eq_true rfl) (by omega) ?_
    have okk : 1 ≤ v ∧ v ≤ 60 := ok.2.2.2.2.2 (by omega)
    refine wX7_passNights (sB := true) (by omega) rfl (by omega) (by omega) C (fun h1 E1 C1 => ?_)
    refine pv_i ?_
    refine il_3 dX7_play_188 ?_
    refine wp_icmp_ne 196 dX7_play_189 rfl (fun c189 => ?_) (fun c189 => ?_)
    · refine ic_0 dX7_play_196 ?_
      refine wp_iretz dX7_play_197 rfl (by omega) ?_
      have er : rCl L R s v w u = rNts L true true v.toNat R := by unfold rCl; rw [if_neg (by omega), if_neg (by omega), if_neg (by omega), if_neg (by omega), if_neg (by omega), if_pos (by omega)]
      rw [er] at hQ
      refine qv (hQ h1 E1 C1) ?_
      unfold aCl
      rw [if_neg (by omega), if_neg (by omega), if_neg (by omega), if_neg (by omega), if_neg (by omega), if_pos (by omega)]
      first | exact b2i_t (by omega) | exact b2i_f (by omega)
    · refine ic_1 dX7_play_192 ?_
      refine wp_goto 197 dX7_play_193 rfl ?_
      refine wp_iretz dX7_play_197 rfl (by omega) ?_
      have er : rCl L R s v w u = rNts L true true v.toNat R := by unfold rCl; rw [if_neg (by omega), if_neg (by omega), if_neg (by omega), if_neg (by omega), if_neg (by omega), if_pos (by omega)]
      rw [er] at hQ
      refine qv (hQ h1 E1 C1) ?_
      unfold aCl
      rw [if_neg (by omega), if_neg (by omega), if_neg (by omega), if_neg (by omega), if_neg (by omega), if_pos (by omega)]
      first | exact b2i_t (by omega) | exact b2i_f (by omega)
  · exfalso; omega
  · exfalso; omega
  · exfalso; omega
  · exfalso; omega
  · exfalso; omega
  · exfalso; omega
  · exfalso; omega
  · exfalso; omega
  · exfalso; omega
  · refine wp_tsw 198 dX7_play_28 (by omega) (by omega) (170) (by rw [c28]; rfl) rfl ?_
    refine ic_1 dX7_play_198 ?_
    refine wp_iretz dX7_play_199 rfl (by omega) ?_
    have er : rCl L R s v w u = R := by unfold rCl; rw [if_neg (by omega), if_neg (by omega), if_neg (by omega), if_neg (by omega), if_neg (by omega), if_neg (by omega)]
    rw [er] at hQ
    exact qv (hQ h eqT.rf C) (by unfold aCl; rw [if_neg (by omega), if_neg (by omega), if_neg (by omega), if_neg (by omega), if_neg (by omega), if_neg (by omega)])
  · refine wp_tsw 198 dX7_play_28 (by omega) (by omega) (170) (by rw [c28]; rfl) rfl ?_
    refine ic_1 dX7_play_198 ?_
    refine wp_iretz dX7_play_199 rfl (by omega) ?_
    have er : rCl L R s v w u = R := by unfold rCl; rw [if_neg (by omega), if_neg (by omega), if_neg (by omega), if_neg (by omega), if_neg (by omega), if_neg (by omega)]
    rw [er] at hQ
    exact qv (hQ h eqT.rf C) (by unfold aCl; rw [if_neg (by omega), if_neg (by omega), if_neg (by omega), if_neg (by omega), if_neg (by omega), if_neg (by omega)])
  · refine wp_tsw 112 dX7_play_28 (by omega) (by omega) (84) (by rw [c28]; rfl) rfl ?_
    refine al_0 dX7_play_112 ?_
    refine il_3 dX7_play_113 ?_
    refine il_4 dX7_play_114 ?_
    refine c_X7_216 dX7_play_116 rfl tt2 (Nat.le_of_ble_eq_true rfl) (by omega) ?_
    refine uX7_tellPerson (by omega) C (fun h1 E1 C1 => ?_)
    refine pv_i ?_
    refine ic_m1 dX7_play_119 ?_
    refine wp_icmp_eq 127 dX7_play_120 rfl (fun c120 => ?_) (fun c120 => ?_)
    · refine ic_0 dX7_play_127 ?_
      refine wp_iretz dX7_play_128 rfl (by omega) ?_
      have er : rCl L R s v w u = rPer R v w := by unfold rCl; rw [if_pos (by omega)]
      rw [er] at hQ
      refine qv (hQ h1 E1 C1) ?_
      unfold aCl
      rw [if_pos (by omega)]
      first | exact b2i_t (by omega) | exact b2i_f (by omega)
    · refine ic_1 dX7_play_123 ?_
      refine wp_goto 128 dX7_play_124 rfl ?_
      refine wp_iretz dX7_play_128 rfl (by omega) ?_
      have er : rCl L R s v w u = rPer R v w := by unfold rCl; rw [if_pos (by omega)]
      rw [er] at hQ
      refine qv (hQ h1 E1 C1) ?_
      unfold aCl
      rw [if_pos (by omega)]
      first | exact b2i_t (by omega) | exact b2i_f (by omega)
  · refine wp_tsw 129 dX7_play_28 (by omega) (by omega) (101) (by rw [c28]; rfl) rfl ?_
    refine al_0 dX7_play_129 ?_
    refine il_3 dX7_play_130 ?_
    refine il_4 dX7_play_131 ?_
    refine c_X7_219 dX7_play_133 rfl (Nat.le_of_ble_eq_true rfl) (by omega) ?_
    have okk : (0 ≤ v ∧ v ≤ 9) ∧ 0 ≤ w ∧ w ≤ 9 := ok.2.1 (by omega)
    refine wX7_lampsFrom (by omega) (by omega) (by omega) (by omega) (by omega) ?_
    refine pv_i ?_
    refine c_X7_222 dX7_play_136 rfl tt2 (Nat.le_of_ble_eq_true rfl) (by omega) ?_
    refine uX7_tellDispute (by omega) C (fun h1 E1 C1 => ?_)
    refine pv_i ?_
    refine ic_m1 dX7_play_139 ?_
    refine wp_icmp_eq 147 dX7_play_140 rfl (fun c140 => ?_) (fun c140 => ?_)
    · refine ic_0 dX7_play_147 ?_
      refine wp_iretz dX7_play_148 rfl (by omega) ?_
      have er : rCl L R s v w u = rDis R (lampsFr v (w + 1).toNat) := by unfold rCl; rw [if_neg (by omega), if_pos (by omega)]
      rw [er] at hQ
      refine qv (hQ h1 E1 C1) ?_
      unfold aCl
      rw [if_neg (by omega), if_pos (by omega)]
      first | exact b2i_t (by omega) | exact b2i_f (by omega)
    · refine ic_1 dX7_play_143 ?_
      refine wp_goto 148 dX7_play_144 rfl ?_
      refine wp_iretz dX7_play_148 rfl (by omega) ?_
      have er : rCl L R s v w u = rDis R (lampsFr v (w + 1).toNat) := by unfold rCl; rw [if_neg (by omega), if_pos (by omega)]
      rw [er] at hQ
      refine qv (hQ h1 E1 C1) ?_
      unfold aCl
      rw [if_neg (by omega), if_pos (by omega)]
      first | exact b2i_t (by omega) | exact b2i_f (by omega)
  · refine wp_tsw 149 dX7_play_28 (by omega) (by omega) (121) (by rw [c28]; rfl) rfl ?_
    refine al_0 dX7_play_149 ?_
    refine il_3 dX7_play_150 ?_
    refine il_4 dX7_play_151 ?_
    refine il_5 dX7_play_153 ?_
    refine c_X7_225 dX7_play_155 rfl tt2 (Nat.le_of_ble_eq_true rfl) (by omega) ?_
    refine uX7_argueByHand (by omega) C (fun h1 E1 C1 => ?_)
    refine pv_i ?_
    refine ic_m1 dX7_play_158 ?_
    refine wp_icmp_eq 166 dX7_play_159 rfl (fun c159 => ?_) (fun c159 => ?_)
    · refine ic_0 dX7_play_166 ?_
      refine wp_iretz dX7_play_167 rfl (by omega) ?_
      have er : rCl L R s v w u = rArgue L R v w u := by unfold rCl; rw [if_neg (by omega), if_neg (by omega), if_pos (by omega)]
      rw [er] at hQ
      refine qv (hQ h1 E1 C1) ?_
      unfold aCl
      rw [if_neg (by omega), if_neg (by omega), if_pos (by omega)]
      first | exact b2i_t (by omega) | exact b2i_f (by omega)
    · refine ic_1 dX7_play_162 ?_
      refine wp_goto 167 dX7_play_163 rfl ?_
      refine wp_iretz dX7_play_167 rfl (by omega) ?_
      have er : rCl L R s v w u = rArgue L R v w u := by unfold rCl; rw [if_neg (by omega), if_neg (by omega), if_pos (by omega)]
      rw [er] at hQ
      refine qv (hQ h1 E1 C1) ?_
      unfold aCl
      rw [if_neg (by omega), if_neg (by omega), if_pos (by omega)]
      first | exact b2i_t (by omega) | exact b2i_f (by omega)
  · refine wp_tsw 168 dX7_play_28 (by omega) (by omega) (140) (by rw [c28]; rfl) rfl ?_
    refine al_0 dX7_play_168 ?_
    refine il_4 dX7_play_169 ?_
    refine il_3 dX7_play_171 ?_
    refine c_X7_228 dX7_play_172 rfl tt2 (Nat.le_of_ble_eq_true rfl) (by omega) ?_
    refine uX7_pourByHand (by omega) C (fun h1 E1 C1 => ?_)
    refine pv_i ?_
    refine wp_iretz dX7_play_175 rfl (by unfold aPourH; split <;> omega) ?_
    have er : rCl L R s v w u = rPourH R w v := by unfold rCl; rw [if_neg (by omega), if_neg (by omega), if_neg (by omega), if_pos (by omega)]
    rw [er] at hQ
    refine qv (hQ h1 E1 C1) ?_
    unfold aCl
    rw [if_neg (by omega), if_neg (by omega), if_neg (by omega), if_pos (by omega)]
  · refine wp_tsw 176 dX7_play_28 (by omega) (by omega) (148) (by rw [c28]; rfl) rfl ?_
    refine al_0 dX7_play_176 ?_
    refine il_3 dX7_play_177 ?_
    refine c_X7_231 dX7_play_178 rfl tt2 (Nat.le_of_ble_eq_true rfl) (by omega) ?_
    refine uX7_snuffByHand (by omega) C (fun h1 E1 C1 => ?_)
    refine pv_i ?_
    refine wp_iretz dX7_play_181 rfl (by unfold aSnuffH; split <;> omega) ?_
    have er : rCl L R s v w u = rSnuffH R v := by unfold rCl; rw [if_neg (by omega), if_neg (by omega), if_neg (by omega), if_neg (by omega), if_pos (by omega)]
    rw [er] at hQ
    refine qv (hQ h1 E1 C1) ?_
    unfold aCl
    rw [if_neg (by omega), if_neg (by omega), if_neg (by omega), if_neg (by omega), if_pos (by omega)]

theorem wX8_played_26 {G : GT} {δ : Nat} {hl : Nat → Int → Int} {b : Bool × Bool} {Q : V → Hp → Prop} {L : Laws} {T : Int → Int} {t : Int} (hδ : δ ≤ 1560) (t0 : 0 ≤ t) (t1 : t < 4) :
    ∀ (m : Nat) (k : Int) (h : Nat → Int → Int) (R : Int → Int), (T (705 * t) - k).toNat = m → 0 ≤ k → k ≤ T (705 * t) → CT h R L → ClS h (22 + 4 * t.toNat) T t →
      (∀ h', eqT h h' → CT h' (plR L T t m k R) L → Q (vi (plA L T t m k R)) (HS h' hl b)) → WP G δ 0 0 MX8_played 26 [vr 1, vi t, vr (22 + 4 * t.toNat), vi k] [] (HS h hl b) Q := by
  have ts := (tt_scripts t.toNat (by omega)).1
  intro m
  induction m with
  | zero =>
    intro k h R hm k0 k1 C cl hQ

    refine il_3 dX8_played_26 ?_
    refine al_2 dX8_played_27 ?_
    refine g_X8_126 dX8_played_28 rfl ts ?_
    rw [cl.1]
    refine wp_icmp_ge 54 dX8_played_31 rfl (fun c31 => ?_) (fun c31 => ?_)
    · refine ic_m1 dX8_played_54 ?_
      refine wp_ireti dX8_played_55 rfl ?_
      exact hQ h eqT.rf C
    · omega
  | succ m ih =>
    intro k h R hm k0 k1 C cl hQ
    have K := cl.2.2 k k0 (by omega)
    have ce := cl_eq (L := L) (R := R) K
    have c0 := cl.1
    have c2 := cl.2.1
    refine il_3 dX8_played_26 ?_
    refine al_2 dX8_played_27 ?_
    refine g_X8_126 dX8_played_28 rfl ts ?_
    rw [cl.1]
    refine wp_icmp_ge 54 dX8_played_31 rfl (fun c31 => ?_) (fun c31 => ?_)
    · omega
    · refine al_0 dX8_played_34 ?_
      refine g_X8_12 (2) dX8_played_35 rfl tt1 (rr8_0 tt1) (by omega) ?_
      refine al_2 dX8_played_38 ?_
      refine il_3 dX8_played_39 ?_
      refine c_X8_129 dX8_played_40 rfl tt2 (Nat.le_of_ble_eq_true rfl) (by omega) ?_
      refine wX7_play (by omega) C ts (by omega) k0 (by omega) K.1 K.2.1 rfl rfl rfl K.2.2.1 (fun h1 E1 C1 => ?_)
      rw [ce.1] at C1
      rw [ce.2]
      refine pv_i ?_
      refine wp_if_ne 48 dX8_played_43 rfl (fun c43 => ?_) (fun c43 => ?_)
      · refine ii_3 dX8_played_48 rfl (by decide) ⟨by decide, by decide⟩ (r32 (by omega) (by omega)) ?_
        refine wp_goto 26 dX8_played_51 rfl ?_
        have en : cA L T t k R ≠ 0 := c43
        have ep : plR L T t (m + 1) k R = plR L T t m (k + 1) (cT L T t k R) := if_neg en
        have ea : plA L T t (m + 1) k R = plA L T t m (k + 1) (cT L T t k R) := if_neg en
        rw [ep, ea] at hQ
        exact ih (k + 1) h1 _ (by omega) (by omega) (by omega) C1 (cl.c (fun x x0 x1 => E1 x (by omega))) (fun h2 E2 C2 => hQ h2 (E1.tr E2) C2)
      · refine il_3 dX8_played_46 ?_
        refine wp_ireti dX8_played_47 rfl ?_
        have ep : plR L T t (m + 1) k R = cT L T t k R := if_pos c43
        have ea : plA L T t (m + 1) k R = k := if_pos c43
        rw [ep, ea] at hQ
        exact hQ h1 E1 C1

theorem wX8_played {G : GT} {δ : Nat} {h hl : Nat → Int → Int} {b : Bool × Bool} {Q : V → Hp → Prop} {t : Int} {T : Int → Int} {R : Int → Int} {L : Laws} (hδ : δ ≤ 1560) (C : CT h R L) (cl : ClT h 2 T (R 2)) (hQ : ∀ h', eqT h h' → CT h' (rPlayed L T R t) L → Q (vi (aPlayed L T R t)) (HS h' hl b)) : WP G δ 0 0 MX8_played 0 [vr (1), vi t, vn, vn] [] (HS h hl b) Q := by
  obtain ⟨⟨s0, s3, s4, s1, s2, s5⟩, ⟨t0, t1, t5, t6, t7⟩, ⟨g7, g8, g11, g10, g10x⟩⟩ := C.1.f
  have vn' := C.2.1.n
  have vw := C.2.1.w
  refine al_0 dX8_played_0 ?_
  refine g_X8_12 (2) dX8_played_1 rfl tt1 (rr8_0 tt1) (by omega) ?_
  refine il_1 dX8_played_4 ?_
  refine c_X8_94 dX8_played_5 rfl tt2 (Nat.le_of_ble_eq_true rfl) (by omega) ?_
  refine wX7_hasText (by omega) ?_
  rw [g7]
  refine pv_i ?_
  refine wp_if_ne 14 dX8_played_8 rfl (fun c8 => ?_) (fun c8 => ?_)
  · rw [b2i_n0] at c8
    have ts := (tt_scripts t.toNat (by omega)).1
    refine al_0 dX8_played_14 ?_
    refine g_X8_12 (2) dX8_played_15 rfl tt1 (rr8_0 tt1) (by omega) ?_
    refine g_X8_70 (17) dX8_played_18 rfl tt2 (rr7_6 tt2) (by omega) ?_
    refine il_1 dX8_played_21 ?_
    refine wp_aaload (22 + 4 * t.toNat) dX8_played_22 tt17 (Or.inl rfl) (by omega) (by omega) (rr17 (by omega) (by omega)) (by omega) ?_
    refine as_2 dX8_played_23 rfl (by decide) ?_
    refine ic_0 dX8_played_24 ?_
    refine is_3 dX8_played_25 rfl (by decide) ?_
    have cs : ClS h (22 + 4 * t.toNat) T t := cl t (by omega) (by omega)
    have e1 : rPlayed L T R t = plR L T t (T (705 * t)).toNat 0 R := if_pos c8
    have e2 : aPlayed L T R t = plA L T t (T (705 * t)).toNat 0 R := if_pos c8
    rw [e1, e2] at hQ
    have c2 := cs.2.1
    exact wX8_played_26 (by omega) (by omega) (by omega) (T (705 * t)).toNat 0 h R (by omega) (by omega) (by omega) C cs hQ
  · rw [b2i_0] at c8
    refine bi_m2 dX8_played_11 ?_
    refine wp_ireti dX8_played_13 rfl ?_
    have e1 : rPlayed L T R t = R := if_neg c8
    rw [e1] at hQ
    exact qv (hQ h eqT.rf C) (if_neg c8)

theorem wX9_turnsOf_4 {G : GT} {δ : Nat} {h hl : Nat → Int → Int} {b : Bool × Bool} {Q : V → Hp → Prop} {l m : Int} (hδ : δ ≤ 1700) (l0 : 0 ≤ l) (l1 : l < 10) (m0 : 0 ≤ m) (m1 : m < 10) : ∀ (n : Nat) (v : Int) (i : Int), ((m + 1 - i).toNat) < n → (0 ≤ i) → (i ≤ m + 1) → (v = lampsFr l i.toNat) → (Q (vi (lampsFr l (m + 1).toNat)) (HS h hl b)) → WP G δ 0 0 MX9_turnsOf 4 [vi l, vi m, vi v, vi i] [] (HS h hl b) Q := by
  intro n
  induction n with
  | zero => intro v i hlt; exact absurd hlt (Nat.not_lt_zero _)
  | succ n ih =>
    intro v i hlt i0 i1 hv hQ
    refine il_3 dX9_turnsOf_4 ?_
    refine il_1 dX9_turnsOf_5 ?_
    refine wp_icmp_gt 26 dX9_turnsOf_6 rfl (fun c6 => ?_) (fun c6 => ?_)
    · have e : i = m + 1 := by omega
      subst e
      refine il_2 dX9_turnsOf_26 ?_
      refine wp_ireti dX9_turnsOf_27 rfl ?_
      exact qv hQ hv.symm
    · refine il_2 dX9_turnsOf_9 ?_
      refine ic_1 dX9_turnsOf_10 ?_
      refine il_0 dX9_turnsOf_11 ?_
      refine il_3 dX9_turnsOf_12 ?_
      refine wp_iadd dX9_turnsOf_13 (r32 (by omega) (by omega)) ?_
      refine bi_10 dX9_turnsOf_14 ?_
      refine wp_iremN dX9_turnsOf_16 (by omega) (by omega) ?_
      refine wp_ishl dX9_turnsOf_17 ?_
      refine wp_ior dX9_turnsOf_18 ?_
      refine is_2 dX9_turnsOf_19 rfl (by decide) ?_
      refine ii_3 dX9_turnsOf_20 rfl (by decide) ⟨by decide, by decide⟩ (r32 (by omega) (by omega)) ?_
      refine wp_goto 4 dX9_turnsOf_23 rfl ?_
      refine ih _ (i + 1) (by omega) (by omega) (by omega) ?_ hQ
      rw [show (i + 1).toNat = i.toNat + 1 by omega, hv, show lampsFr l (i.toNat + 1) = bor (lampsFr l i.toNat) (shl 1 ((l + (i.toNat : Int)) % 10)) from rfl, show ((i.toNat : Nat) : Int) = i by omega]

theorem wX9_turnsOf {G : GT} {δ : Nat} {h hl : Nat → Int → Int} {b : Bool × Bool} {Q : V → Hp → Prop} {l m : Int} (hδ : δ ≤ 1700) (l0 : 0 ≤ l) (l1 : l < 10) (m0 : 0 ≤ m) (m1 : m < 10) (hQ : Q (vi (lampsFr l (m + 1).toNat)) (HS h hl b)) : WP G δ 0 0 MX9_turnsOf 0 [vi l, vi m, vn, vn] [] (HS h hl b) Q := by
  refine ic_0 dX9_turnsOf_0 ?_
  refine is_2 dX9_turnsOf_1 rfl (by decide) ?_
  refine ic_0 dX9_turnsOf_2 ?_
  refine is_3 dX9_turnsOf_3 rfl (by decide) ?_
  exact wX9_turnsOf_4 hδ l0 l1 m0 m1 _ 0 0 (Nat.lt_succ_self _) (by omega) (by omega) rfl hQ

theorem wX9_isPlayed {G : GT} {δ : Nat} {h hl : Nat → Int → Int} {b : Bool × Bool} {Q : V → Hp → Prop} {x s v w u : Int} {R : Int → Int} {L : Laws} (hδ : δ ≤ 1540) (M : MT h R L) (hwr : h 336 23 = 1) (x0 : 0 ≤ x) (x1 : x < 2817) (hs : 0 ≤ s ∧ s ≤ 7) (es : h 339 x = s) (ev : h 339 (x + 1) = v) (ew : h 339 (x + 2) = w) (eu : h 339 (x + 3) = u) (ok : ClOK s v w u) (hQ : ∀ h' hl', eqM h h' → MT h' (rCl L R s v w u) L → Q (vi (aCl L R s v w u)) (HS h' hl' b)) : WP G δ 0 0 MX9_isPlayed 0 [vr (336), vi x, vn, vn] [] (HS h hl b) Q := by
  refine al_0 dX9_isPlayed_0 ?_
  refine g_X9_16 (339) dX9_isPlayed_1 rfl tt336 (rr9_2 tt336) (by omega) ?_
  refine il_1 dX9_isPlayed_4 ?_
  refine ic_1 dX9_isPlayed_5 ?_
  refine wp_iadd dX9_isPlayed_6 (r32 (by omega) (by omega)) ?_
  refine wp_iaload dX9_isPlayed_7 tt339 (by omega) (by omega) ?_
  rw [ev]
  refine is_2 dX9_isPlayed_8 rfl (by decide) ?_
  refine al_0 dX9_isPlayed_9 ?_
  refine g_X9_16 (339) dX9_isPlayed_10 rfl tt336 (rr9_2 tt336) (by omega) ?_
  refine il_1 dX9_isPlayed_13 ?_
  refine ic_2 dX9_isPlayed_14 ?_
  refine wp_iadd dX9_isPlayed_15 (r32 (by omega) (by omega)) ?_
  refine wp_iaload dX9_isPlayed_16 tt339 (by omega) (by omega) ?_
  rw [ew]
  refine is_3 dX9_isPlayed_17 rfl (by decide) ?_
  refine al_0 dX9_isPlayed_18 ?_
  refine g_X9_16 (339) dX9_isPlayed_19 rfl tt336 (rr9_2 tt336) (by omega) ?_
  refine il_1 dX9_isPlayed_22 ?_
  refine wp_iaload dX9_isPlayed_23 tt339 (by omega) (by omega) ?_
  rw [es]
  rcases (show ((s) < 2 ∨ 7 < (s)) ∨ ((s) = 2) ∨ ((s) = 3) ∨ ((s) = 4) ∨ ((s) = 5) ∨ ((s) = 6) ∨ ((s) = 7) by omega) with c24 | c24 | c24 | c24 | c24 | c24 | c24
  · refine wp_tswD 139 dX9_isPlayed_24 (by omega) rfl ?_
    refine ic_1 dX9_isPlayed_139 ?_
    refine wp_iretz dX9_isPlayed_140 rfl (by omega) ?_
    have er : rCl L R s v w u = R := by unfold rCl; rw [if_neg (by omega), if_neg (by omega), if_neg (by omega), if_neg (by omega), if_neg (by omega), if_neg (by omega)]
    rw [er] at hQ
    exact qv (hQ h hl eqM.rf M) (by unfold aCl; rw [if_neg (by omega), if_neg (by omega), if_neg (by omega), if_neg (by omega), if_neg (by omega), if_neg (by omega)])
  · refine wp_tsw 64 dX9_isPlayed_24 (by omega) (by omega) (40) (by rw [c24]; rfl) rfl ?_
    refine al_0 dX9_isPlayed_64 ?_
    refine il_2 dX9_isPlayed_65 ?_
    refine il_3 dX9_isPlayed_66 ?_
    refine c_X9_362 dX9_isPlayed_67 rfl tt336 (Nat.le_of_ble_eq_true rfl) (by omega) ?_
    refine uX9_person (by omega) M (fun h1 hl1 E1 M1 => ?_)
    have ar := aPer_R (v := v) (w := w) M.2.1
    refine pv_i ?_
    refine wp_if_lt 77 dX9_isPlayed_70 rfl (fun c70 => ?_) (fun c70 => ?_)
    · refine ic_0 dX9_isPlayed_77 ?_
      refine wp_iretz dX9_isPlayed_78 rfl (by omega) ?_
      have er : rCl L R s v w u = rPer R v w := by unfold rCl; rw [if_pos (by omega)]
      rw [er] at hQ
      refine qv (hQ h1 hl1 E1 M1) ?_
      unfold aCl
      rw [if_pos (by omega)]
      first | exact b2i_t (by omega) | exact b2i_f (by omega)
    · refine ic_1 dX9_isPlayed_73 ?_
      refine wp_goto 78 dX9_isPlayed_74 rfl ?_
      refine wp_iretz dX9_isPlayed_78 rfl (by omega) ?_
      have er : rCl L R s v w u = rPer R v w := by unfold rCl; rw [if_pos (by omega)]
      rw [er] at hQ
      refine qv (hQ h1 hl1 E1 M1) ?_
      unfold aCl
      rw [if_pos (by omega)]
      first | exact b2i_t (by omega) | exact b2i_f (by omega)
  · refine wp_tsw 79 dX9_isPlayed_24 (by omega) (by omega) (55) (by rw [c24]; rfl) rfl ?_
    refine al_0 dX9_isPlayed_79 ?_
    refine il_2 dX9_isPlayed_80 ?_
    refine il_3 dX9_isPlayed_81 ?_
    refine c_X9_365 dX9_isPlayed_82 rfl (Nat.le_of_ble_eq_true rfl) (by omega) ?_
    have okk : (0 ≤ v ∧ v ≤ 9) ∧ 0 ≤ w ∧ w ≤ 9 := ok.2.1 (by omega)
    refine wX9_turnsOf (by omega) (by omega) (by omega) (by omega) (by omega) ?_
    refine pv_i ?_
    refine c_X9_368 dX9_isPlayed_85 rfl tt336 (Nat.le_of_ble_eq_true rfl) (by omega) ?_
    refine uX9_dispute (by omega) M (fun h1 hl1 E1 M1 => ?_)
    have ar := aDis_R (v := lampsFr v (w + 1).toNat) M.2.1
    refine pv_i ?_
    refine wp_if_lt 95 dX9_isPlayed_88 rfl (fun c88 => ?_) (fun c88 => ?_)
    · refine ic_0 dX9_isPlayed_95 ?_
      refine wp_iretz dX9_isPlayed_96 rfl (by omega) ?_
      have er : rCl L R s v w u = rDis R (lampsFr v (w + 1).toNat) := by unfold rCl; rw [if_neg (by omega), if_pos (by omega)]
      rw [er] at hQ
      refine qv (hQ h1 hl1 E1 M1) ?_
      unfold aCl
      rw [if_neg (by omega), if_pos (by omega)]
      first | exact b2i_t (by omega) | exact b2i_f (by omega)
    · refine ic_1 dX9_isPlayed_91 ?_
      refine wp_goto 96 dX9_isPlayed_92 rfl ?_
      refine wp_iretz dX9_isPlayed_96 rfl (by omega) ?_
      have er : rCl L R s v w u = rDis R (lampsFr v (w + 1).toNat) := by unfold rCl; rw [if_neg (by omega), if_pos (by omega)]
      rw [er] at hQ
      refine qv (hQ h1 hl1 E1 M1) ?_
      unfold aCl
      rw [if_neg (by omega), if_pos (by omega)]
      first | exact b2i_t (by omega) | exact b2i_f (by omega)
  · refine wp_tsw 97 dX9_isPlayed_24 (by omega) (by omega) (73) (by rw [c24]; rfl) rfl ?_
    refine al_0 dX9_isPlayed_97 ?_
    refine il_2 dX9_isPlayed_98 ?_
    refine il_3 dX9_isPlayed_99 ?_
    refine al_0 dX9_isPlayed_100 ?_
    refine g_X9_16 (339) dX9_isPlayed_101 rfl tt336 (rr9_2 tt336) (by omega) ?_
    refine il_1 dX9_isPlayed_104 ?_
    refine ic_3 dX9_isPlayed_105 ?_
    refine wp_iadd dX9_isPlayed_106 (r32 (by omega) (by omega)) ?_
    refine wp_iaload dX9_isPlayed_107 tt339 (by omega) (by omega) ?_
    rw [eu]
    refine c_X9_371 dX9_isPlayed_108 rfl tt336 (Nat.le_of_ble_eq_true rfl) (by omega) ?_
    refine uX9_argue (by omega) M hwr (fun h1 hl1 E1 M1 => ?_)
    have ar := aArgue_R (L := L) (v := v) (w := w) (u := u) M.2.1
    refine pv_i ?_
    refine wp_if_lt 118 dX9_isPlayed_111 rfl (fun c111 => ?_) (fun c111 => ?_)
    · refine ic_0 dX9_isPlayed_118 ?_
      refine wp_iretz dX9_isPlayed_119 rfl (by omega) ?_
      have er : rCl L R s v w u = rArgue L R v w u := by unfold rCl; rw [if_neg (by omega), if_neg (by omega), if_pos (by omega)]
      rw [er] at hQ
      refine qv (hQ h1 hl1 E1 M1) ?_
      unfold aCl
      rw [if_neg (by omega), if_neg (by omega), if_pos (by omega)]
      first | exact b2i_t (by omega) | exact b2i_f (by omega)
    · refine ic_1 dX9_isPlayed_114 ?_
      refine wp_goto 119 dX9_isPlayed_115 rfl ?_
      refine wp_iretz dX9_isPlayed_119 rfl (by omega) ?_
      have er : rCl L R s v w u = rArgue L R v w u := by unfold rCl; rw [if_neg (by omega), if_neg (by omega), if_pos (by omega)]
      rw [er] at hQ
      refine qv (hQ h1 hl1 E1 M1) ?_
      unfold aCl
      rw [if_neg (by omega), if_neg (by omega), if_pos (by omega)]
      first | exact b2i_t (by omega) | exact b2i_f (by omega)
  · refine wp_tsw 120 dX9_isPlayed_24 (by omega) (by omega) (96) (by rw [c24]; rfl) rfl ?_
    refine al_0 dX9_isPlayed_120 ?_
    refine il_3 dX9_isPlayed_121 ?_
    refine il_2 dX9_isPlayed_122 ?_
    refine c_X9_374 dX9_isPlayed_123 rfl tt336 (Nat.le_of_ble_eq_true rfl) (by omega) ?_
    refine uX9_pour (by omega) M hwr (fun h1 hl1 E1 M1 => ?_)
    refine pv_i ?_
    refine wp_iretz dX9_isPlayed_126 rfl (by unfold aPourH; split <;> omega) ?_
    have er : rCl L R s v w u = rPourH R w v := by unfold rCl; rw [if_neg (by omega), if_neg (by omega), if_neg (by omega), if_pos (by omega)]
    rw [er] at hQ
    refine qv (hQ h1 hl1 E1 M1) ?_
    unfold aCl
    rw [if_neg (by omega), if_neg (by omega), if_neg (by omega), if_pos (by omega)]
  · refine wp_tsw 127 dX9_isPlayed_24 (by omega) (by omega) (103) (by rw [c24]; rfl) rfl ?_
    refine al_0 dX9_isPlayed_127 ?_
    refine il_2 dX9_isPlayed_128 ?_
    refine c_X9_377 dX9_isPlayed_129 rfl tt336 (Nat.le_of_ble_eq_true rfl) (by omega) ?_
    refine uX9_snuff (by omega) M hwr (fun h1 hl1 E1 M1 => ?_)
    refine pv_i ?_
    refine wp_iretz dX9_isPlayed_132 rfl (by unfold aSnuffH; split <;> omega) ?_
    have er : rCl L R s v w u = rSnuffH R v := by unfold rCl; rw [if_neg (by omega), if_neg (by omega), if_neg (by omega), if_neg (by omega), if_pos (by omega)]
    rw [er] at hQ
    refine qv (hQ h1 hl1 E1 M1) ?_
    unfold aCl
    rw [if_neg (by omega), if_neg (by omega), if_neg (by omega), if_neg (by omega), if_pos (by omega)]
  · refine wp_tsw 133 dX9_isPlayed_24 (by omega) (by omega) (109) (by rw [c24]; rfl) rfl ?_
    refine al_0 dX9_isPlayed_133 ?_
    refine il_2 dX9_isPlayed_134 ?_
    refine c_X9_359 dX9_isPlayed_135 rfl tt336 (Nat.le_of_ble_eq_true rfl) (by omega) ?_
    have okk : 1 ≤ v ∧ v ≤ 60 := ok.2.2.2.2.2 (by omega)
    refine wX9_arePassed (wB := true) (by omega) M hwr (by omega) (by omega) (fun h1 hl1 E1 M1 b1 => ?_)
    refine pv_i ?_
    refine wp_iretz dX9_isPlayed_138 rfl b2i_01 ?_
    have er : rCl L R s v w u = rNts L true true v.toNat R := by unfold rCl; rw [if_neg (by omega), if_neg (by omega), if_neg (by omega), if_neg (by omega), if_neg (by omega), if_pos (by omega)]
    rw [er] at hQ
    refine qv (hQ h1 hl1 E1 M1) ?_
    unfold aCl
    rw [if_neg (by omega), if_neg (by omega), if_neg (by omega), if_neg (by omega), if_neg (by omega), if_pos (by omega)]

theorem wX9_played_21 {G : GT} {δ : Nat} {b : Bool × Bool} {Q : V → Hp → Prop} {L : Laws} {T : Int → Int} {t : Int} (hδ : δ ≤ 1520) (t0 : 0 ≤ t) (t1 : t < 4) (T0 : 0 ≤ T (705 * t)) (T1 : T (705 * t) ≤ 24)
    (ok : ∀ k : Int, 0 ≤ k → k < T (705 * t) → (0 ≤ T (705 * t + 1 + 4 * k) ∧ T (705 * t + 1 + 4 * k) ≤ 7) ∧ ClOK (T (705 * t + 1 + 4 * k)) (T (705 * t + 1 + 4 * k + 1)) (T (705 * t + 1 + 4 * k + 2)) (T (705 * t + 1 + 4 * k + 3))) :
    ∀ (m : Nat) (k : Int) (h hl : Nat → Int → Int) (R : Int → Int), (T (705 * t) - k).toNat = m → 0 ≤ k → k ≤ T (705 * t) → MT h R L → h 339 = T → h 336 23 = 1 →
      (∀ h' hl', eqM h h' → MT h' (plR L T t m k R) L → Q (vi (plA L T t m k R)) (HS h' hl' b)) → WP G δ 0 0 MX9_played 21 [vr 336, vi t, vi k] [] (HS h hl b) Q := by
  intro m
  induction m with
  | zero =>
    intro k h hl R hm k0 k1 M hT hw hQ

    refine il_2 dX9_played_21 ?_
    refine al_0 dX9_played_22 ?_
    refine g_X9_16 (339) dX9_played_23 rfl tt336 (rr9_2 tt336) (by omega) ?_
    refine si_705 dX9_played_26 ?_
    refine il_1 dX9_played_29 ?_
    refine wp_imul dX9_played_30 (r32 (by omega) (by omega)) ?_
    refine wp_iaload dX9_played_31 tt339 (by omega) (by omega) ?_
    rw [hT]
    refine wp_icmp_ge 61 dX9_played_32 rfl (fun c32 => ?_) (fun c32 => ?_)
    · refine ic_m1 dX9_played_61 ?_
      refine wp_ireti dX9_played_62 rfl ?_
      exact hQ h hl eqM.rf M
    · omega
  | succ m ih =>
    intro k h hl R hm k0 k1 M hT hw hQ
    obtain ⟨o1, o2⟩ := ok k k0 (by omega)
    refine il_2 dX9_played_21 ?_
    refine al_0 dX9_played_22 ?_
    refine g_X9_16 (339) dX9_played_23 rfl tt336 (rr9_2 tt336) (by omega) ?_
    refine si_705 dX9_played_26 ?_
    refine il_1 dX9_played_29 ?_
    refine wp_imul dX9_played_30 (r32 (by omega) (by omega)) ?_
    refine wp_iaload dX9_played_31 tt339 (by omega) (by omega) ?_
    rw [hT]
    refine wp_icmp_ge 61 dX9_played_32 rfl (fun c32 => ?_) (fun c32 => ?_)
    · omega
    · refine al_0 dX9_played_35 ?_
      refine si_705 dX9_played_36 ?_
      refine il_1 dX9_played_39 ?_
      refine wp_imul dX9_played_40 (r32 (by omega) (by omega)) ?_
      refine ic_1 dX9_played_41 ?_
      refine wp_iadd dX9_played_42 (r32 (by omega) (by omega)) ?_
      refine ic_4 dX9_played_43 ?_
      refine il_2 dX9_played_44 ?_
      refine wp_imul dX9_played_45 (r32 (by omega) (by omega)) ?_
      refine wp_iadd dX9_played_46 (r32 (by omega) (by omega)) ?_
      refine c_X9_380 dX9_played_47 rfl tt336 (Nat.le_of_ble_eq_true rfl) (by omega) ?_
      refine wX9_isPlayed (by omega) M hw (by omega) (by omega) o1 (by rw [hT]) (by rw [hT]) (by rw [hT]) (by rw [hT]) o2 (fun h1 hl1 E1 M1 => ?_)
      rw [show rCl L R (T (705 * t + 1 + 4 * k)) (T (705 * t + 1 + 4 * k + 1)) (T (705 * t + 1 + 4 * k + 2)) (T (705 * t + 1 + 4 * k + 3)) = cT L T t k R from rfl] at M1
      rw [show aCl L R (T (705 * t + 1 + 4 * k)) (T (705 * t + 1 + 4 * k + 1)) (T (705 * t + 1 + 4 * k + 2)) (T (705 * t + 1 + 4 * k + 3)) = cA L T t k R from rfl]
      refine pv_i ?_
      refine wp_if_ne 55 dX9_played_50 rfl (fun c50 => ?_) (fun c50 => ?_)
      · refine ii_2 dX9_played_55 rfl (by decide) ⟨by decide, by decide⟩ (r32 (by omega) (by omega)) ?_
        refine wp_goto 21 dX9_played_58 rfl ?_
        have en : cA L T t k R ≠ 0 := c50
        have ep : plR L T t (m + 1) k R = plR L T t m (k + 1) (cT L T t k R) := if_neg en
        have ea : plA L T t (m + 1) k R = plA L T t m (k + 1) (cT L T t k R) := if_neg en
        rw [ep, ea] at hQ
        exact ih (k + 1) h1 hl1 _ (by omega) (by omega) (by omega) M1 (by rw [E1.o (by decide)]; exact hT) (by rw [E1.2 23 (by decide)]; exact hw) (fun h2 hl2 E2 M2 => hQ h2 hl2 (E1.tr E2) M2)
      · refine il_2 dX9_played_53 ?_
        refine wp_ireti dX9_played_54 rfl ?_
        have ep : plR L T t (m + 1) k R = cT L T t k R := if_pos c50
        have ea : plA L T t (m + 1) k R = k := if_pos c50
        rw [ep, ea] at hQ
        exact hQ h1 hl1 E1 M1

theorem wX9_played {G : GT} {δ : Nat} {h hl : Nat → Int → Int} {b : Bool × Bool} {Q : V → Hp → Prop} {t : Int} {T : Int → Int} {R : Int → Int} {L : Laws} (hδ : δ ≤ 1520) (M : MT h R L) (hT : h 339 = T) (hw : h 336 23 = 1) (ok : ∀ i : Int, 0 ≤ i → i < R 2 → (0 ≤ T (705 * i) ∧ T (705 * i) ≤ 24) ∧ ∀ k : Int, 0 ≤ k → k < T (705 * i) → (0 ≤ T (705 * i + 1 + 4 * k) ∧ T (705 * i + 1 + 4 * k) ≤ 7) ∧ ClOK (T (705 * i + 1 + 4 * k)) (T (705 * i + 1 + 4 * k + 1)) (T (705 * i + 1 + 4 * k + 2)) (T (705 * i + 1 + 4 * k + 3))) (hQ : ∀ h' hl', eqM h h' → MT h' (rPlayed L T R t) L → Q (vi (aPlayed L T R t)) (HS h' hl' b)) : WP G δ 0 0 MX9_played 0 [vr (336), vi t, vn] [] (HS h hl b) Q := by
  have m := M.1
  have V := M.2.1
  have vn' := V.n
  have vw := V.w
  refine il_1 dX9_played_0 ?_
  refine ic_0 dX9_played_1 ?_
  refine al_0 dX9_played_2 ?_
  refine g_X9_7 (337) dX9_played_3 rfl tt336 (rr9_0 tt336) (by omega) ?_
  refine ic_2 dX9_played_6 ?_
  refine wp_iaload dX9_played_7 tt337 (by omega) (by omega) ?_
  first | rw [m2] | rw [m1] | rw [m] | rw [sw_s] | skip
  refine ic_1 dX9_played_8 ?_
  refine wp_isub dX9_played_9 (r32 (by omega) (by omega)) ?_
  refine c_X9_69 dX9_played_10 rfl (Nat.le_of_ble_eq_true rfl) (by omega) ?_
  refine wX9_isIn (by omega) ?_
  refine pv_i ?_
  refine wp_if_ne 19 dX9_played_13 rfl (fun c13 => ?_) (fun c13 => ?_)
  · rw [b2i_n0] at c13
    refine ic_0 dX9_played_19 ?_
    refine is_2 dX9_played_20 rfl (by decide) ?_
    have yt : 0 ≤ t ∧ t < R 2 := by omega
    have e1 : rPlayed L T R t = plR L T t (T (705 * t)).toNat 0 R := if_pos yt
    have e2 : aPlayed L T R t = plA L T t (T (705 * t)).toNat 0 R := if_pos yt
    rw [e1, e2] at hQ
    obtain ⟨o1, o2⟩ := ok t yt.1 yt.2
    exact wX9_played_21 (by omega) (by omega) (by omega) o1.1 o1.2 o2 (T (705 * t)).toNat 0 h hl R (by omega) (by omega) (by omega) M hT hw hQ
  · rw [b2i_0] at c13
    refine bi_m2 dX9_played_16 ?_
    refine wp_ireti dX9_played_18 rfl ?_
    have nt : ¬ (0 ≤ t ∧ t < R 2) := by omega
    have e1 : rPlayed L T R t = R := if_neg nt
    rw [e1] at hQ
    exact qv (hQ h hl eqM.rf M) (if_neg nt)
