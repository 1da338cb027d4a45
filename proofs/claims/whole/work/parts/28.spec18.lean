/-! the model's steps -/
theorem up_ur {h : Nat → Int → Int} {o : Nat} {k x : Int} : up h o k x o = ur (h o) k x := by
  funext j; unfold up ur; by_cases e : j = k <;> simp [e]
/-- all but the model's row, and what its laws use -/
def eqM (h h' : Nat → Int → Int) : Prop := eqX [336, 337, 342, 344] h h' ∧ ∀ k : Int, k ≠ 24 → h' 336 k = h 336 k
section EQM
variable {h h' h'' : Nat → Int → Int}
theorem eqM.rf : eqM h h := ⟨eqX.rf, fun _ _ => rfl⟩
theorem eqM.tr (a : eqM h h') (c : eqM h' h'') : eqM h h'' := ⟨a.1.tr c.1, fun k e => (c.2 k e).trans (a.2 k e)⟩
theorem eqM.of {S : List Nat} (a : eqX S h h') (hs : ∀ o ∈ S, o = 337 ∨ o = 342 ∨ o = 344) : eqM h h' := ⟨a.mono (fun o ho => by rcases hs o ho with e | e | e <;> subst e <;> decide), fun k _ => by
  rw [a 336 (fun z => by rcases hs _ z with e | e | e <;> exact absurd e (by decide))]⟩
theorem eqM.up24 (a : eqM h h') {x : Int} : eqM h (up h' 336 24 x) := ⟨a.1.up (by decide), fun j ej => by rw [up_k ej]; exact a.2 j ej⟩
theorem eqM.up (a : eqM h h') {o : Nat} {k x : Int} (e : o = 337 ∨ o = 342 ∨ o = 344) : eqM h (up h' o k x) := ⟨a.1.up (by rcases e with e | e | e <;> subst e <;> decide), fun j ej => by
  rw [up_o (by rcases e with e | e | e <;> subst e <;> decide)]; exact a.2 j ej⟩
theorem eqM.o (a : eqM h h') {o : Nat} (e : o ∉ [336, 337, 342, 344]) : h' o = h o := a.1 o e
end EQM
def LawM (T : Int → Int) (i s : Int) : Law → Prop
  | none => ∀ k : Int, 0 ≤ k → k < T (705 * i) → T (705 * i + 1 + 4 * k) ≠ s
  | some D => ∃ k : Int, (0 ≤ k ∧ k < T (705 * i)) ∧ T (705 * i + 1 + 4 * k) = s ∧ (∀ j : Int, 0 ≤ j → j < k → T (705 * i + 1 + 4 * j) ≠ s) ∧ (0 ≤ T (705 * i + 1 + 4 * k + 1) ∧ T (705 * i + 1 + 4 * k + 1) ≤ T (705 * i + 1 + 4 * k + 2) ∧ T (705 * i + 1 + 4 * k + 2) ≤ 304) ∧
    ∀ (nm : Int → Int) (lit : Int), (∀ j, MI (mk s (fun j => nm (m2c j)) j)) → 0 ≤ lit → lit < 1024 →
      mRun (fun j => T (705 * i + 97 + j)) nm lit (T (705 * i + 1 + 4 * k + 2) - T (705 * i + 1 + 4 * k + 1)).toNat (T (705 * i + 1 + 4 * k + 1)) ([], []) ([D (mk s (fun j => nm (m2c j))) lit], [])
def LwM (T : Int → Int) (n : Int) (L : Laws) : Prop := ∀ i : Int, 0 ≤ i → i < n → (0 ≤ T (705 * i) ∧ T (705 * i) ≤ 24) ∧ LawM T i 0 (L i 0) ∧ LawM T i 1 (L i 1)
/-- the model's row stands for R, its texts for L -/
def MT (h : Nat → Int → Int) (R : Int → Int) (L : Laws) : Prop := h 337 = R ∧ RV R ∧ LwM (h 339) (R 2) L
def SaysOK (T : Int → Int) (t s wo tp : Int) (nm : Int → Int) (lit v : Int) : Prop :=
  (t < 0 → v = max 0 (min wo tp)) ∧ (0 ≤ t → (t < 4 ∧ 0 ≤ T (705 * t) ∧ T (705 * t) ≤ 24) ∧ ((∀ k : Int, 0 ≤ k → k < T (705 * t) → T (705 * t + 1 + 4 * k) ≠ s) → v = max 0 (min wo tp)) ∧
    ∀ k : Int, 0 ≤ k → k < T (705 * t) → T (705 * t + 1 + 4 * k) = s → (∀ j : Int, 0 ≤ j → j < k → T (705 * t + 1 + 4 * j) ≠ s) →
      (0 ≤ T (705 * t + 1 + 4 * k + 1) ∧ T (705 * t + 1 + 4 * k + 1) ≤ T (705 * t + 1 + 4 * k + 2) ∧ T (705 * t + 1 + 4 * k + 2) ≤ 304) ∧
      ∃ x, mRun (fun j => T (705 * t + 97 + j)) nm lit (T (705 * t + 1 + 4 * k + 2) - T (705 * t + 1 + 4 * k + 1)).toNat (T (705 * t + 1 + 4 * k + 1)) ([], []) ([x], []) ∧ v = max 0 (min x tp))
theorem SaysOK.of {T : Int → Int} {t s wo tp : Int} {nm : Int → Int} {lit n : Int} {L : Laws} (W : LwM T n L) (hn : n ≤ 4) (t1 : t < n) (hs : s = 0 ∨ s = 1) (hm : ∀ j, MI (mk s (fun j => nm (m2c j)) j)) (l0 : 0 ≤ lit) (l1 : lit < 1024) :
    SaysOK T t s wo tp nm lit (if 0 ≤ t then (match L t s with | none => max 0 (min wo tp) | some D => max 0 (min (D (mk s (fun j => nm (m2c j))) lit) tp)) else max 0 (min wo tp)) := by
  refine ⟨fun e => by rw [if_neg (by omega)], fun e => ?_⟩
  rw [if_pos e]
  obtain ⟨a, c0, c1⟩ := W t e t1
  refine ⟨⟨by omega, a⟩, ?_⟩
  have c : LawM T t s (L t s) := by rcases hs with z | z <;> subst z; exact c0; exact c1
  cases q : L t s with
  | none =>
    rw [q] at c
    exact ⟨fun _ => rfl, fun k k0 k1 k2 k3 => absurd k2 (c k k0 k1)⟩
  | some D =>
    rw [q] at c
    obtain ⟨k, ⟨k0, k1⟩, k2, k3, k4, k5⟩ := c
    refine ⟨fun z => absurd k2 (z k k0 k1), fun i i0 i1 i2 i3 => ?_⟩
    have e : i = k := by
      rcases (show i < k ∨ k < i ∨ i = k by omega) with u | u | u
      · exact absurd i2 (k3 i i0 u)
      · exact absurd k2 (i3 k k0 u)
      · exact u
    subst e
    exact ⟨k4, _, k5 nm lit hm l0 l1, rfl⟩
section MTS
variable {h h' : Nat → Int → Int} {R R' : Int → Int} {L : Laws}
theorem MT.x (M : MT h R L) {S : List Nat} (e : eqX S h h') (n7 : 337 ∉ S) (n9 : 339 ∉ S) : MT h' R L := ⟨by rw [e 337 n7]; exact M.1, M.2.1, by rw [e 339 n9]; exact M.2.2⟩
theorem MT.nx (M : MT h R L) (e : eqM h h') (r : h' 337 = R') (V : RV R') (n2 : R' 2 = R 2) : MT h' R' L := ⟨r, V, by rw [e.o (by decide), n2]; exact M.2.2⟩
theorem mk_Fm {nm : Int → Int} {d p : Int} (a : ∀ i : Int, 0 ≤ i → i ≤ 6 → nm (m2c i) = nB R d p i) (c : nm 9 = p) : mk 1 (fun j => nm (m2c j)) = nF R d p := mk_F a c
theorem mk_Lm {nm : Int → Int} {d p q : Int} (a : ∀ i : Int, 0 ≤ i → i ≤ 6 → nm (m2c i) = nB R d p i) (c : nm 7 = R (21 + q)) (e8 : nm 8 = R (13 + 2 * q)) : mk 0 (fun j => nm (m2c j)) = nL R d p q := mk_L a c e8
theorem fillsV_m {t d p : Int} (V : RV R) (t1 : t < R 2) : (if 0 ≤ t then (match L t 1 with | none => max 0 (min (pc (R (29 + d))) 9) | some D => max 0 (min (D (nF R d p) (R 10)) 9)) else max 0 (min (pc (R (29 + d))) 9)) = fillsV L R t d p := by
  have := pc_R (x := R (29 + d))
  unfold fillsV
  by_cases e : 0 ≤ t
  · rw [if_pos e, if_pos ⟨e, t1⟩]; cases L t 1 <;> simp only <;> omega
  · rw [if_neg e, if_neg (fun z => e z.1)]; omega
theorem oddsV_m {d p q : Int} (V : RV R) (p0 : 0 ≤ p) (p1 : p < R 0) : (if 0 ≤ R 3 then (match L (R 3) 0 with | none => max 0 (min (R (21 + p)) 10) | some D => max 0 (min (D (nL R d p q) (R 10)) 10)) else max 0 (min (R (21 + p)) 10)) = oddsV L R d p q := by
  have := V.sl p p0 p1
  have v3 := V.n.2.2.2.1
  unfold oddsV
  by_cases e : 0 ≤ R 3
  · rw [if_pos e, if_pos ⟨e, v3.2⟩]; cases L (R 3) 0 <;> simp only <;> omega
  · rw [if_neg e, if_neg (fun z => e z.1)]; omega
end MTS

theorem wX9_says_3 {G : GT} {δ : Nat} {h hl : Nat → Int → Int} {b : Bool × Bool} {Q : V → Hp → Prop} {t s wo tp v : Int} (hδ : δ ≤ 1640) (t0 : -1 ≤ t) (hs : SaysOK (h 339) t s wo tp (h 342) (h 337 10) v) (w0 : 0 ≤ h 337 10) (w1 : h 337 10 < 1024) (tp0 : 0 ≤ tp) (tp1 : tp < 1000) : ∀ (n : Nat) (k : Int), ((25 - k).toNat) < n → (0 ≤ k) → (k ≤ 24) → (0 ≤ t → k ≤ h 339 (705 * t) ∧ ∀ j : Int, 0 ≤ j → j < k → h 339 (705 * t + 1 + 4 * j) ≠ s) → (∀ h' hl', eqX [344] h h' → Q (vi v) (HS h' hl' b)) → WP G δ 0 0 MX9_says 3 [vr (336), vi t, vi s, vi wo, vi tp, vi k] [] (HS h hl b) Q := by
  intro n
  induction n with
  | zero => intro k hlt; exact absurd hlt (Nat.not_lt_zero _)
  | succ n ih =>
    intro k hlt k0 k1 kk hQ
    refine il_1 dX9_says_3 ?_
    refine wp_if_lt 63 dX9_says_4 rfl (fun c4 => ?_) (fun c4 => ?_)
    · refine il_3 dX9_says_63 ?_
      refine wp_i2l dX9_says_64 ?_
      refine ic_0 dX9_says_65 ?_
      refine il_4 dX9_says_66 ?_
      refine c_X9_294 dX9_says_68 rfl (Nat.le_of_ble_eq_true rfl) (by omega) ?_
      refine wX9_cut (by omega) (by omega) (by omega) ?_
      refine pv_i ?_
      refine wp_ireti dX9_says_71 rfl ?_
      first
        | exact qv (hQ _ _ eqX.rf) (hs.1 (by omega))
        | (refine qv (hQ _ _ eqX.rf) (s1 (fun j j0 j1 => kk.2 j j0 (by omega))))
    · obtain ⟨⟨t4, n0, n1⟩, s1, s2⟩ := hs.2 (by omega)
      have kk := kk (by omega)
      refine il_5 dX9_says_7 ?_
      refine al_0 dX9_says_9 ?_
      refine g_X9_16 (339) dX9_says_10 rfl tt336 (rr9_2 tt336) (by omega) ?_
      refine si_705 dX9_says_13 ?_
      refine il_1 dX9_says_16 ?_
      refine wp_imul dX9_says_17 (r32 (by omega) (by omega)) ?_
      refine wp_iaload dX9_says_18 tt339 (by omega) (by omega) ?_
      refine wp_icmp_ge 63 dX9_says_19 rfl (fun c19 => ?_) (fun c19 => ?_)
      · have e : k = h 339 (705 * t) := by omega
        refine il_3 dX9_says_63 ?_
        refine wp_i2l dX9_says_64 ?_
        refine ic_0 dX9_says_65 ?_
        refine il_4 dX9_says_66 ?_
        refine c_X9_294 dX9_says_68 rfl (Nat.le_of_ble_eq_true rfl) (by omega) ?_
        refine wX9_cut (by omega) (by omega) (by omega) ?_
        refine pv_i ?_
        refine wp_ireti dX9_says_71 rfl ?_
        first
          | exact qv (hQ _ _ eqX.rf) (hs.1 (by omega))
          | (refine qv (hQ _ _ eqX.rf) (s1 (fun j j0 j1 => kk.2 j j0 (by omega))))
      · refine al_0 dX9_says_22 ?_
        refine g_X9_16 (339) dX9_says_23 rfl tt336 (rr9_2 tt336) (by omega) ?_
        refine si_705 dX9_says_26 ?_
        refine il_1 dX9_says_29 ?_
        refine wp_imul dX9_says_30 (r32 (by omega) (by omega)) ?_
        refine ic_1 dX9_says_31 ?_
        refine wp_iadd dX9_says_32 (r32 (by omega) (by omega)) ?_
        refine ic_4 dX9_says_33 ?_
        refine il_5 dX9_says_34 ?_
        refine wp_imul dX9_says_36 (r32 (by omega) (by omega)) ?_
        refine wp_iadd dX9_says_37 (r32 (by omega) (by omega)) ?_
        refine wp_iaload dX9_says_38 tt339 (by omega) (by omega) ?_
        refine il_2 dX9_says_39 ?_
        refine wp_icmp_ne 57 dX9_says_40 rfl (fun c40 => ?_) (fun c40 => ?_)
        · refine ii_5 dX9_says_57 rfl (by decide) ⟨by decide, by decide⟩ (r32 (by omega) (by omega)) ?_
          refine wp_goto 3 dX9_says_60 rfl ?_
          refine ih (k + 1) (by omega) (by omega) (by omega) (fun _ => ⟨by omega, fun j j0 j1 => ?_⟩) hQ
          by_cases e : j = k
          · subst e; exact c40
          · exact kk.2 j j0 (by omega)
        · obtain ⟨⟨f0, f1, f2⟩, x, hr, hv⟩ := s2 k k0 (by omega) c40 kk.2
          refine al_0 dX9_says_43 ?_
          refine il_1 dX9_says_44 ?_
          refine il_5 dX9_says_45 ?_
          refine c_X9_291 dX9_says_47 rfl tt336 (Nat.le_of_ble_eq_true rfl) (by omega) ?_
          refine wX9_summedUp (v := x) (by omega) (by omega) t4 k0 (by omega) rfl w0 w1 rfl rfl f0 f1 rfl f2 (fun _ => rfl) hr (fun h1 hl1 E1 => ?_)
          refine pv_l ?_
          refine ic_0 dX9_says_50 ?_
          refine il_4 dX9_says_51 ?_
          refine c_X9_294 dX9_says_53 rfl (Nat.le_of_ble_eq_true rfl) (by omega) ?_
          refine wX9_cut (by omega) (by omega) (by omega) ?_
          refine pv_i ?_
          refine wp_ireti dX9_says_56 rfl ?_
          exact qv (hQ h1 hl1 E1) hv

theorem wX9_says {G : GT} {δ : Nat} {h hl : Nat → Int → Int} {b : Bool × Bool} {Q : V → Hp → Prop} {t s wo tp v : Int} (hδ : δ ≤ 1640) (t0 : -1 ≤ t) (hs : SaysOK (h 339) t s wo tp (h 342) (h 337 10) v) (w0 : 0 ≤ h 337 10) (w1 : h 337 10 < 1024) (tp0 : 0 ≤ tp) (tp1 : tp < 1000) (hQ : ∀ h' hl', eqX [344] h h' → Q (vi v) (HS h' hl' b)) : WP G δ 0 0 MX9_says 0 [vr (336), vi t, vi s, vi wo, vi tp, vn] [] (HS h hl b) Q := by
  refine ic_0 dX9_says_0 ?_
  refine is_5 dX9_says_1 rfl (by decide) ?_
  exact wX9_says_3 hδ t0 hs w0 w1 tp0 tp1 _ 0 (Nat.lt_succ_self _) (by omega) (by omega) (fun z => ⟨(hs.2 z).1.2.1, fun j j0 j1 => by omega⟩) hQ

theorem wX9_name {G : GT} {δ : Nat} {h hl : Nat → Int → Int} {b : Bool × Bool} {Q : V → Hp → Prop} {d p : Int} {R : Int → Int} (hδ : δ ≤ 1680) (m : h 337 = R) (V : RV R) (d0 : 0 ≤ d) (d1 : d < R 1) (p0 : 0 ≤ p) (p1 : p < R 0) (hQ : ∀ h', eqX [342] h h' → (∀ i : Int, 0 ≤ i → i ≤ 6 → h' 342 (m2c i) = nB R d p i) → Q vn (HS h' hl b)) : WP G δ 0 0 MX9_name 0 [vr (336), vi d, vi p] [] (HS h hl b) Q := by
  have n := V.n
  have w := V.w
  have vd := V.di d d0 d1
  refine al_0 dX9_name_0 ?_
  refine g_X9_32 (342) dX9_name_1 rfl tt336 (rr9_20 tt336) (by omega) ?_
  refine ic_0 dX9_name_4 ?_
  refine al_0 dX9_name_5 ?_
  refine g_X9_7 (337) dX9_name_6 rfl tt336 (rr9_0 tt336) (by omega) ?_
  refine bi_8 dX9_name_9 ?_
  refine wp_iaload dX9_name_11 tt337 (by omega) (by omega) ?_
  first | rw [m2] | rw [m1] | rw [m] | skip
  refine wp_iastore dX9_name_12 tt342 (by omega) (by omega) ?_
  refine al_0 dX9_name_13 ?_
  refine g_X9_32 (342) dX9_name_14 rfl tt336 (rr9_20 tt336) (by omega) ?_
  refine ic_1 dX9_name_17 ?_
  refine al_0 dX9_name_18 ?_
  refine g_X9_7 (337) dX9_name_19 rfl tt336 (rr9_0 tt336) (by omega) ?_
  refine bi_10 dX9_name_22 ?_
  refine wp_iaload dX9_name_24 tt337 (by omega) (by omega) ?_
  rw [up_o (o := 342) (q := 337) (by decide)]
  first | rw [m2] | rw [m1] | rw [m] | skip
  refine c_X9_298 dX9_name_25 rfl (Nat.le_of_ble_eq_true rfl) (by omega) ?_
  refine wX9_bits (by omega) (by omega) (by omega) ?_
  refine pv_i ?_
  refine wp_iastore dX9_name_28 tt342 (by omega) (by omega) ?_
  refine al_0 dX9_name_29 ?_
  refine g_X9_32 (342) dX9_name_30 rfl tt336 (rr9_20 tt336) (by omega) ?_
  refine ic_2 dX9_name_33 ?_
  refine il_1 dX9_name_34 ?_
  refine wp_iastore dX9_name_35 tt342 (by omega) (by omega) ?_
  refine al_0 dX9_name_36 ?_
  refine g_X9_32 (342) dX9_name_37 rfl tt336 (rr9_20 tt336) (by omega) ?_
  refine ic_3 dX9_name_40 ?_
  refine al_0 dX9_name_41 ?_
  refine g_X9_7 (337) dX9_name_42 rfl tt336 (rr9_0 tt336) (by omega) ?_
  refine bi_29 dX9_name_45 ?_
  refine il_1 dX9_name_47 ?_
  refine wp_iadd dX9_name_48 (r32 (by omega) (by omega)) ?_
  refine wp_iaload dX9_name_49 tt337 (by omega) (by omega) ?_
  rw [up_o (o := 342) (q := 337) (by decide)]
  rw [up_o (o := 342) (q := 337) (by decide)]
  rw [up_o (o := 342) (q := 337) (by decide)]
  first | rw [m2] | rw [m1] | rw [m] | skip
  refine c_X9_298 dX9_name_50 rfl (Nat.le_of_ble_eq_true rfl) (by omega) ?_
  refine wX9_bits (by omega) (by omega) (by omega) ?_
  refine pv_i ?_
  refine wp_iastore dX9_name_53 tt342 (by omega) (by omega) ?_
  refine al_0 dX9_name_54 ?_
  refine g_X9_32 (342) dX9_name_55 rfl tt336 (rr9_20 tt336) (by omega) ?_
  refine ic_4 dX9_name_58 ?_
  refine al_0 dX9_name_59 ?_
  refine il_2 dX9_name_60 ?_
  refine c_X9_73 dX9_name_61 rfl tt336 (Nat.le_of_ble_eq_true rfl) (by omega) ?_
  refine wX9_oilOf (by omega) p0 (by omega) ?_
  simp only [up_o (q := 337) (o := 342) (by decide), m]
  refine pv_i ?_
  refine wp_iastore dX9_name_64 tt342 (by omega) (by omega) ?_
  refine al_0 dX9_name_65 ?_
  refine g_X9_32 (342) dX9_name_66 rfl tt336 (rr9_20 tt336) (by omega) ?_
  refine ic_5 dX9_name_69 ?_
  refine al_0 dX9_name_70 ?_
  refine g_X9_7 (337) dX9_name_71 rfl tt336 (rr9_0 tt336) (by omega) ?_
  refine bi_21 dX9_name_74 ?_
  refine il_2 dX9_name_76 ?_
  refine wp_iadd dX9_name_77 (r32 (by omega) (by omega)) ?_
  refine wp_iaload dX9_name_78 tt337 (by omega) (by omega) ?_
  rw [up_o (o := 342) (q := 337) (by decide)]
  rw [up_o (o := 342) (q := 337) (by decide)]
  rw [up_o (o := 342) (q := 337) (by decide)]
  rw [up_o (o := 342) (q := 337) (by decide)]
  rw [up_o (o := 342) (q := 337) (by decide)]
  first | rw [m2] | rw [m1] | rw [m] | skip
  refine wp_iastore dX9_name_79 tt342 (by omega) (by omega) ?_
  refine al_0 dX9_name_80 ?_
  refine g_X9_32 (342) dX9_name_81 rfl tt336 (rr9_20 tt336) (by omega) ?_
  refine bi_6 dX9_name_84 ?_
  refine al_0 dX9_name_86 ?_
  refine il_2 dX9_name_87 ?_
  refine c_X9_301 dX9_name_88 rfl tt336 (Nat.le_of_ble_eq_true rfl) (by omega) ?_
  refine wX9_wrongOf (by omega) p0 (by omega) ?_
  simp only [up_o (q := 337) (o := 342) (by decide), m]
  refine pv_i ?_
  refine wp_iastore dX9_name_91 tt342 (by omega) (by omega) ?_
  refine wp_vret dX9_name_92 rfl ?_
  refine hQ _ (eqX.up (eqX.up (eqX.up (eqX.up (eqX.up (eqX.up (eqX.up eqX.rf (by decide)) (by decide)) (by decide)) (by decide)) (by decide)) (by decide)) (by decide)) (fun i i0 i1 => ?_)
  rcases (show i = 0 ∨ i = 1 ∨ i = 2 ∨ i = 3 ∨ i = 4 ∨ i = 5 ∨ i = 6 by omega) with e | e | e | e | e | e | e <;> subst e <;> simp [up, nB, m2c] <;> congr 1 <;> omega

theorem wX9_fillsOf {G : GT} {δ : Nat} {h hl : Nat → Int → Int} {b : Bool × Bool} {Q : V → Hp → Prop} {t d p : Int} {R : Int → Int} {L : Laws} (hδ : δ ≤ 1620) (M : MT h R L) (t0 : -1 ≤ t) (t1 : t < R 2) (d0 : 0 ≤ d) (d1 : d < R 1) (p0 : 0 ≤ p) (p1 : p < R 0) (hQ : ∀ h' hl', eqX [342, 344] h h' → Q (vi (fillsV L R t d p)) (HS h' hl' b)) : WP G δ 0 0 MX9_fillsOf 0 [vr (336), vi t, vi d, vi p] [] (HS h hl b) Q := by
  obtain ⟨m, V, W⟩ := M
  have n := V.n
  have w := V.w
  have vd := V.di d d0 d1
  refine al_0 dX9_fillsOf_0 ?_
  refine il_2 dX9_fillsOf_1 ?_
  refine il_3 dX9_fillsOf_2 ?_
  refine c_X9_304 dX9_fillsOf_3 rfl tt336 (Nat.le_of_ble_eq_true rfl) (by omega) ?_
  refine wX9_name (by omega) m V d0 d1 p0 p1 (fun h1 E1 N1 => ?_)
  refine pv_n ?_
  refine al_0 dX9_fillsOf_6 ?_
  refine g_X9_32 (342) dX9_fillsOf_7 rfl tt336 (rr9_20 tt336) (by omega) ?_
  refine bi_9 dX9_fillsOf_10 ?_
  refine il_3 dX9_fillsOf_12 ?_
  refine wp_iastore dX9_fillsOf_13 tt342 (by omega) (by omega) ?_
  refine al_0 dX9_fillsOf_14 ?_
  refine il_1 dX9_fillsOf_15 ?_
  refine ic_1 dX9_fillsOf_16 ?_
  refine al_0 dX9_fillsOf_17 ?_
  refine g_X9_7 (337) dX9_fillsOf_18 rfl tt336 (rr9_0 tt336) (by omega) ?_
  refine bi_29 dX9_fillsOf_21 ?_
  refine il_2 dX9_fillsOf_23 ?_
  refine wp_iadd dX9_fillsOf_24 (r32 (by omega) (by omega)) ?_
  refine wp_iaload dX9_fillsOf_25 tt337 (by omega) (by omega) ?_
  rw [up_o (o := 342) (q := 337) (by decide)]
  rw [E1 337 (by decide), m]
  refine c_X9_298 dX9_fillsOf_26 rfl (Nat.le_of_ble_eq_true rfl) (by omega) ?_
  refine wX9_bits (by omega) (by omega) (by omega) ?_
  refine pv_i ?_
  refine bi_9 dX9_fillsOf_29 ?_
  refine c_X9_307 dX9_fillsOf_31 rfl tt336 (Nat.le_of_ble_eq_true rfl) (by omega) ?_
  have q7 : (up h1 342 9 p) 337 = R := by rw [show (up h1 342 9 p) 337 = h1 337 from by funext j; exact up_o (by decide), E1 337 (by decide), m]
  have q9 : (up h1 342 9 p) 339 = h 339 := by rw [show (up h1 342 9 p) 339 = h1 339 from by funext j; exact up_o (by decide), E1 339 (by decide)]
  have qm := mk_Fm (R := R) (d := d) (p := p) (nm := (up h1 342 9 p) 342) (fun i i0 i1 => by rw [up_k (by unfold m2c; split <;> (try split) <;> omega)]; exact N1 i i0 i1) up_s
  have so := SaysOK.of (T := h 339) (wo := pc (R (29 + d))) (tp := 9) (nm := (up h1 342 9 p) 342) (lit := R 10) W n.2.2.1.2 t1 (Or.inr rfl) (fun j => by rw [qm]; exact nF_R V d0 d1 p0 p1 j) w.2.2.1.1 w.2.2.1.2
  rw [qm, fillsV_m V t1] at so
  refine wX9_says (by omega) (by omega) (by rw [q7, q9]; exact so) (by rw [q7]; omega) (by rw [q7]; omega) (by omega) (by omega) (fun h2 hl2 E2 => ?_)
  refine pv_i ?_
  refine wp_ireti dX9_fillsOf_34 rfl ?_
  exact hQ h2 hl2 (((E1.mono (by decide)).up (by decide)).tr (E2.mono (by decide)))

theorem wX9_losesOf {G : GT} {δ : Nat} {h hl : Nat → Int → Int} {b : Bool × Bool} {Q : V → Hp → Prop} {d p q : Int} {R : Int → Int} {L : Laws} (hδ : δ ≤ 1620) (M : MT h R L) (d0 : 0 ≤ d) (d1 : d < R 1) (p0 : 0 ≤ p) (p1 : p < R 0) (q0 : 0 ≤ q) (q1 : q < R 0) (hQ : ∀ h' hl', eqX [342, 344] h h' → Q (vi (oddsV L R d p q)) (HS h' hl' b)) : WP G δ 0 0 MX9_losesOf 0 [vr (336), vi d, vi p, vi q] [] (HS h hl b) Q := by
  obtain ⟨m, V, W⟩ := M
  have n := V.n
  have w := V.w
  have vp := V.sl p p0 p1
  refine al_0 dX9_losesOf_0 ?_
  refine il_1 dX9_losesOf_1 ?_
  refine il_2 dX9_losesOf_2 ?_
  refine c_X9_304 dX9_losesOf_3 rfl tt336 (Nat.le_of_ble_eq_true rfl) (by omega) ?_
  refine wX9_name (by omega) m V d0 d1 p0 p1 (fun h1 E1 N1 => ?_)
  have m1 : h1 337 = R := by rw [E1 337 (by decide), m]
  refine pv_n ?_
  refine al_0 dX9_losesOf_6 ?_
  refine g_X9_32 (342) dX9_losesOf_7 rfl tt336 (rr9_20 tt336) (by omega) ?_
  refine bi_7 dX9_losesOf_10 ?_
  refine al_0 dX9_losesOf_12 ?_
  refine g_X9_7 (337) dX9_losesOf_13 rfl tt336 (rr9_0 tt336) (by omega) ?_
  refine bi_21 dX9_losesOf_16 ?_
  refine il_3 dX9_losesOf_18 ?_
  refine wp_iadd dX9_losesOf_19 (r32 (by omega) (by omega)) ?_
  refine wp_iaload dX9_losesOf_20 tt337 (by omega) (by omega) ?_
  rw [m1]
  refine wp_iastore dX9_losesOf_21 tt342 (by omega) (by omega) ?_
  refine al_0 dX9_losesOf_22 ?_
  refine g_X9_32 (342) dX9_losesOf_23 rfl tt336 (rr9_20 tt336) (by omega) ?_
  refine bi_8 dX9_losesOf_26 ?_
  refine al_0 dX9_losesOf_28 ?_
  refine il_3 dX9_losesOf_29 ?_
  refine c_X9_73 dX9_losesOf_30 rfl tt336 (Nat.le_of_ble_eq_true rfl) (by omega) ?_
  refine wX9_oilOf (by omega) q0 (by omega) ?_
  simp only [up_o (q := 337) (o := 342) (by decide), m1]
  refine pv_i ?_
  refine wp_iastore dX9_losesOf_33 tt342 (by omega) (by omega) ?_
  refine al_0 dX9_losesOf_34 ?_
  refine al_0 dX9_losesOf_35 ?_
  refine g_X9_7 (337) dX9_losesOf_36 rfl tt336 (rr9_0 tt336) (by omega) ?_
  refine ic_3 dX9_losesOf_39 ?_
  refine wp_iaload dX9_losesOf_40 tt337 (by omega) (by omega) ?_
  simp only [up_o (q := 337) (o := 342) (by decide), m1]
  refine ic_0 dX9_losesOf_41 ?_
  refine al_0 dX9_losesOf_42 ?_
  refine g_X9_7 (337) dX9_losesOf_43 rfl tt336 (rr9_0 tt336) (by omega) ?_
  refine bi_21 dX9_losesOf_46 ?_
  refine il_2 dX9_losesOf_48 ?_
  refine wp_iadd dX9_losesOf_49 (r32 (by omega) (by omega)) ?_
  refine wp_iaload dX9_losesOf_50 tt337 (by omega) (by omega) ?_
  simp only [up_o (q := 337) (o := 342) (by decide), m1]
  refine bi_10 dX9_losesOf_51 ?_
  refine c_X9_307 dX9_losesOf_53 rfl tt336 (Nat.le_of_ble_eq_true rfl) (by omega) ?_
  obtain ⟨h2, e2⟩ : ∃ h2, h2 = up (up h1 342 7 (R (21 + q))) 342 8 (R (13 + 2 * q)) := ⟨_, rfl⟩
  rw [← e2]
  have E2 : eqX [342] h h2 := by rw [e2]; exact (E1.up (by decide)).up (by decide)
  have q7 : h2 337 = R := by rw [E2 337 (by decide), m]
  have q9 : h2 339 = h 339 := E2 339 (by decide)
  have qm := mk_Lm (R := R) (d := d) (p := p) (q := q) (nm := h2 342) (fun i i0 i1 => by rw [e2, up_k (by unfold m2c; split <;> (try split) <;> omega), up_k (by unfold m2c; split <;> (try split) <;> omega)]; exact N1 i i0 i1) (by rw [e2, up_k (by decide), up_s]) (by rw [e2, up_s])
  have so := SaysOK.of (T := h 339) (wo := R (21 + p)) (tp := 10) (nm := h2 342) (lit := R 10) W n.2.2.1.2 n.2.2.2.1.2 (Or.inl rfl) (fun j => by rw [qm]; exact nL_R V d0 d1 p0 p1 q0 q1 j) w.2.2.1.1 w.2.2.1.2
  rw [qm, oddsV_m V p0 p1] at so
  refine wX9_says (by omega) (by omega) (by rw [q7, q9]; exact so) (by rw [q7]; omega) (by rw [q7]; omega) (by omega) (by omega) (fun h3 hl3 E3 => ?_)
  refine pv_i ?_
  refine wp_ireti dX9_losesOf_56 rfl ?_
  exact hQ h3 hl3 ((E2.mono (by decide)).tr (E3.mono (by decide)))

theorem wX9_anew {G : GT} {δ : Nat} {h hl : Nat → Int → Int} {b : Bool × Bool} {Q : V → Hp → Prop}  (hδ : δ ≤ 1700) (x0 : 0 ≤ h 337 9) (x1 : h 337 9 < 30869) (hQ : Q vn (HS (up h 337 9 ((h 337 9 * 617 + 491) % 30869)) hl b)) : WP G δ 0 0 MX9_anew 0 [vr (336)] [] (HS h hl b) Q := by
  refine al_0 dX9_anew_0 ?_
  refine g_X9_7 (337) dX9_anew_1 rfl tt336 (rr9_0 tt336) (by omega) ?_
  refine bi_9 dX9_anew_4 ?_
  refine al_0 dX9_anew_6 ?_
  refine g_X9_7 (337) dX9_anew_7 rfl tt336 (rr9_0 tt336) (by omega) ?_
  refine bi_9 dX9_anew_10 ?_
  refine wp_iaload dX9_anew_12 tt337 (by omega) (by omega) ?_
  refine wp_i2l dX9_anew_13 ?_
  refine wp_ldc2 (617) dX9_anew_14 ⟨by decide, by decide⟩ cc_X9_314 ?_
  refine wp_lmul dX9_anew_17 (r64 (by omega) (by omega)) ?_
  refine wp_ldc2 (491) dX9_anew_18 ⟨by decide, by decide⟩ cc_X9_316 ?_
  refine wp_ladd dX9_anew_21 (r64 (by omega) (by omega)) ?_
  refine wp_ldc2 (30869) dX9_anew_22 ⟨by decide, by decide⟩ cc_X9_318 ?_
  refine wp_lremN dX9_anew_25 (by omega) (by omega) ?_
  refine wp_l2i dX9_anew_26 (r32 (by omega) (by omega)) ?_
  refine wp_iastore dX9_anew_27 tt337 (by omega) (by omega) ?_
  refine wp_vret dX9_anew_28 rfl ?_
  exact hQ

theorem wX9_drawnBy {G : GT} {δ : Nat} {h hl : Nat → Int → Int} {b : Bool × Bool} {Q : V → Hp → Prop} {n : Int} (hδ : δ ≤ 1680) (n0 : 0 < n) (x0 : 0 ≤ h 337 9) (x1 : h 337 9 < 30869) (hQ : Q (vi (h 337 9 % n)) (HS (up h 337 9 ((h 337 9 * 617 + 491) % 30869)) hl b)) : WP G δ 0 0 MX9_drawnBy 0 [vr (336), vi n, vn] [] (HS h hl b) Q := by
  refine al_0 dX9_drawnBy_0 ?_
  refine g_X9_7 (337) dX9_drawnBy_1 rfl tt336 (rr9_0 tt336) (by omega) ?_
  refine bi_9 dX9_drawnBy_4 ?_
  refine wp_iaload dX9_drawnBy_6 tt337 (by omega) (by omega) ?_
  refine il_1 dX9_drawnBy_7 ?_
  refine wp_iremN dX9_drawnBy_8 (by omega) (by omega) ?_
  refine is_2 dX9_drawnBy_9 rfl (by decide) ?_
  refine al_0 dX9_drawnBy_10 ?_
  refine c_X9_311 dX9_drawnBy_11 rfl tt336 (Nat.le_of_ble_eq_true rfl) (by omega) ?_
  refine wX9_anew (by omega) x0 x1 ?_
  refine pv_n ?_
  refine il_2 dX9_drawnBy_14 ?_
  refine wp_ireti dX9_drawnBy_15 rfl ?_
  exact hQ
