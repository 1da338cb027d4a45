/-! tokens look at the tape alone -/
section TKC
variable {f : Int → Bool} {T T' : Int → Int} {N p : Int}
def agr (T T' : Int → Int) (N : Int) : Prop := ∀ k : Int, 0 ≤ k → k < N → T k = T' k
theorem bA_c (a : agr T T' N) (p0 : 0 ≤ p) : bA T N p = bA T' N p := by
  unfold bA
  by_cases q : p < N
  · rw [if_pos q, if_pos q]; exact a p p0 q
  · rw [if_neg q, if_neg q]
theorem runF_c (a : agr T T' N) : ∀ (m : Nat) (p : Int), 0 ≤ p → runF f T N m p = runF f T' N m p
  | 0, _, _ => rfl
  | m + 1, p, p0 => by
    unfold runF
    rw [bA_c a p0, runF_c a m (p + 1) (by omega)]
theorem run_c (a : agr T T' N) (p0 : 0 ≤ p) : run f T N p = run f T' N p := runF_c a _ p p0
theorem mtB_c {len k : Int} (a : agr T T' N) (p0 : 0 ≤ p) (pl : p + len ≤ N) : mtB T p len k = mtB T' p len k := by
  have h : ∀ T1 T2 : Int → Int, agr T1 T2 N → mtB T1 p len k = true → mtB T2 p len k = true := fun T1 T2 a h => by
    rw [mtB_i] at h ⊢
    exact ⟨h.1, fun j j8 jl => by rw [← a _ (by omega) (by omega)]; exact h.2 j j8 jl⟩
  by_cases q : mtB T p len k = true
  · rw [q, h T T' a q]
  · have q' : ¬ mtB T' p len k = true := fun z => q (h T' T (fun k k0 k1 => (a k k0 k1).symm) z)
    simp only [Bool.not_eq_true] at q q'
    rw [q, q']
theorem wdN_c {len : Int} (a : agr T T' N) (p0 : 0 ≤ p) (pl : p + len ≤ N) : ∀ (m : Nat) (k : Int), wdN T p len m k = wdN T' p len m k
  | 0, _ => rfl
  | m + 1, k => by
    unfold wdN
    rw [mtB_c a p0 pl, wdN_c a p0 pl m (k + 1)]
theorem nvC_c (a : agr T T' N) (p0 : 0 ≤ p) : ∀ k : Nat, p + k ≤ N → nvC T p k = nvC T' p k
  | 0, _ => rfl
  | k + 1, h => by
    unfold nvC
    rw [nvC_c a p0 k (by omega), a (p + k) (by omega) (by omega)]
theorem tkF_c (a : agr T T' N) (p0 : 0 ≤ p) (pN : p ≤ N) : tkF T N p = tkF T' N p := by
  unfold tkF
  by_cases q : N ≤ p
  · rw [if_pos q, if_pos q]
  rw [if_neg q, if_neg q, a p p0 (by omega), run_c (f := ltrB) a p0, run_c (f := figB) a p0, bA_c a (p := p + 1) (by omega)]
  have w1 := runS (f := ltrB) (T := T') (N := N) ltrB_o pN
  have w2 := runS (f := figB) (T := T') (N := N) figB_o pN
  rw [show wdF T p (run ltrB T' N p - p) = wdF T' p (run ltrB T' N p - p) from wdN_c a p0 (by omega) _ _, nvC_c a p0 _ (by omega)]
theorem aF_c (a : agr T T' N) (n0 : 0 ≤ N) : ∀ j : Nat, aF T N j = aF T' N j
  | 0 => rfl
  | j + 1 => by
    have w := aF_R (T := T') n0 j
    have w2 := runS (f := spcB) (T := T') (N := N) spcB_o w.2
    unfold aF
    rw [aF_c a n0 j, run_c a w.1, tkF_c a (by omega) w2.2.1]
theorem pF_c (a : agr T T' N) (n0 : 0 ≤ N) : pF T N = pF T' N := by
  funext j
  have w := aF_R (T := T') n0 j.toNat
  unfold pF
  rw [aF_c a n0, run_c a w.1]
theorem kF_c (a : agr T T' N) (n0 : 0 ≤ N) : kF T N = kF T' N := by
  funext j
  have w := pF_R (T := T') n0 j
  unfold kF
  rw [pF_c a n0, tkF_c a w.1 w.2.1]
theorem vF_c (a : agr T T' N) (n0 : 0 ≤ N) : vF T N = vF T' N := by
  funext j
  have w := pF_R (T := T') n0 j
  unfold vF
  rw [pF_c a n0, tkF_c a w.1 w.2.1]
theorem aF_up (n0 : 0 ≤ N) : ∀ j : Nat, (j : Int) ≤ N → (j : Int) ≤ aF T N j
  | 0, _ => Int.le_refl _
  | j + 1, h => by
    have i := aF_up n0 j (by omega)
    have w := aF_R (T := T) n0 j
    have w2 := runS (f := spcB) (T := T) (N := N) spcB_o w.2
    have w3 := tkF_e (T := T) (N := N) w2.2.1
    have d : aF T N (j + 1) = (tkF T N (run spcB T N (aF T N j))).2.2 := rfl
    rw [d]
    by_cases q : run spcB T N (aF T N j) < N
    · have := w3.2.2 q; omega
    · omega
theorem aF_mo (n0 : 0 ≤ N) (j m : Nat) : aF T N j ≤ aF T N (j + m) := by
  induction m with
  | zero => exact Int.le_refl _
  | succ m ih =>
    have w := aF_R (T := T) n0 (j + m)
    have w2 := runS (f := spcB) (T := T) (N := N) spcB_o w.2
    have w3 := tkF_e (T := T) (N := N) w2.2.1
    have d : aF T N (j + (m + 1)) = (tkF T N (run spcB T N (aF T N (j + m)))).2.2 := rfl
    rw [d]; omega
theorem TkE_ex (n0 : 0 ≤ N) (n3 : N ≤ 300) : TkE (kF T N) 301 := by
  refine ⟨by decide, by decide, ?_⟩
  have a := aF_up (T := T) n0 N.toNat (by omega)
  have m := aF_mo (T := T) n0 N.toNat (300 - N.toNat)
  rw [show N.toNat + (300 - N.toNat) = 300 by omega] at m
  have w := aF_R (T := T) n0 300
  have e : aF T N 300 = N := by omega
  unfold kF pF
  show (tkF T N (run spcB T N (aF T N 300))).1 = 54
  rw [e, run_o (Int.le_refl _)]
  unfold tkF
  rw [if_pos (Int.le_refl _)]
theorem TkR_ex {n : Int} (n0 : 0 ≤ N) : TkR (kF T N) (vF T N) n := fun i _ _ => ⟨(kF_R i).1, vF_R n0 i⟩
end TKC
/-! the text read: the town then -/
section TXT
variable {h h' : Nat → Int → Int} {R R' : Int → Int} {L : Laws} {st : RSt}
def Lx (R : Int → Int) (L : Laws) (st : RSt) : Laws := fun i s => if i = R 2 then lwAt s st.2.2.2.2 else L i s
def rTxt (R : Int → Int) : Int → Int := ur R 2 (R 2 + 1)
theorem rTxt_n {j : Int} (e : j ≠ 2) : rTxt R j = R j := ur_n e
theorem SV.e2 {a n b : Int} (S : SV R a n b) (e : ∀ j : Int, j ≠ 2 → R' j = R j) (a0 : a ≠ 2) (n0 : 2 < n) (b0 : 2 < b) : SV R' a n b := by
  obtain ⟨s1, s2, s3, s4, s5, s6, s7, s8, s9, s10, s11, s12, s13, s14, s15⟩ := S
  have ea := e a a0
  have e4 := e (n + 4) (by omega)
  unfold SV
  rw [ea, e n (by omega), e (n + 1) (by omega), e (n + 2) (by omega), e (n + 3) (by omega), e4]
  refine ⟨s1, s2, s3, s4, s5, s6, s7, s8, s9, s10, s11, s12, fun p p0 p1 => ?_, fun p p0 p1 => ?_, fun k k0 k1 => ?_⟩
  · rw [e _ (by omega)]; exact s13 p p0 p1
  · rw [e _ (by omega)]; exact s14 p p0 p1
  · rw [e _ (by omega)]; exact s15 k k0 k1
theorem RV.txt (V : RV R) (n4 : R 2 < 4) : RV (rTxt R) := by
  have n := V.n
  have e : ∀ j : Int, j ≠ 2 → rTxt R j = R j := fun j hj => ur_n hj
  have e2 : rTxt R 2 = R 2 + 1 := ur_s
  have e0 := e 0 (by omega); have e1 := e 1 (by omega); have e3 := e 3 (by omega)
  have e4 := e 4 (by omega); have e5 := e 5 (by omega); have e6 := e 6 (by omega); have e7 := e 7 (by omega)
  refine ⟨by unfold RVn; rw [e0, e1, e2, e3, e4, e5, e6, e7]; omega, V.2.1.e2 e (by omega) (by omega) (by omega), fun p p0 p1 => ?_, fun p p0 p1 => ?_, fun p p0 p1 => ?_, fun p p0 p1 => ?_, fun p p0 p1 => ?_, fun p p0 p1 => ?_, fun j j0 j1 => ?_⟩
  · rw [e0] at p1; rw [e _ (by omega)]; exact V.sl p p0 p1
  · rw [e0] at p1; rw [e _ (by omega)]; exact V.td p p0 p1
  · rw [e1] at p1; rw [e _ (by omega)]; exact V.di p p0 p1
  · rw [e5] at p1; rw [e _ (by omega)]; exact V.st p p0 p1
  · rw [e6] at p1; rw [e _ (by omega), e0, e (44 + 2 * p) (by omega)]; exact V.ve p p0 p1
  · rw [e7] at p1; rw [e _ (by omega), e0, e1, e (60 + 3 * p) (by omega), e (61 + 3 * p) (by omega)]; exact V.sa p p0 p1
  · rw [e4] at j1
    have s := V.sp j j0 j1
    refine ⟨s.1.e2 e (by omega) (by omega) (by omega), ?_⟩
    rw [e0, e _ (by omega)]; exact s.2
theorem TC.txt (t : TC R) (V : RV R) : TC (rTxt R) := t.c V (rTxt_n (by decide)) (rTxt_n (by decide)) (fun j hj => rTxt_n (by omega))
theorem SPR.e2 {a n b : Int} {s : Nat} (P : SPR h s R a n b) (e : ∀ j : Int, j ≠ 2 → R' j = R j) (v4 : 0 ≤ R (n + 4)) (a0 : a ≠ 2) (n0 : 2 < n) (b0 : 2 < b) : SPR h s R' a n b := by
  obtain ⟨p1, p2, p3, p4, p5, p6, p7, p8, p9⟩ := P
  have ea := e a a0
  have e4 := e (n + 4) (by omega)
  unfold SPR
  rw [ea, e n (by omega), e (n + 1) (by omega), e (n + 2) (by omega), e (n + 3) (by omega), e4]
  refine ⟨p1, p2, p3, p4, p5, p6, fun p q0 q1 => ?_, fun p q0 q1 => ?_, fun k k0 k1 => ?_⟩
  · rw [e _ (by omega)]; exact p7 p q0 q1
  · rw [e _ (by omega)]; exact p8 p q0 q1
  · rw [e _ (by omega)]; exact p9 k k0 k1
/-- a town with one text more -/
theorem TPic.txt (P : TPic h 2 R) (V : RV R) (E : ∀ o : Nat, o ≠ 2 → (o ≤ 16 ∨ 38 ≤ o) → o ≤ 157 → h' o = h o) (E2 : ∀ j : Int, j ≠ 7 → h' 2 j = h 2 j) (r : h' 2 7 = R 2 + 1) : TPic h' 2 (rTxt R) := by
  have e : ∀ j : Int, j ≠ 2 → rTxt R j = R j := fun j hj => ur_n hj
  have e2 : rTxt R 2 = R 2 + 1 := ur_s
  have n := V.n
  have e0 := e 0 (by omega); have e1 := e 1 (by omega); have e3 := e 3 (by omega)
  have e4 := e 4 (by omega); have e5 := e 5 (by omega); have e6 := e 6 (by omega); have e7 := e 7 (by omega)
  obtain ⟨q1, q2, q3, q4, q5, q6, q7, q8⟩ := P
  have w := V.w
  refine ⟨(q1.c (fun o a c => E o (by omega) (by omega) (by omega))).e2 e w.2.2.2.2.1 (by omega) (by omega) (by omega), (q2.c (fun o a c => E o (by omega) (by omega) (by omega))).e e0 (fun k k0 k1 => e _ (by omega)), (q3.c (fun o a c => E o (by omega) (by omega) (by omega))).e e1 (fun k k0 k1 => e _ (by omega)), (q4.c (fun o a c => E o (by omega) (by omega) (by omega))).e e5 (fun k k0 k1 => e _ (by omega)),
    (q5.c (fun o a c => E o (by omega) (by omega) (by omega))).e e6 (fun k k0 k1 => ?_), (q6.c (fun o a c => E o (by omega) (by omega) (by omega))).e e7 (fun k k0 k1 => ?_), ?_, fun j j0 j1 => ?_⟩
  · rw [e _ (by omega), e (44 + 2 * k) (by omega)]
  · rw [e _ (by omega), e (60 + 3 * k) (by omega), e (61 + 3 * k) (by omega)]
  · rw [e2, e3, e4, r, E2 8 (by decide), E2 11 (by decide), E2 10 (by decide)]; exact ⟨rfl, q7.2⟩
  · rw [e4] at j1
    rw [E2 10 (by decide)]
    exact ((q8 j j0 j1).c (fun o a c => E o (by omega) (by omega) (by omega))).e2 e (V.sp j j0 j1).1.2.2.2.2.2.2.2.2.2.2.1 (by omega) (by omega) (by omega)
theorem CT.txt (C : CT h R L) (n4 : R 2 < 4) (E : TcE (R 2) h h') (r : h' 2 7 = R 2 + 1) (D : DrI h' st) (S : SCE h' h' (22 + 4 * (R 2).toNat) 316) (I : RI st) (cl : st.2.1.length ≤ 600) : CT h' (rTxt R) (Lx R L st) := by
  obtain ⟨P, V, W⟩ := C
  have n := V.n
  refine ⟨P.txt V (fun o a c d => E.1 o a (by omega) (by omega)) E.2.1 r, V.txt n4, fun i i0 i1 => ?_⟩
  rw [show rTxt R 2 = R 2 + 1 from ur_s] at i1
  by_cases q : i = R 2
  · subst q
    obtain ⟨d0, d1, d3, d4, d5⟩ := D
    have u : h' 316 2 ≤ 600 := by rw [d1.1]; omega
    have ee : ety h' (22 + 4 * (R 2).toNat) = ety h' 316 := S.ety u
    have hE : hasC (ety h' 316) 0 st.2.1 := by
      have z : ∀ (C : List Int) (u : Int), 0 ≤ u → u + C.length ≤ h' 316 2 → hasC (h' 319) u C → hasC (ety h' 316) u C := fun C => by
        induction C with
        | nil => intro u _ _ _; trivial
        | cons c C ih =>
          intro u u0 u1 hh
          rw [List.length_cons] at u1
          refine ⟨?_, ih (u + 1) (by omega) (by omega) hh.2⟩
          show (if 0 ≤ u ∧ u < h' 316 2 then h' (316 + 3) u else 53) = c
          rw [if_pos ⟨u0, by omega⟩]; exact hh.1
      exact z _ 0 (by decide) (by rw [d1.1]; omega) d1.2
    have f0 : Lx R L st (R 2) 0 = st.2.2.2.2.1 := by unfold Lx lwAt; rw [if_pos rfl, if_pos rfl]
    have f1 : Lx R L st (R 2) 1 = st.2.2.2.2.2 := by unfold Lx lwAt; rw [if_pos rfl, if_neg (by decide)]
    show h' (22 + 4 * (R 2).toNat) 2 ≤ 600 ∧ LawC (ety h' (22 + 4 * (R 2).toNat)) 0 (h' (22 + 4 * (R 2).toNat) 3) _ ∧ LawC (ety h' (22 + 4 * (R 2).toNat)) 1 (h' (22 + 4 * (R 2).toNat) 4) _
    rw [f0, f1, ee, S.1 2 (by decide) (by decide), S.1 3 (by decide) (by decide), S.1 4 (by decide) (by decide), d3, d4]
    exact ⟨u, I.2.1.C hE, I.2.2.C hE⟩
  · have f : ∀ s, Lx R L st i s = L i s := fun s => by unfold Lx; rw [if_neg q]
    rw [f, f]
    have w := W i i0 (by omega)
    have g : ∀ o : Nat, 2 + 20 + 4 * i.toNat ≤ o → o ≤ 2 + 20 + 4 * i.toNat + 3 → h' o = h o := fun o a c => E.1 o (by omega) (by omega) (by omega)
    have e0 := g (2 + 20 + 4 * i.toNat) (by omega) (by omega)
    have ee : ety h' (2 + 20 + 4 * i.toNat) = ety h (2 + 20 + 4 * i.toNat) := by
      funext k; unfold ety; rw [e0, g (2 + 20 + 4 * i.toNat + 3) (by omega) (by omega)]
    rw [e0, ee]; exact w
/-- nothing read -/
theorem CT.tx0 (C : CT h R L) (n4 : R 2 < 4) (E : TcE (R 2) h h') (r : h' 2 7 = R 2) : CT h' R L := by
  obtain ⟨P, V, W⟩ := C
  have n := V.n
  have f := P.f
  have q2 : h' 2 = h 2 := by
    funext j
    by_cases q : j = 7
    · rw [q, r, f.2.2.1]
    · exact E.2.1 j q
  refine ⟨P.c (fun o a c d => ?_), V, fun i i0 i1 => ?_⟩
  · by_cases q : o = 2
    · rw [q]; exact q2
    · exact E.1 o q (by omega) (by omega)
  · have w := W i i0 i1
    have g : ∀ o : Nat, 2 + 20 + 4 * i.toNat ≤ o → o ≤ 2 + 20 + 4 * i.toNat + 3 → h' o = h o := fun o a c => E.1 o (by omega) (by omega) (by omega)
    have e0 := g (2 + 20 + 4 * i.toNat) (by omega) (by omega)
    have ee : ety h' (2 + 20 + 4 * i.toNat) = ety h (2 + 20 + 4 * i.toNat) := by
      funext k; unfold ety; rw [e0, g (2 + 20 + 4 * i.toNat + 3) (by omega) (by omega)]
    rw [e0, ee]; exact w
/-- the model's texts -/
theorem mRun_c {C C' nm : Int → Int} {lit : Int} : ∀ (n : Nat) (i : Int) {s t : MS}, (∀ q : Int, 2 * i ≤ q → q < 2 * (i + n) → C' q = C q) → mRun C nm lit n i s t → mRun C' nm lit n i s t
  | 0, _, _, _, _, h => h
  | n + 1, i, s, t, e, h => by
    obtain ⟨h1, h2⟩ := h
    have a := e (2 * i) (by omega) (by omega)
    have c := e (2 * i + 1) (by omega) (by omega)
    have st : mStep C' nm lit i s = mStep C nm lit i s := by unfold mStep; rw [a, c]
    refine ⟨by unfold mOK at *; rw [a, c]; exact h1, ?_⟩
    rw [st]
    exact mRun_c n (i + 1) (fun q q0 q1 => e q (by omega) (by omega)) h2
theorem LawM.c {T T' : Int → Int} {i s : Int} {l : Law} (e : ∀ k : Int, 705 * i ≤ k → k < 705 * i + 705 → T' k = T k) (c : 0 ≤ T (705 * i) ∧ T (705 * i) ≤ 24) (M : LawM T i s l) : LawM T' i s l := by
  have e0 := e (705 * i) (by omega) (by omega)
  cases l with
  | none =>
    intro k k0 k1
    rw [e0] at k1
    rw [e _ (by omega) (by omega)]; exact M k k0 k1
  | some D =>
    obtain ⟨k, ⟨k0, k1⟩, m1, m2, m3, m4⟩ := M
    have a1 := e (705 * i + 1 + 4 * k) (by omega) (by omega)
    have a2 := e (705 * i + 1 + 4 * k + 1) (by omega) (by omega)
    have a3 := e (705 * i + 1 + 4 * k + 2) (by omega) (by omega)
    refine ⟨k, ⟨k0, by omega⟩, by rw [a1]; exact m1, fun j j0 j1 => by rw [e _ (by omega) (by omega)]; exact m2 j j0 j1, by rw [a2, a3]; exact m3, fun nm lit hn l0 l1 => ?_⟩
    rw [a2, a3]
    exact mRun_c _ _ (fun q q0 q1 => e _ (by omega) (by omega)) (m4 nm lit hn l0 l1)
theorem rdP_M {K V : Int → Int} {n : Int} (t : TkE K n) : ∀ (m : Nat) (i : Int) (st : RSt), 0 ≤ i → i ≤ n - 1 → (st.2.2.1.length : Int) ≤ i → ∀ y, rdP K V m i st = .inr y → (y.2.2.1.length : Int) ≤ n - 1
  | 0, i, st, i0, i1, cl, y, h => by cases h; omega
  | m + 1, i, st, i0, i1, cl, y, h => by
    unfold rdP at h
    split at h
    · cases h; omega
    · have g := clP_G (V := V) t i st i0 i1
      cases q : clP K V i st with
      | inl e => rw [q] at h; cases h
      | inr x =>
        rw [q] at h g
        obtain ⟨g1, g2, g3, g4, g5⟩ := g
        exact rdP_M t m x.1 x.2 (by omega) g2 (by omega) y h
theorem LwM.c {T T' : Int → Int} {n : Int} (M : LwM T n L) (e : ∀ k : Int, 0 ≤ k → k < 705 * n → T' k = T k) : LwM T' n L := fun i i0 i1 => by
  obtain ⟨c, a, d⟩ := M i i0 i1
  have e' : ∀ k : Int, 705 * i ≤ k → k < 705 * i + 705 → T' k = T k := fun k k0 k1 => e k (by omega) (by omega)
  exact ⟨by rw [e' _ (by omega) (by omega)]; exact c, a.c e' c, d.c e' c⟩
theorem LwM.txt (M : LwM (h 339) (R 2) L) (n0 : 0 ≤ R 2) (e : ∀ k : Int, 0 ≤ k → k < 705 * R 2 → h' 339 k = h 339 k) (Mo : MoI h' (705 * R 2) st) (I : RI st) (l24 : st.1.length ≤ 24) (lm : st.2.2.1.length ≤ 304) : LwM (h' 339) (R 2 + 1) (Lx R L st) := fun i i0 i1 => by
  by_cases q : i = R 2
  · subst q
    have f0 : Lx R L st (R 2) 0 = st.2.2.2.2.1 := by unfold Lx lwAt; rw [if_pos rfl, if_pos rfl]
    have f1 : Lx R L st (R 2) 1 = st.2.2.2.2.2 := by unfold Lx lwAt; rw [if_pos rfl, if_neg (by decide)]
    obtain ⟨m0, m1, m2, m3⟩ := Mo
    rw [f0, f1]
    exact ⟨by rw [m0]; omega, I.2.1.M l24 lm m0 m1.2 m3 (Or.inl rfl), I.2.2.M l24 lm m0 m1.2 m3 (Or.inr rfl)⟩
  · have f : ∀ s, Lx R L st i s = L i s := fun s => by unfold Lx; rw [if_neg q]
    rw [f, f]
    exact (M.c e) i i0 (by omega)
theorem ClS.cT {o : Nat} {T T' : Int → Int} {i : Int} (C : ClS h o T i) (e : ∀ k : Int, 705 * i ≤ k → k < 705 * i + 705 → T' k = T k) : ClS h o T' i := by
  obtain ⟨a, c, d⟩ := C
  have e0 := e (705 * i) (by omega) (by omega)
  refine ⟨by rw [e0]; exact a, by rw [e0]; exact c, fun k k0 k1 => ?_⟩
  rw [e0] at k1
  have z := d k k0 k1
  unfold ClK at *
  rw [e _ (by omega) (by omega), e (705 * i + 1 + 4 * k + 1) (by omega) (by omega), e (705 * i + 1 + 4 * k + 2) (by omega) (by omega), e (705 * i + 1 + 4 * k + 3) (by omega) (by omega)]
  exact z
theorem ClT.cT {t : Nat} {T T' : Int → Int} {n : Int} (C : ClT h t T n) (e : ∀ k : Int, 0 ≤ k → k < 705 * n → T' k = T k) : ClT h t T' n := fun i i0 i1 => (C i i0 i1).cT (fun k k0 k1 => e k (by omega) (by omega))
end TXT
/-! what the law's loop keeps -/
section INV
variable {h h' : Nat → Int → Int} {R R' I : Int → Int} {L : Laws} {n : Int}
def RST (h : Nat → Int → Int) (n : Int) (I : Int → Int) (L : Laws) : Prop :=
  (eqR I (h 338) ∧ RV I ∧ TC I ∧ TPic h 158 I ∧ LwC h 158 (I 2) L ∧ ClT h 158 (h 339) (I 2) ∧ I 2 ≤ n) ∧ (ClT h 2 (h 339) n ∧ LwM (h 339) n L) ∧ (TPE h ∧ FPE h) ∧ h 324 0 = 0 ∧ h 336 23 = 1
def INV (h : Nat → Int → Int) (R I : Int → Int) (L : Laws) : Prop := h 337 = R ∧ CT h R L ∧ TC R ∧ RST h (R 2) I L
theorem TPE.c (t : TPE h) (a : h' 314 1 = h 314 1) (c : h' 336 4 = h 336 4) (d : h' 315 = h 315) (e : h' 340 = h 340) : TPE h' := by unfold TPE at *; rw [a, c, d, e]; exact t
theorem FPE.c (t : FPE h) (a : ∀ k : Int, 2 ≤ k → k ≤ 4 → h' 314 k = h 314 k) (c : ∀ k : Int, 5 ≤ k → k ≤ 6 → h' 336 k = h 336 k) : FPE h' := by unfold FPE at *; rw [a 2 (by omega) (by omega), a 3 (by omega) (by omega), a 4 (by omega) (by omega), c 5 (by omega) (by omega), c 6 (by omega) (by omega)]; exact t
/-- a call that leaves texts, image and tape alone -/
theorem RST.c (r : RST h n I L) (n4 : n ≤ 4) (a : ∀ o : Nat, (22 ≤ o ∧ o ≤ 37) ∨ (158 ≤ o ∧ o ≤ 315) ∨ (338 ≤ o ∧ o ≤ 340) → h' o = h o) (c : ∀ k : Int, k = 4 ∨ k = 5 ∨ k = 6 ∨ k = 23 → h' 336 k = h 336 k) (s : h' 324 0 = 0) : RST h' n I L := by
  obtain ⟨⟨r1, r2, r3, r4, r5, r6, r7⟩, ⟨r8, r9⟩, ⟨r10, r11⟩, r12, r13⟩ := r
  have e8 := a 338 (by omega); have e9 := a 339 (by omega); have e0 := a 340 (by omega); have e4 := a 314 (by omega); have e5 := a 315 (by omega)
  refine ⟨⟨by rw [e8]; exact r1, r2, r3, r4.c (fun o x y _ => a o (by omega)), r5.c (by omega) (fun o x y => a o (by omega)), ?_, r7⟩, ⟨?_, by rw [e9]; exact r9⟩, ⟨r10.c (by rw [e4]) (c 4 (by omega)) e5 e0, r11.c (fun k _ _ => by rw [e4]) (fun k x y => c k (by omega))⟩, s, by rw [c 23 (by omega)]; exact r13⟩
  · rw [e9]; exact r6.c (by omega) (fun o x y => a o (by omega))
  · rw [e9]; exact r8.c n4 (fun o x y => a o (by omega))
end INV
