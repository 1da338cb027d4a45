section RING2
variable {h h' : Nat → Int → Int} {R R' : Int → Int} {L : Laws} {k x p v d l : Int}
theorem stC_o {o q y : Nat} (n : y < o ∨ o + 3 < y) : stC h o q y = h y := by
  funext j; unfold stC stR
  rw [if_neg (by omega), if_neg (by omega), if_neg (by omega), if_neg (by omega), if_neg (by omega)]
theorem SPR.cp {o : Nat} (P : SPR h 3 R 0 8 1253) (n5 : R 12 ≤ 25) : SPR (stC h o 3) o R 0 8 1253 := by
  obtain ⟨a, b, c, d, e, f, g, i, j⟩ := P.now
  refine ⟨?_, ?_, ?_, ?_, ?_, ?_, fun p p0 p1 => ?_, fun p p0 p1 => ?_, fun k k0 k1 => ?_⟩ <;> unfold stC stR
  · rw [if_pos ⟨rfl, rfl⟩]; exact a
  · rw [if_neg (by omega), if_pos (by omega)]; exact b
  · rw [if_neg (by omega), if_pos (by omega)]; exact c
  · rw [if_neg (by omega), if_pos (by omega)]; exact d
  · rw [if_neg (by omega), if_pos (by omega)]; exact e
  · rw [if_neg (by omega), if_pos (by omega)]; exact f
  · rw [if_neg (by omega), if_neg (by omega), if_pos (by omega)]; exact g p p0 p1
  · rw [if_neg (by omega), if_neg (by omega), if_neg (by omega), if_pos (by omega)]; exact i p p0 p1
  · rw [if_neg (by omega), if_neg (by omega), if_neg (by omega), if_neg (by omega), if_pos (by have k2 : k < R 12 := k1; omega)]; exact j k k0 k1
theorem TPic.st4 (P : TPic h 2 R) (V : RV R) (e : stpEq R R') (E : ∀ o, ((o < 38 ∧ o ≠ 2) ∨ 158 ≤ o) → h' o = h o) (E2 : ∀ k : Int, k ≠ 10 → k ≠ 11 → h' 2 k = h 2 k) (s : h' 2 11 = R' 4) (el : 0 ≤ h' 2 10 ∧ h' 2 10 < 30)
    (rg : ∀ j : Int, 0 ≤ j → j < R' 4 → SPR h' (38 + 4 * ((h' 2 10 + j) % 30).toNat) R' (83 + 39 * j) (84 + 39 * j) (97 + 39 * j)) : TPic h' 2 R' := by
  have z0 := e 0 (by omega) (by omega); have z1 := e 1 (by omega) (by omega); have z2 := e 2 (by omega) (by omega); have z3 := e 3 (by omega) (by omega); have z5 := e 5 (by omega) (by omega); have z6 := e 6 (by omega) (by omega); have z7 := e 7 (by omega) (by omega)
  obtain ⟨n0, n1, n2, n3, n4, n5, n6, n7⟩ := V.n
  have f := P.f
  refine ⟨?_, ⟨?_, fun p p0 p1 => ?_⟩, ⟨?_, fun p p0 p1 => ?_⟩, ⟨?_, fun p p0 p1 => ?_⟩, ⟨?_, fun p p0 p1 => ?_⟩, ⟨?_, fun p p0 p1 => ?_⟩, ?_, fun j j0 j1 => ?_⟩
  · exact (P.1.c (fun o h0 h1 => E o (by omega))).cR z0 (fun k k0 k1 => e _ (by omega) (by omega)) (fun k k0 k1 => e _ (by omega) (by omega)) n0.2 V.w.2.2.2.2.2
  · show h' 7 1 = _; rw [E 7 (by omega), z0]; exact f.2.1.1
  · show h' 8 p = R' (21 + p); rw [E 8 (by omega), e _ (by omega) (by omega)]; exact P.sl p p0 (by omega)
  · show h' 9 1 = _; rw [E 9 (by omega), z1]; exact f.2.1.2.1
  · show h' 10 p = R' (29 + p); rw [E 10 (by omega), e _ (by omega) (by omega)]; exact P.di p p0 (by omega)
  · show h' 11 1 = _; rw [E 11 (by omega), z5]; exact f.2.1.2.2.1
  · show h' 12 p = R' (37 + p); rw [E 12 (by omega), e _ (by omega) (by omega)]; exact P.st p p0 (by omega)
  · show h' 13 1 = _; rw [E 13 (by omega), z6]; exact f.2.1.2.2.2.1
  · show h' 14 p = R' (43 + 2 * p) * 2 + R' (44 + 2 * p); rw [E 14 (by omega), e _ (by omega) (by omega), e _ (by omega) (by omega)]; exact P.ve p p0 (by omega)
  · show h' 15 1 = _; rw [E 15 (by omega), z7]; exact f.2.1.2.2.2.2
  · show h' 16 p = (R' (59 + 3 * p) * 4 + R' (60 + 3 * p)) * 10 + R' (61 + 3 * p); rw [E 16 (by omega), e _ (by omega) (by omega), e _ (by omega) (by omega), e _ (by omega) (by omega)]; exact P.sa p p0 (by omega)
  · rw [E2 7 (by decide) (by decide), E2 8 (by decide) (by decide), z2, z3]; exact ⟨f.2.2.1, f.2.2.2.1, s, el.1, el.2⟩
  · exact rg j j0 j1
theorem TPic.keep (P : TPic h 2 R) (V : RV R) {o : Nat} (ho : o = 38 + 4 * ((h 2 10 + R 4) % 30).toNat) (H : (R 4 < 30 ∧ h' = up (stC h o 3) 2 11 (R 4 + 1)) ∨ (R 4 = 30 ∧ h' = up (stC h o 3) 2 10 ((h 2 10 + 1) % 30))) : TPic h' 2 (rKeep R) ∧ eqT h h' := by
  have f := P.f
  have v4 := V.n.2.2.2.2.1
  have o38 : 38 ≤ o ∧ o ≤ 154 := by omega
  have E : ∀ q, q ≠ 2 → (q < o ∨ o + 3 < q) → h' q = h q := fun q q2 qo => by
    funext j
    rcases H with ⟨_, e⟩ | ⟨_, e⟩ <;> rw [e, up_o q2, stC_o qo]
  have E2 : ∀ k : Int, k ≠ 10 → k ≠ 11 → h' 2 k = h 2 k := fun k k0 k1 => by
    rcases H with ⟨_, e⟩ | ⟨_, e⟩ <;> rw [e, up_k (by assumption), stC_o (by omega)]
  have ks := kpS_R V
  have e11 : h' 2 11 = rKeep R 4 := by
    rw [rKeep_4]; unfold kpS
    rcases H with ⟨w, e⟩ | ⟨w, e⟩ <;> rw [e]
    · rw [up_s, if_neg (by omega)]
    · rw [up_k (by decide), stC_o (by omega), if_pos w]; omega
  have e10 : h' 2 10 = if R 4 = 30 then (h 2 10 + 1) % 30 else h 2 10 := by
    rcases H with ⟨w, e⟩ | ⟨w, e⟩ <;> rw [e]
    · rw [up_k (by decide), stC_o (by omega), if_neg (by omega)]
    · rw [up_s, if_pos w]
  have Eo : SPR h' o R 0 8 1253 := by
    refine (P.1.cp (o := o) V.w.2.2.2.2.2).c (fun q q0 q1 => ?_)
    funext j
    rcases H with ⟨_, e⟩ | ⟨_, e⟩ <;> rw [e, up_o (by omega)]
  refine ⟨P.st4 V (rKeep_E V) (fun q hq => E q (by omega) (by omega)) E2 e11 (by rw [e10]; split <;> omega) (fun j j0 j1 => ?_), fun q hq => E q (by omega) (by omega)⟩
  rw [rKeep_4] at j1
  by_cases q : j = kpS R
  · have oo : 38 + 4 * ((h' 2 10 + j) % 30).toNat = o := by
      rw [e10, ho, q]; unfold kpS; split <;> omega
    rw [oo, q]
    have z := rKeep_n (k := 0) (by decide) (by decide) V
    simp only [Int.add_zero] at z
    have z' : rKeep R (83 + 39 * kpS R) = R 0 := z
    refine Eo.cS z' (fun k k0 k1 => ?_) (fun k k0 k1 => ?_) V.n.1.2 V.w.2.2.2.2.2
    · rw [show 84 + 39 * kpS R + k = 83 + 39 * kpS R + (1 + k) by omega, rKeep_n (by omega) (by omega) V]
      unfold rowN; rw [if_neg (by omega), if_pos (by omega)]; congr 1; omega
    · rw [show 97 + 39 * kpS R + k = 83 + 39 * kpS R + (14 + k) by omega, rKeep_n (by omega) (by omega) V]
      unfold rowN; rw [if_neg (by omega), if_neg (by omega)]; congr 1; omega
  · obtain ⟨i, i0, i1, w, w'⟩ : ∃ i, 0 ≤ i ∧ i < R 4 ∧ ((h' 2 10 + j) % 30) = ((h 2 10 + i) % 30) ∧ ∀ k : Int, 0 ≤ k → k < 39 → rKeep R (83 + 39 * j + k) = R (83 + 39 * i + k) := by
      by_cases u : R 4 = 30
      · refine ⟨j + 1, by omega, by unfold kpS at *; rw [if_pos u] at *; omega, by rw [e10, if_pos u]; omega, fun k k0 k1 => ?_⟩
        rw [rKeep_e k0 k1 j0 (by omega) V, if_pos u]
      · refine ⟨j, j0, by unfold kpS at *; rw [if_neg u] at *; omega, by rw [e10, if_neg u], fun k k0 k1 => ?_⟩
        rw [rKeep_e k0 k1 j0 (by omega) V, if_neg u]
    have ne : ((h 2 10 + i) % 30).toNat ≠ ((h 2 10 + R 4) % 30).toNat := by
      by_cases u : R 4 = 30
      · have : (h' 2 10 + j) % 30 ≠ h 2 10 := by rw [e10, if_pos u]; unfold kpS at j1 q ks; rw [if_pos u] at j1 q ks; omega
        omega
      · omega
    rw [w]
    have s := P.2.2.2.2.2.2.2 i i0 i1
    have sv := (V.sp i i0 i1).1
    have z := w' 0 (by decide) (by decide)
    simp only [Int.add_zero] at z
    refine (s.c (fun q q0 q1 => E q (by omega) (by omega))).cS z (fun k k0 k1 => ?_) (fun k k0 k1 => ?_) sv.2.1 ?_
    · rw [show 84 + 39 * j + k = 83 + 39 * j + (1 + k) by omega, w' _ (by omega) (by omega)]; congr 1; omega
    · rw [show 97 + 39 * j + k = 83 + 39 * j + (14 + k) by omega, w' _ (by omega) (by omega)]; congr 1; omega
    · exact sv.2.2.2.2.2.2.2.2.2.2.2.1
end RING2

theorem wX7_beginStep {G : GT} {δ : Nat} {h hl : Nat → Int → Int} {b : Bool × Bool} {Q : V → Hp → Prop} {R : Int → Int} {L : Laws} (hδ : δ ≤ 1660) (C : CT h R L) (hQ : ∀ h', eqT h h' → CT h' (rKeep R) L → Q vn (HS h' hl b)) : WP G δ 0 0 MX7_beginStep 0 [vr (2)] [] (HS h hl b) Q := by
  have f := C.1.f
  have v4 := C.2.1.n
  have g10 := f.2.2.2.2.2
  have g11 := f.2.2.2.2.1
  have to := (tt_ahead ((h 2 10 + R 4) % 30).toNat (by omega)).1
  refine al_0 dX7_beginStep_0 ?_
  refine g_X7_49 (18) dX7_beginStep_1 rfl tt2 (rr7_9 tt2) (by omega) ?_
  refine al_0 dX7_beginStep_4 ?_
  refine g_X7_74 dX7_beginStep_5 rfl tt2 ?_
  refine al_0 dX7_beginStep_8 ?_
  refine g_X7_77 dX7_beginStep_9 rfl tt2 ?_
  rw [g11]
  refine wp_iadd dX7_beginStep_12 (r32 (by omega) (by omega)) ?_
  refine bi_30 dX7_beginStep_13 ?_
  refine wp_iremN dX7_beginStep_15 (by omega) (by omega) ?_
  refine wp_aaload (38 + 4 * ((h 2 10 + R 4) % 30).toNat) dX7_beginStep_16 tt18 (Or.inr rfl) (by omega) (by omega) (rr18 (by omega) (by omega)) (by omega) ?_
  refine al_0 dX7_beginStep_17 ?_
  refine g_X7_12 (3) dX7_beginStep_18 rfl tt2 (rr7_0 tt2) (by omega) ?_
  refine c_X7_61 dX7_beginStep_21 rfl to (Nat.le_of_ble_eq_true rfl) (by omega) ?_
  refine wX5_copy (by omega) to tt3 (by omega) (by omega) (by omega) ?_
  have s11 : stC h (38 + 4 * ((h 2 10 + R 4) % 30).toNat) 3 2 11 = h 2 11 := by rw [stC_o (by omega)]
  have s10 : stC h (38 + 4 * ((h 2 10 + R 4) % 30).toNat) 3 2 10 = h 2 10 := by rw [stC_o (by omega)]
  refine pv_n ?_
  refine al_0 dX7_beginStep_24 ?_
  refine g_X7_77 dX7_beginStep_25 rfl tt2 ?_
  rw [s11, g11]
  refine bi_30 dX7_beginStep_28 ?_
  refine wp_icmp_ge 46 dX7_beginStep_30 rfl (fun c30 => ?_) (fun c30 => ?_)
  · refine al_0 dX7_beginStep_46 ?_
    refine al_0 dX7_beginStep_47 ?_
    refine g_X7_74 dX7_beginStep_48 rfl tt2 ?_
    rw [s10]
    refine ic_1 dX7_beginStep_51 ?_
    refine wp_iadd dX7_beginStep_52 (r32 (by omega) (by omega)) ?_
    refine bi_30 dX7_beginStep_53 ?_
    refine wp_iremN dX7_beginStep_55 (by omega) (by omega) ?_
    refine p_X7_74 dX7_beginStep_56 rfl tt2 ?_
    refine wp_vret dX7_beginStep_59 rfl ?_
    obtain ⟨P', E'⟩ := C.1.keep C.2.1 rfl (by first | exact Or.inl ⟨by omega, rfl⟩ | exact Or.inr ⟨by omega, rfl⟩)
    exact hQ _ E' ⟨P', rKeep_V C.2.1, by rw [rKeep_o C.2.1 (by decide) (by omega)]; exact C.2.2.cT v4.2.2.1.2 E'⟩
  · refine al_0 dX7_beginStep_33 ?_
    refine wp_dup dX7_beginStep_34 rfl ?_
    refine g_X7_77 dX7_beginStep_35 rfl tt2 ?_
    rw [s11, g11]
    refine ic_1 dX7_beginStep_38 ?_
    refine wp_iadd dX7_beginStep_39 (r32 (by omega) (by omega)) ?_
    refine p_X7_77 dX7_beginStep_40 rfl tt2 ?_
    refine wp_goto 59 dX7_beginStep_43 rfl ?_
    refine wp_vret dX7_beginStep_59 rfl ?_
    obtain ⟨P', E'⟩ := C.1.keep C.2.1 rfl (by first | exact Or.inl ⟨by omega, rfl⟩ | exact Or.inr ⟨by omega, rfl⟩)
    exact hQ _ E' ⟨P', rKeep_V C.2.1, by rw [rKeep_o C.2.1 (by decide) (by omega)]; exact C.2.2.cT v4.2.2.1.2 E'⟩
