/-! the law's loop: tape, image, text -/
section INV3
variable {h h' h1 h2 : Nat → Int → Int} {R R' I : Int → Int} {L : Laws} {n : Int} {st : RSt}
theorem INV.tp (V : INV h R I L) : TPE h := V.2.2.2.2.2.1.1
theorem INV.fp (V : INV h R I L) : FPE h := V.2.2.2.2.2.1.2
theorem INV.cl (V : INV h R I L) : ClT h 2 (h 339) (R 2) := V.2.2.2.2.1.1
theorem RST.tx (r : RST h n I L) (n4 : n ≤ 4) (a : ∀ o : Nat, (22 ≤ o ∧ (o : Int) < 22 + 4 * n) ∨ (158 ≤ o ∧ o ≤ 313) ∨ o = 338 → h' o = h o) (e9 : ∀ k : Int, 0 ≤ k → k < 705 * n → h' 339 k = h 339 k) (tp : TPE h') (fp : FPE h') (s : h' 324 0 = 0) (w : h' 336 23 = 1) : RST h' n I L := by
  obtain ⟨⟨r1, r2, r3, r4, r5, r6, r7⟩, ⟨r8, r9⟩, -⟩ := r
  have i2 := r2.n.2.2.1
  refine ⟨⟨by rw [a 338 (by omega)]; exact r1, r2, r3, r4.c (fun o x y _ => a o (by omega)), r5.c (by omega) (fun o x y => a o (by omega)), ?_, r7⟩, ⟨?_, r9.c e9⟩, ⟨tp, fp⟩, s, w⟩
  · exact (r6.cT (fun k k0 k1 => e9 k k0 (by omega))).c (by omega) (fun o x y => a o (by omega))
  · exact fun i i0 i1 => ((r8.cT e9) i i0 i1).c (fun o x y => a o (by omega))
theorem INV.tx (V : INV h R I L) (C : CT h' R L) (e7 : h' 337 = R) (a : ∀ o : Nat, (22 ≤ o ∧ (o : Int) < 22 + 4 * R 2) ∨ (158 ≤ o ∧ o ≤ 313) ∨ o = 338 → h' o = h o) (e9 : ∀ k : Int, 0 ≤ k → k < 705 * R 2 → h' 339 k = h 339 k) (tp : TPE h') (fp : FPE h') (s : h' 324 0 = 0) (w : h' 336 23 = 1) : INV h' R I L :=
  ⟨e7, C, V.2.2.1, V.2.2.2.tx V.V.n.2.2.1.2 a e9 tp fp s w⟩
/-- a call that does, of any kind -/
theorem INV.st2 (V : INV h R I L) (C : CT h1 R' L) (M : h' 337 = R') (t : TC R') (k2 : R' 2 = R 2) (E : ∀ o : Nat, (22 ≤ o ∧ o < 38) ∨ (158 ≤ o ∧ o < 332) ∨ 336 ≤ o → h1 o = h o) (E2 : ∀ o : Nat, o < 336 ∨ (338 ≤ o ∧ o ≤ 340) → h' o = h1 o) (c : ∀ k : Int, k ≠ 24 → h' 336 k = h1 336 k) : INV h' R' I L := by
  refine ⟨M, C.o (fun o a _ => E2 o (by omega)), t, ?_⟩
  rw [k2]
  refine V.2.2.2.c V.V.n.2.2.1.2 (fun o a => (E2 o (by omega)).trans (E o (by omega))) (fun k a => ?_) ?_
  · rw [c k (by omega), E 336 (by omega)]
  · rw [E2 324 (by omega), E 324 (by omega)]; exact V.z0
theorem INV.ok (V : INV h R I L) (e : h1 339 = h 339) : ∀ i : Int, 0 ≤ i → i < R 2 → (0 ≤ h 339 (705 * i) ∧ h 339 (705 * i) ≤ 24) ∧ ∀ k : Int, 0 ≤ k → k < h 339 (705 * i) → (0 ≤ h 339 (705 * i + 1 + 4 * k) ∧ h 339 (705 * i + 1 + 4 * k) ≤ 7) ∧ ClOK (h 339 (705 * i + 1 + 4 * k)) (h 339 (705 * i + 1 + 4 * k + 1)) (h 339 (705 * i + 1 + 4 * k + 2)) (h 339 (705 * i + 1 + 4 * k + 3)) := fun i i0 i1 => by
  obtain ⟨x, y, z⟩ := V.cl i i0 i1
  exact ⟨y, fun k k0 k1 => ⟨(z k k0 k1).1, cl_ok (z k k0 k1)⟩⟩
/-- the image -/
theorem INV.im (V : INV h R I L) (e : ∀ x : Nat, x < 158 ∨ 313 < x → h1 x = h x) (P : TPic h1 158 R) (W : LwC h1 158 (R 2) L) (C : ClT h1 158 (h 339) (R 2)) (E2 : eqX [338] h1 h2) (q : eqR R (h2 338)) : INV h2 R R L := by
  have n := V.V.n
  have a : ∀ o : Nat, o ≠ 338 → h2 o = h1 o := fun o ho => E2 o (by simp; omega)
  have a2 : ∀ o : Nat, o ≠ 338 → (o < 158 ∨ 313 < o) → h2 o = h o := fun o ho hq => (a o ho).trans (e o hq)
  have e9 := a2 339 (by decide) (by decide)
  obtain ⟨r7, ⟨cc, tc, ⟨⟨q1, q2, q3, q4, q5, q6, q7⟩, ⟨q8, q9⟩, ⟨q10, q11⟩, q12, q13⟩⟩⟩ := V
  refine ⟨by rw [a2 337 (by decide) (by decide)]; exact r7, cc.o (fun o x y => a2 o (by omega) (by omega)), tc, ⟨q, cc.2.1, tc, P.c (fun o x y _ => a o (by omega)), W.c (by omega) (fun o x y => a o (by omega)), ?_, Int.le_refl _⟩, ⟨?_, by rw [e9]; exact q9⟩, ⟨q10.c (by rw [a2 314 (by decide) (by decide)]) (by rw [a2 336 (by decide) (by decide)]) (a2 315 (by decide) (by decide)) (a2 340 (by decide) (by decide)), q11.c (fun k _ _ => by rw [a2 314 (by decide) (by decide)]) (fun k _ _ => by rw [a2 336 (by decide) (by decide)])⟩, by rw [a2 324 (by decide) (by decide)]; exact q12, by rw [a2 336 (by decide) (by decide)]; exact q13⟩
  · rw [e9]; exact C.c (by omega) (fun o x y => a o (by omega))
  · rw [e9]; exact q8.c (by omega) (fun o x y => a2 o (by omega) (by omega))
/-- the town back -/
theorem INV.bk (V : INV h R I L) (e : ∀ x : Nat, x < 2 ∨ 157 < x → h1 x = h x) (C1 : CT h1 I L) (C : ClT h1 2 (h 339) (I 2)) (E2 : eqX [337] h1 h2) (q : eqR (h1 338) (h2 337)) : INV h2 (h2 337) I L := by
  have a : ∀ o : Nat, o ≠ 337 → h2 o = h1 o := fun o ho => E2 o (by simp; omega)
  have a2 : ∀ o : Nat, o ≠ 337 → 157 < o → h2 o = h o := fun o ho hq => (a o ho).trans (e o (by omega))
  have e9 := a2 339 (by decide) (by decide)
  have vn := V.V.n
  obtain ⟨r7, ⟨cc, tc, ⟨⟨q1, q2, q3, q4, q5, q6, q7⟩, ⟨q8, q9⟩, ⟨q10, q11⟩, q12, q13⟩⟩⟩ := V
  have eI : eqR I (h2 337) := fun k k0 k1 => by rw [q k k0 k1, e 338 (by omega)]; exact q1 k k0 k1
  have i2 : h2 337 2 = I 2 := eI 2 (by omega) (by omega)
  have n := q2.n
  have C2 : CT h2 I L := C1.o (fun o x y => a o (by omega))
  refine ⟨rfl, ⟨C2.1.e q2 eI, q2.e eI, by rw [i2]; exact C2.2.2⟩, q3.e q2 eI, ?_⟩
  rw [i2]
  refine ⟨⟨by rw [a2 338 (by decide) (by decide)]; exact q1, q2, q3, q4.c (fun o x y _ => a2 o (by omega) (by omega)), q5.c (by omega) (fun o x y => a2 o (by omega) (by omega)), ?_, Int.le_refl _⟩, ⟨?_, by rw [e9]; exact q9.le q7⟩, ⟨q10.c (by rw [a2 314 (by decide) (by decide)]) (by rw [a2 336 (by decide) (by decide)]) (a2 315 (by decide) (by decide)) (a2 340 (by decide) (by decide)), q11.c (fun k _ _ => by rw [a2 314 (by decide) (by decide)]) (fun k _ _ => by rw [a2 336 (by decide) (by decide)])⟩, by rw [a2 324 (by decide) (by decide)]; exact q12, by rw [a2 336 (by decide) (by decide)]; exact q13⟩
  · rw [e9]; exact q6.c (by omega) (fun o x y => a2 o (by omega) (by omega))
  · rw [e9]; exact C.c (by omega) (fun o x y => a o (by omega))
/-- the tape, one and the same -/
theorem INV.by (V : INV h R I L) : BY (h 315) (h 336 4) ∧ BY (h 340) (h 336 4) ∧ agr (h 315) (h 340) (h 336 4) := by
  obtain ⟨t1, t2, t3, t4⟩ := V.tp
  exact ⟨⟨t2, t3, fun k k0 k1 => by have := t4 k k0 k1; omega⟩, ⟨t2, t3, fun k k0 k1 => (t4 k k0 k1).2⟩, fun k k0 k1 => (t4 k k0 k1).1⟩
theorem TPE.z (a : h 314 1 = 0) (c : h 336 4 = 0) : TPE h := ⟨by rw [a, c], by rw [c]; decide, by rw [c]; decide, fun k k0 k1 => by rw [c] at k1; omega⟩
theorem DrI.c (D : DrI h st) (e6 : h' 316 = h 316) (e7 : h' 317 = h 317) (e8 : h' 318 = h 318) (e9 : h' 319 = h 319) : DrI h' st := by
  unfold DrI Cd CRk at *
  rw [e6, e7, e8, e9]; exact D
/-- a text that was not read -/
theorem INV.tx0 (V : INV h R I L) {e : Int × Int} {p : Int} (n4 : R 2 < 4) (E : TcE (R 2) h h1) (r : h1 2 7 = R 2) (z1 : h1 314 1 = 0) (z2 : h1 314 2 = 1) (z3 : h1 314 3 = e.1) (z4 : h1 314 4 = p) (X : TxE (705 * R 2) h1 h2) (m7 : h2 337 = h1 337) (m4 : h2 336 4 = 0) (m5 : h2 336 5 = e.1) (m6 : h2 336 6 = p) : INV h2 R I L := by
  have n := V.V.n
  have a : ∀ o : Nat, o ∉ [336, 337, 339, 341] → h2 o = h1 o := X.1
  have c : ∀ o : Nat, o ≠ 2 → (o < 22 + 4 * (R 2).toNat ∨ 22 + 4 * (R 2).toNat + 3 < o) → (o < 314 ∨ o = 315 ∨ 322 < o) → h1 o = h o := E.1
  have C1 := V.2.1.tx0 n4 E r
  refine V.tx (C1.o (fun o x y => a o (by simp; omega))) (by rw [m7, c 337 (by omega) (by omega) (by omega)]; exact V.1) (fun o ho => (a o (by simp; omega)).trans (c o (by omega) (by omega) (by omega))) (fun k k0 k1 => by rw [X.2.2 k (by omega), c 339 (by omega) (by omega) (by omega)]) (TPE.z (by rw [a 314 (by decide)]; exact z1) m4) ?_ (by rw [a 324 (by decide), c 324 (by omega) (by omega) (by omega)]; exact V.z0) (by rw [X.2.1, c 336 (by omega) (by omega) (by omega)]; exact V.w1)
  unfold FPE
  rw [a 314 (by decide), z2, z3, z4, m5, m6]
  exact ⟨fun q => absurd q (by decide), fun _ => ⟨rfl, rfl⟩⟩
/-- a text read -/
theorem INV.tx1 (V : INV h R I L) (n4 : R 2 < 4) (hr : rdP (kF (h 340) (h 336 4)) (vF (h 340) (h 336 4)) 301 0 st0 = .inr st) (E : TcE (R 2) h h1) (r : h1 2 7 = R 2 + 1) (z1 : h1 314 1 = 0) (z2 : h1 314 2 = 1) (z3 : h1 314 3 = 0) (z4 : h1 314 4 = -1) (D : DrI h1 st) (S : SCE h1 h1 (22 + 4 * (R 2).toNat) 316) (X : TxE (705 * R 2) h1 h2) (m7 : h2 337 = ur (h1 337) 2 (R 2 + 1)) (m4 : h2 336 4 = 0) (m5 : h2 336 5 = 0) (m6 : h2 336 6 = -1) (Mo : MoI h2 (705 * R 2) st) : INV h2 (rTxt R) I (Lx R L st) := by
  have n := V.V.n
  have a : ∀ o : Nat, o ∉ [336, 337, 339, 341] → h2 o = h1 o := X.1
  have c : ∀ o : Nat, o ≠ 2 → (o < 22 + 4 * (R 2).toNat ∨ 22 + 4 * (R 2).toNat + 3 < o) → (o < 314 ∨ o = 315 ∨ 322 < o) → h1 o = h o := E.1
  obtain ⟨b1, b2, b3⟩ := V.by
  have t := TkE_ex (T := h 340) b2.1 b2.2.1
  obtain ⟨i1, i2, i3⟩ := rdP_I t (TkR_ex b2.1) 301 0 st0 (by decide) (by decide) (by decide) RI_0 (by decide) st hr
  have i4 := rdP_M t 301 0 st0 (by decide) (by decide) (by decide) st hr
  have C1 := V.2.1.txt n4 E r D S i1 (by omega)
  have k9 : ∀ k : Int, 0 ≤ k → k < 705 * R 2 → h2 339 k = h 339 k := fun k k0 k1 => by rw [X.2.2 k (by omega), c 339 (by omega) (by omega) (by omega)]
  have F : FPE h2 := by
    unfold FPE
    rw [a 314 (by decide), z2, z3, z4, m5, m6]
    exact ⟨fun q => absurd q (by decide), fun _ => ⟨rfl, rfl⟩⟩
  have r0 := V.2.2.2.tx (h' := h2) (by omega) (fun o ho => (a o (by simp; omega)).trans (c o (by omega) (by omega) (by omega))) k9 (TPE.z (by rw [a 314 (by decide)]; exact z1) m4) F (by rw [a 324 (by decide), c 324 (by omega) (by omega) (by omega)]; exact V.z0) (by rw [X.2.1, c 336 (by omega) (by omega) (by omega)]; exact V.w1)
  refine ⟨by rw [m7, c 337 (by omega) (by omega) (by omega), V.1]; rfl, C1.o (fun o x y => a o (by simp; omega)), V.2.2.1.txt V.V, ?_⟩
  rw [show rTxt R 2 = R 2 + 1 from ur_s]
  obtain ⟨⟨q1, q2, q3, q4, q5, q6, q7⟩, ⟨q8, q9⟩, qq⟩ := r0
  refine ⟨⟨q1, q2, q3, q4, fun i x0 x1 => ?_, q6, by omega⟩, ⟨fun i x0 x1 => ?_, ?_⟩, qq⟩
  · have f : ∀ s, Lx R L st i s = L i s := fun s => by unfold Lx; rw [if_neg (by omega)]
    rw [f, f]; exact q5 i x0 x1
  · by_cases e : i = R 2
    · subst e
      have D2 : DrI h2 st := D.c (a 316 (by decide)) (a 317 (by decide)) (a 318 (by decide)) (a 319 (by decide))
      have S2 : SCE h2 h2 (22 + 4 * (R 2).toNat) 316 := (S.c (h2 := h2) (fun x x0 x1 => a x (by simp; omega))).s (fun x x0 x1 => (a x (by simp; omega)).symm)
      exact S2.cl (txt_cl D2 Mo i1 i2)
    · exact q8 i x0 (by omega)
  · exact V.2.2.2.2.1.2.txt n.2.2.1.1 k9 Mo i1 i2 (by omega)
end INV3
section INV4
variable {h h' h1 h2 : Nat → Int → Int} {R R' I : Int → Int} {L : Laws} {x : Int}
theorem INV.fd {a c d e f : Int} (V : INV h R I L) (q : h 336 4 ≤ 280) (A1 : ∀ o, o ≠ 314 → o ≠ 315 → h1 o = h o) (A2 : ∀ j : Int, j ≠ 1 → h1 314 j = h 314 j) (A3 : h1 314 1 = h 336 4 + 20) (A4 : h1 315 = t5 (h 315) (h 336 4) a c d e f) (B1 : ∀ o, o ≠ 336 → o ≠ 340 → h2 o = h1 o) (B2 : ∀ j : Int, j ≠ 4 → h2 336 j = h1 336 j) (B3 : h2 336 4 = h 336 4 + 20) (B4 : h2 340 = t5 (h1 340) (h 336 4) a c d e f) : INV h2 R I L := by
  have n := V.V.n
  obtain ⟨t1, t2, t3, t4⟩ := V.tp
  have m : ∀ o, o ≠ 314 → o ≠ 315 → o ≠ 336 → o ≠ 340 → h2 o = h o := fun o a c d e => (B1 o d e).trans (A1 o a c)
  have w : ∀ j : Int, j ≠ 4 → h2 336 j = h 336 j := fun j hj => by rw [B2 j hj, A1 336 (by decide) (by decide)]
  have w2 : ∀ j : Int, j ≠ 1 → h2 314 j = h 314 j := fun j hj => by rw [B1 314 (by decide) (by decide), A2 j hj]
  refine V.tx (V.2.1.o (fun o x y => m o (by omega) (by omega) (by omega) (by omega))) (by rw [m 337 (by decide) (by decide) (by decide) (by decide)]; exact V.1) (fun o ho => m o (by omega) (by omega) (by omega) (by omega)) (fun k _ _ => by rw [m 339 (by decide) (by decide) (by decide) (by decide)]) ?_ (V.fp.c (fun k k0 k1 => w2 k (by omega)) (fun k k0 k1 => w k (by omega))) (by rw [m 324 (by decide) (by decide) (by decide) (by decide)]; exact V.z0) (by rw [w 23 (by decide)]; exact V.w1)
  refine ⟨by rw [B1 314 (by decide) (by decide), A3, B3], by omega, by omega, fun k k0 k1 => ?_⟩
  rw [B3] at k1
  have z := t5_c (T := h 340) (T' := h 315) (n := h 336 4) (a := a) (c := c) (d := d) (x := e) (f := f) t2 (fun k k0 k1 => ((t4 k k0 k1).1).symm) (fun k k0 k1 => (t4 k k0 k1).2) k k0 k1
  rw [B1 315 (by decide) (by decide), A4, B4, A1 340 (by decide) (by decide)]
  exact ⟨z.1.symm, z.2⟩
theorem INV.en (V : INV h R I L) (q : 0 ≤ x ∧ x ≤ h 336 4) : INV (up (up h 314 1 x) 336 4 x) R I L := by
  have n := V.V.n
  obtain ⟨t1, t2, t3, t4⟩ := V.tp
  have m : ∀ o : Nat, o ≠ 314 → o ≠ 336 → up (up h 314 1 x) 336 4 x o = h o := fun o a c => by funext k; rw [up_o (by omega), up_o (by omega)]
  have w : ∀ j : Int, j ≠ 4 → up (up h 314 1 x) 336 4 x 336 j = h 336 j := fun j hj => by rw [up_k hj, up_o (by decide)]
  have w2 : ∀ j : Int, j ≠ 1 → up (up h 314 1 x) 336 4 x 314 j = h 314 j := fun j hj => by rw [up_o (by decide), up_k hj]
  refine V.tx (V.2.1.o (fun o x y => m o (by omega) (by omega))) (by rw [m 337 (by decide) (by decide)]; exact V.1) (fun o ho => m o (by omega) (by omega)) (fun k _ _ => by rw [m 339 (by decide) (by decide)]) ?_ (V.fp.c (fun k k0 k1 => w2 k (by omega)) (fun k k0 k1 => w k (by omega))) (by rw [m 324 (by decide) (by decide)]; exact V.z0) (by rw [w 23 (by decide)]; exact V.w1)
  have e3 : up (up h 314 1 x) 336 4 x 336 4 = x := up_s
  refine ⟨by rw [e3, up_o (by decide), up_s], by rw [e3]; exact q.1, by rw [e3]; omega, fun k k0 k1 => ?_⟩
  rw [e3] at k1
  rw [m 315 (by decide) (by decide), m 340 (by decide) (by decide)]
  exact t4 k k0 (by omega)
end INV4
