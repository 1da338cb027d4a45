/-! what is made: an object of objects -/
def PR (n cur a b : Nat) (h hl : Nat → Int → Int) (r0 r : Nat → Int → Nat) (P : Int → Nat) : Prop :=
  Zn cur h hl r ∧ (∀ q : Nat, q ≤ n → r q = r0 q) ∧ r (n + 1) = P ∧ (∀ q : Nat, n + 1 < q → q ≤ cur → (q < a ∨ b < q) → r q = RR B0 q) ∧ ∀ q : Nat, n + 1 < q → q ≤ cur → a ≤ q → q ≤ b → ∀ k : Int, r q k = 0
section PRS
variable {n cur a b m : Nat} {h h' hl : Nat → Int → Int} {r0 r r' : Nat → Int → Nat} {P : Int → Nat}
theorem PR.obj (Z : Zn n h hl r) : PR n (n + 1) a b h hl r r (fun _ => 0) := ⟨Z.le (by omega), fun q hq => rfl, by funext k; exact Z.2.2 _ (by omega) k, fun q q0 q1 => by omega, fun q q0 q1 => by omega⟩
theorem PR.sub (p : PR n cur a b h hl r0 r P) (g : Gr cur m h' hl r r') (hc : n + 1 ≤ cur) (ex : cur + m < a ∨ b ≤ cur) : PR n (cur + m) a b h' hl r0 r' P := by
  obtain ⟨p1, p2, p3, p4, p5⟩ := p
  obtain ⟨g1, g2, g3⟩ := g
  refine ⟨g1, fun q hq => by rw [g2 q (by omega)]; exact p2 q hq, by rw [g2 _ hc]; exact p3, fun q q0 q1 q2 => ?_, fun q q0 q1 q2 q3 k => ?_⟩
  · by_cases c : q ≤ cur
    · rw [g2 q c]; exact p4 q q0 c q2
    · exact g3 q (by omega) q1
  · have c : q ≤ cur := by omega
    rw [g2 q c]; exact p5 q q0 c q2 q3 k
theorem PR.put {k : Int} {x : Nat} (p : PR n cur a b h hl r0 r P) (hc : n + 1 ≤ cur) : PR n cur a b h hl r0 (up r (n + 1) k x) (fun j => if j = k then x else P j) := by
  obtain ⟨p1, p2, p3, p4, p5⟩ := p
  refine ⟨p1.ur hc, fun q hq => ?_, ?_, fun q q0 q1 q2 => ?_, fun q q0 q1 q2 q3 k => ?_⟩
  · funext j; rw [up_o (by omega), p2 q hq]
  · rw [up_r, p3]
  · funext j; rw [up_o (by omega), p4 q q0 q1 q2]
  · rw [up_o (by omega)]; exact p5 q q0 q1 q2 q3 k
theorem PR.hup {o : Nat} {k x : Int} (p : PR n cur a b h hl r0 r P) (e : o ≤ cur) : PR n cur a b (up h o k x) hl r0 r P := ⟨p.1.uh e, p.2⟩
theorem PR.arr {kd s : Nat} (p : PR n cur a b h hl r0 r P) (t : ty TT (cur + 1) = some (.inr (kd, s))) (k3 : kd < 3) (hc : n + 1 ≤ cur) (ex : cur + 1 < a ∨ b ≤ cur) : PR n (cur + 1) a b h hl r0 r P := by
  obtain ⟨p1, p2, p3, p4, p5⟩ := p
  refine ⟨p1.le (by omega), p2, p3, fun q q0 q1 q2 => ?_, fun q q0 q1 q2 q3 k => ?_⟩
  · by_cases c : q ≤ cur
    · exact p4 q q0 c q2
    · have e : q = cur + 1 := by omega
      subst e
      rw [RR_a t k3]; funext k; exact p1.2.2 _ (by omega) k
  · exact p5 q q0 (by omega) q2 q3 k
theorem PR.skp (p : PR n cur a b h hl r0 r P) (x0 : a ≤ cur + 1) (x1 : cur + 1 ≤ b) : PR n (cur + 1) a b h hl r0 r P := by
  obtain ⟨p1, p2, p3, p4, p5⟩ := p
  refine ⟨p1.le (by omega), p2, p3, fun q q0 q1 q2 => ?_, fun q q0 q1 q2 q3 k => ?_⟩
  · exact p4 q q0 (by omega) q2
  · by_cases c : q ≤ cur
    · exact p5 q q0 c q2 q3 k
    · exact p1.2.2 _ (by omega) k
theorem PR.gr (p : PR n (n + m) a b h hl r0 r P) (e : P = RR B0 (n + 1)) (ab : n + m < a ∨ b < a) : Gr n m h hl r0 r := by
  obtain ⟨p1, p2, p3, p4, p5⟩ := p
  refine ⟨p1, p2, fun q q0 q1 => ?_⟩
  by_cases c : q = n + 1
  · subst c; rw [p3, e]
  · exact p4 q (by omega) q1 (by omega)
theorem up_r' {o : Nat} {k : Int} {x : Nat} : up r o k x o = fun j => if j = k then x else r o j := up_r
end PRS
def T7 (n : Nat) (h h' : Nat → Int → Int) : Prop := (∀ q : Nat, q ≤ n → h' q = h q) ∧ (∀ k : Int, h' (n + 1) k = if k = 8 then -1 else 0) ∧ (∀ k : Int, h' (n + 2) k = if k = 4 then 367 else 0) ∧ ∀ q : Nat, n + 3 ≤ q → q ≤ n + 15 → ∀ k : Int, h' q k = 0
set_option maxRecDepth 100000 in
theorem wX7_init {G : GT} {δ : Nat} {h hl : Nat → Int → Int} {r : Nat → Int → Nat} {Q : V → Hp → Prop} {n : Nat} (hn : n = 1 ∨ n = 157) (hδ : δ ≤ 1860) (Z : Zn n h hl r) (hQ : ∀ (h' : Nat → Int → Int) (r' : Nat → Int → Nat), Gr n 156 h' hl r r' → T7 n h h' → Q vn (HB (n + 156) h' hl r')) : WP G δ 155 4273 MX7_init 0 [vr (n + 1), vn] [] (HB (n + 1) h hl r) Q := by
  have t1 : ty TT (n + 1) = some (.inl 7) := by rcases hn with e | e <;> subst e <;> decide +kernel
  have t2 : ty TT (n + 2) = some (.inl 5) := by rcases hn with e | e <;> subst e <;> decide +kernel
  have t3 : ty TT (n + 3) = some (.inr (0, 4)) := by rcases hn with e | e <;> subst e <;> decide +kernel
  have t4 : ty TT (n + 4) = some (.inr (0, 4)) := by rcases hn with e | e <;> subst e <;> decide +kernel
  have t5 : ty TT (n + 5) = some (.inr (0, 25)) := by rcases hn with e | e <;> subst e <;> decide +kernel
  have t6 : ty TT (n + 6) = some (.inl 6) := by rcases hn with e | e <;> subst e <;> decide +kernel
  have t7 : ty TT (n + 7) = some (.inr (0, 4)) := by rcases hn with e | e <;> subst e <;> decide +kernel
  have t8 : ty TT (n + 8) = some (.inl 6) := by rcases hn with e | e <;> subst e <;> decide +kernel
  have t9 : ty TT (n + 9) = some (.inr (0, 8)) := by rcases hn with e | e <;> subst e <;> decide +kernel
  have t10 : ty TT (n + 10) = some (.inl 6) := by rcases hn with e | e <;> subst e <;> decide +kernel
  have t11 : ty TT (n + 11) = some (.inr (0, 6)) := by rcases hn with e | e <;> subst e <;> decide +kernel
  have t12 : ty TT (n + 12) = some (.inl 6) := by rcases hn with e | e <;> subst e <;> decide +kernel
  have t13 : ty TT (n + 13) = some (.inr (0, 8)) := by rcases hn with e | e <;> subst e <;> decide +kernel
  have t14 : ty TT (n + 14) = some (.inl 6) := by rcases hn with e | e <;> subst e <;> decide +kernel
  have t15 : ty TT (n + 15) = some (.inr (0, 8)) := by rcases hn with e | e <;> subst e <;> decide +kernel
  have t16 : ty TT (n + 16) = some (.inr (3, 4)) := by rcases hn with e | e <;> subst e <;> decide +kernel
  have t17 : ty TT (n + 17) = some (.inr (4, 30)) := by rcases hn with e | e <;> subst e <;> decide +kernel
  have t18 : ty TT (n + 18) = some (.inl 1) := by rcases hn with e | e <;> subst e <;> decide +kernel
  have t19 : ty TT (n + 19) = some (.inr (0, 10)) := by rcases hn with e | e <;> subst e <;> decide +kernel
  have t20 : ty TT (n + 20) = some (.inr (0, 64)) := by rcases hn with e | e <;> subst e <;> decide +kernel
  have p0 := PR.obj (a := n + 16) (b := n + 17) Z
  refine al_0 dX7_init_0 ?_
  refine c_X7_3 dX7_init_1 rfl (by simp) (by omega) ?_
  refine al_0 dX7_init_4 ?_
  refine wp_newT p0.1 t2 dX7_init_5 (by decide) cl_X7_9 in_X5 ini_X5 rfl ?_
  refine wp_dup dX7_init_8 rfl ?_
  refine c_X7_11 (mc1 := 3) (ms1 := 33) (mc := 151) (ms := 4231) dX7_init_9 rfl (Nat.le_of_ble_eq_true rfl) (by omega) ?_
  refine wX5_init (n := n + 1) (by omega) p0.1 t2 t3 t4 t5 (fun r1 G1 => ?_)
  refine pv_n ?_
  have p1 := p0.sub G1 (by omega) (by omega)
  refine p_X7_12 dX7_init_12 rfl (tyt (by omega) t1) rfl (by omega) ?_
  have q1 := p1.put (k := 0) (x := n + 1 + 1) (by omega)
  refine al_0 dX7_init_15 ?_
  refine wp_newT q1.1 t6 dX7_init_16 (by decide) cl_X7_18 in_X6 ini_X6 rfl ?_
  refine wp_dup dX7_init_19 rfl ?_
  refine ic_4 dX7_init_20 ?_
  refine c_X7_20 (mc1 := 1) (ms1 := 4) (mc := 149) (ms := 4225) dX7_init_21 rfl (Nat.le_of_ble_eq_true rfl) (by omega) ?_
  refine wX6_init (n := n + 1 + 4) (s := 4) (by omega) (by omega) q1.1 t6 t7 (fun r2 G2 => ?_)
  refine pv_n ?_
  have p2 := q1.sub G2 (by omega) (by omega)
  refine p_X7_23 dX7_init_24 rfl (tyt (by omega) t1) rfl (by omega) ?_
  have q2 := p2.put (k := 1) (x := n + 1 + 4 + 1) (by omega)
  refine al_0 dX7_init_27 ?_
  refine wp_newT q2.1 t8 dX7_init_28 (by decide) cl_X7_18 in_X6 ini_X6 rfl ?_
  refine wp_dup dX7_init_31 rfl ?_
  refine bi_8 dX7_init_32 ?_
  refine c_X7_20 (mc1 := 1) (ms1 := 8) (mc := 147) (ms := 4215) dX7_init_34 rfl (Nat.le_of_ble_eq_true rfl) (by omega) ?_
  refine wX6_init (n := n + 1 + 4 + 2) (s := 8) (by omega) (by omega) q2.1 t8 t9 (fun r3 G3 => ?_)
  refine pv_n ?_
  have p3 := q2.sub G3 (by omega) (by omega)
  refine p_X7_27 dX7_init_37 rfl (tyt (by omega) t1) rfl (by omega) ?_
  have q3 := p3.put (k := 2) (x := n + 1 + 4 + 2 + 1) (by omega)
  refine al_0 dX7_init_40 ?_
  refine wp_newT q3.1 t10 dX7_init_41 (by decide) cl_X7_18 in_X6 ini_X6 rfl ?_
  refine wp_dup dX7_init_44 rfl ?_
  refine bi_6 dX7_init_45 ?_
  refine c_X7_20 (mc1 := 1) (ms1 := 6) (mc := 145) (ms := 4207) dX7_init_47 rfl (Nat.le_of_ble_eq_true rfl) (by omega) ?_
  refine wX6_init (n := n + 1 + 4 + 2 + 2) (s := 6) (by omega) (by omega) q3.1 t10 t11 (fun r4 G4 => ?_)
  refine pv_n ?_
  have p4 := q3.sub G4 (by omega) (by omega)
  refine p_X7_30 dX7_init_50 rfl (tyt (by omega) t1) rfl (by omega) ?_
  have q4 := p4.put (k := 3) (x := n + 1 + 4 + 2 + 2 + 1) (by omega)
  refine al_0 dX7_init_53 ?_
  refine wp_newT q4.1 t12 dX7_init_54 (by decide) cl_X7_18 in_X6 ini_X6 rfl ?_
  refine wp_dup dX7_init_57 rfl ?_
  refine bi_8 dX7_init_58 ?_
  refine c_X7_20 (mc1 := 1) (ms1 := 8) (mc := 143) (ms := 4197) dX7_init_60 rfl (Nat.le_of_ble_eq_true rfl) (by omega) ?_
  refine wX6_init (n := n + 1 + 4 + 2 + 2 + 2) (s := 8) (by omega) (by omega) q4.1 t12 t13 (fun r5 G5 => ?_)
  refine pv_n ?_
  have p5 := q4.sub G5 (by omega) (by omega)
  refine p_X7_33 dX7_init_63 rfl (tyt (by omega) t1) rfl (by omega) ?_
  have q5 := p5.put (k := 4) (x := n + 1 + 4 + 2 + 2 + 2 + 1) (by omega)
  refine al_0 dX7_init_66 ?_
  refine wp_newT q5.1 t14 dX7_init_67 (by decide) cl_X7_18 in_X6 ini_X6 rfl ?_
  refine wp_dup dX7_init_70 rfl ?_
  refine bi_8 dX7_init_71 ?_
  refine c_X7_20 (mc1 := 1) (ms1 := 8) (mc := 141) (ms := 4187) dX7_init_73 rfl (Nat.le_of_ble_eq_true rfl) (by omega) ?_
  refine wX6_init (n := n + 1 + 4 + 2 + 2 + 2 + 2) (s := 8) (by omega) (by omega) q5.1 t14 t15 (fun r6 G6 => ?_)
  refine pv_n ?_
  have p6 := q5.sub G6 (by omega) (by omega)
  refine p_X7_36 dX7_init_76 rfl (tyt (by omega) t1) rfl (by omega) ?_
  have q6 := p6.put (k := 5) (x := n + 1 + 4 + 2 + 2 + 2 + 2 + 1) (by omega)
  refine al_0 dX7_init_79 ?_
  refine ic_4 dX7_init_80 ?_
  refine wp_newqT (kd := 3) (s := 4) q6.1 t16 dX7_init_81 (Or.inl rfl) cl_X7_39 (by omega) (by omega) (by omega) ?_
  have p7 := q6.skp (by omega) (by omega)
  refine p_X7_41 dX7_init_84 rfl (tyt (by omega) t1) rfl (by omega) ?_
  have q7 := p7.put (k := 6) (x := n + 1 + 4 + 2 + 2 + 2 + 2 + 2 + 1) (by omega)
  refine al_0 dX7_init_87 ?_
  refine ic_m1 dX7_init_88 ?_
  refine p_X7_45 dX7_init_89 rfl (tyt (by omega) t1) ?_
  have q8 := q7.hup (o := n + 1) (k := 8) (x := -1) (by omega)
  refine al_0 dX7_init_92 ?_
  refine bi_30 dX7_init_93 ?_
  refine wp_newqT (kd := 4) (s := 30) q8.1 t17 dX7_init_95 (Or.inr rfl) cl_X7_9 (by omega) (by omega) (by omega) ?_
  have p9 := q8.skp (by omega) (by omega)
  refine p_X7_49 dX7_init_98 rfl (tyt (by omega) t1) rfl (by omega) ?_
  have q9 := p9.put (k := 9) (x := n + 1 + 4 + 2 + 2 + 2 + 2 + 2 + 1 + 1) (by omega)
  refine al_0 dX7_init_101 ?_
  refine wp_newT q9.1 t18 dX7_init_102 (by decide) cl_X7_53 in_X1 ini_X1 rfl ?_
  refine wp_dup dX7_init_105 rfl ?_
  refine c_X7_55 (mc1 := 2) (ms1 := 74) (mc := 136) (ms := 4076) dX7_init_106 rfl (Nat.le_of_ble_eq_true rfl) (by omega) ?_
  refine wX1_init (n := n + 1 + 4 + 2 + 2 + 2 + 2 + 2 + 1 + 1) (by omega) q9.1 t18 t19 t20 (fun r10 G10 => ?_)
  refine pv_n ?_
  have p10 := q9.sub G10 (by omega) (by omega)
  refine p_X7_56 dX7_init_109 rfl (tyt (by omega) t1) rfl (by omega) ?_
  have q10 := p10.put (k := 12) (x := n + 1 + 4 + 2 + 2 + 2 + 2 + 2 + 1 + 1 + 1) (by omega)
  refine ic_0 dX7_init_112 ?_
  refine is_1 dX7_init_113 rfl (by decide) ?_
  obtain ⟨c1, c2, c3, c4, c5⟩ := q10
  refine wX7_init_114 (mc := 120) (ms := 1260) hn (by omega) (fun h2 r2 a1 a2 a3 a4 a5 => ?_) 5 0 _ _ (by decide) (by decide) c1 (fun q _ => rfl) (fun q _ _ => rfl) (fun k => by rw [if_neg (by omega)]; exact c5 _ (by omega) (by omega) (by omega) (by omega) k) (fun q q0 q1 => by omega) (by rw [c3]; rfl)
  refine ic_0 dX7_init_138 ?_
  refine is_1 dX7_init_139 rfl (by decide) ?_
  refine wX7_init_140 (mc := 0) (ms := 0) hn (by omega) (fun h3 r3 b1 b2 b3 b4 b5 => ?_) 31 0 _ _ (by decide) (by decide) a1 (fun q _ => rfl) (fun q _ _ => rfl) (fun k => by rw [if_neg (by omega), a3 _ (by omega) (by omega)]; exact c5 _ (by omega) (by omega) (by omega) (by omega) k) (fun q q0 q1 => by omega) (by rw [a3 _ (by omega) (by omega), c3]; rfl)
  refine wp_vret dX7_init_165 rfl ?_
  have hh : ∀ q : Nat, q ≤ n + 20 → h3 q = up (up h (n + 1 + 1) 4 367) (n + 1) 8 (-1) q := fun q hq => (b2 q (by omega)).trans (a2 q hq)
  have rr : ∀ q : Nat, q ≤ n + 20 → q ≠ n + 16 → q ≠ n + 17 → r3 q = r2 q := fun q hq e6 e7 => b3 q (by omega) e7
  refine hQ h3 r3 ⟨b1, fun q hq => ?_, fun q q0 q1 => ?_⟩ ⟨fun q hq => ?_, fun k => ?_, fun k => ?_, fun q q0 q1 k => ?_⟩
  · rw [rr q (by omega) (by omega) (by omega), a3 q (by omega) (by omega)]; exact c2 q hq
  · by_cases e1 : q = n + 1
    · subst e1; rw [rr _ (by omega) (by omega) (by omega), a3 _ (by omega) (by omega), c3]
      funext k
      rw [RR_c t1]
      by_cases k12 : k = 12
      · subst k12; simp [RRc, B0]; try omega
      by_cases k9 : k = 9
      · subst k9; simp [RRc, B0]; try omega
      by_cases k6 : k = 6
      · subst k6; simp [RRc, B0]; try omega
      by_cases k5 : k = 5
      · subst k5; simp [RRc, B0]; try omega
      by_cases k4 : k = 4
      · subst k4; simp [RRc, B0]; try omega
      by_cases k3 : k = 3
      · subst k3; simp [RRc, B0]; try omega
      by_cases k2 : k = 2
      · subst k2; simp [RRc, B0]; try omega
      by_cases k1 : k = 1
      · subst k1; simp [RRc, B0]; try omega
      by_cases k0 : k = 0
      · subst k0; simp [RRc, B0]; try omega
      simp [RRc, B0, k0, k1, k2, k3, k4, k5, k6, k9, k12]; try omega
    by_cases e16 : q = n + 16
    · subst e16; rw [b3 _ (by omega) (by omega)]; exact a4
    by_cases e17 : q = n + 17
    · subst e17; exact b4
    by_cases e20 : q ≤ n + 20
    · rw [rr q e20 e16 e17, a3 q (by omega) e16]; exact c4 q (by omega) (by omega) (by omega)
    by_cases e36 : q ≤ n + 36
    · rw [b3 q e36 e17]; exact a5 q (by omega) e36
    exact b5 q (by omega) q1
  · rw [hh q (by omega)]; funext k; repeat rw [up_o (by omega)]
  · rw [hh _ (by omega), up_r]
    show (if k = 8 then (-1 : Int) else up h (n + 1 + 1) 4 367 (n + 1) k) = _
    rw [up_o (by omega), Z.1 _ (by omega) k]
  · rw [hh _ (by omega), up_o (by omega)]
    show up h (n + 2) 4 367 (n + 2) k = _
    rw [up_r]
    show (if k = 4 then (367 : Int) else h (n + 2) k) = _
    rw [Z.1 _ (by omega) k]
  · rw [hh q (by omega), up_o (by omega), up_o (by omega)]; exact Z.1 q (by omega) k
