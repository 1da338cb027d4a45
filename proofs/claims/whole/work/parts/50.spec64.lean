/-! what is made -/
def B0 : Bool × Bool := (false, false)
def Zn (n : Nat) (h hl : Nat → Int → Int) (r : Nat → Int → Nat) : Prop := (∀ q : Nat, n < q → ∀ j : Int, h q j = 0) ∧ (∀ q : Nat, n < q → ∀ j : Int, hl q j = 0) ∧ ∀ q : Nat, n < q → ∀ j : Int, r q j = 0
abbrev HB (n : Nat) (h hl : Nat → Int → Int) (r : Nat → Int → Nat) : Hp := (TT.take n, h, hl, r)
theorem TT_l : TT.length = 350 := by decide +kernel
theorem z0_e {α : Type} {h : Nat → Int → α} {o : Nat} {x : α} (e : ∀ j : Int, h o j = x) : z0 h o x = h := by
  funext q j; unfold z0
  by_cases c : q = o
  · rw [if_pos c, c, e]
  · rw [if_neg c]
theorem ty_l {o : Nat} {t : Ty} (e : ty TT (o + 1) = some t) : o < 350 := by
  have z : TT[o]? = some t := e
  have := (List.getElem?_eq_some_iff.mp z).1
  rw [TT_l] at this; exact this
theorem tyt {N q : Nat} {t : Ty} (h : q ≤ N) (e : ty TT q = some t) : ty (TT.take N) q = some t := by
  cases q with
  | zero => cases e
  | succ q =>
    show (TT.take N)[q]? = some t
    rw [List.getElem?_take, if_pos (by omega)]; exact e
theorem tk_l {N : Nat} (h : N ≤ 350) : (TT.take N).length = N := by rw [List.length_take, TT_l]; omega
theorem tk_s {N : Nat} {t : Ty} (e : ty TT (N + 1) = some t) : TT.take N ++ [t] = TT.take (N + 1) := by
  have z : TT[N]? = some t := e
  rw [List.take_succ, z]; rfl
theorem Zn.le {n m : Nat} {h hl : Nat → Int → Int} {r : Nat → Int → Nat} (Z : Zn n h hl r) (e : n ≤ m) : Zn m h hl r := ⟨fun q hq => Z.1 q (by omega), fun q hq => Z.2.1 q (by omega), fun q hq => Z.2.2 q (by omega)⟩
theorem Zn.uh {n o : Nat} {k x : Int} {h hl : Nat → Int → Int} {r : Nat → Int → Nat} (Z : Zn n h hl r) (e : o ≤ n) : Zn n (up h o k x) hl r := ⟨fun q hq j => by rw [up_o (by omega)]; exact Z.1 q hq j, Z.2⟩
theorem Zn.ur {n o x : Nat} {k : Int} {h hl : Nat → Int → Int} {r : Nat → Int → Nat} (Z : Zn n h hl r) (e : o ≤ n) : Zn n h hl (up r o k x) := ⟨Z.1, Z.2.1, fun q hq j => by rw [up_o (by omega)]; exact Z.2.2 q hq j⟩
section NEWR
variable {G : GT} {δ mc ms : Nat} {y : Md} {pc idx : Nat} {ls st : List V} {h hl : Nat → Int → Int} {r : Nat → Int → Nat} {Q : V → Hp → Prop} {N : Nat}
theorem wp_newT {ci s : Nat} (Z : Zn N h hl r) (ht : ty TT (N + 1) = some (.inl ci)) (hd : decode (mB y) pc = .ok (.new idx, 3)) (hci : ci < 10) (hcl : Cond.classLink (mO y) idx (cq ci).1 ∈ LW) (hin : Cond.instantiable (cq ci).1 (cN ci) ∈ LW) (hini : Cond.initialized (cq ci).1 ∈ LW) (hn : cN ci = s)
    (kk : WP G δ mc ms y (pc + 3) ls (vr (N + 1) :: st) (HB (N + 1) h hl r) Q) : WP G δ (mc + 1) (ms + s) y pc ls st (HB N h hl r) Q := by
  have l := ty_l ht
  refine wp_new hd hci hcl hin hini hn ?_
  rw [tk_l (by omega), tk_s ht, z0_e (Z.1 _ (by omega)), z0_e (Z.2.1 _ (by omega)), z0_e (Z.2.2 _ (by omega))]
  exact kk
theorem wp_newaT {kd s : Nat} {i : Int} (Z : Zn N h hl r) (ht : ty TT (N + 1) = some (.inr (kd, s))) (hd : decode (mB y) pc = .ok (.newarray (atN kd), 2)) (hkd : kd < 3) (h0 : 0 ≤ i) (hn : i = s) (hn2 : s < 10000) (harr : Cond.arrayClass (atT kd) ∈ LW)
    (kk : WP G δ mc ms y (pc + 2) ls (vr (N + 1) :: st) (HB (N + 1) h hl r) Q) : WP G δ (mc + 1) (ms + s) y pc ls (vi i :: st) (HB N h hl r) Q := by
  have l := ty_l ht
  refine wp_newa hd hkd h0 hn hn2 harr ?_
  rw [tk_l (by omega), tk_s ht, z0_e (Z.1 _ (by omega)), z0_e (Z.2.1 _ (by omega)), z0_e (Z.2.2 _ (by omega))]
  exact kk
theorem wp_newqT {kd s : Nat} {i : Int} (Z : Zn N h hl r) (ht : ty TT (N + 1) = some (.inr (kd, s))) (hd : decode (mB y) pc = .ok (.anewarray idx, 3)) (hkd : kd = 3 ∨ kd = 4) (hcl : Cond.classLink (mO y) idx (acN kd) ∈ LW) (h0 : 0 ≤ i) (hn : i = s) (hn2 : s < 10000)
    (kk : WP G δ mc ms y (pc + 3) ls (vr (N + 1) :: st) (HB (N + 1) h hl r) Q) : WP G δ (mc + 1) (ms + s) y pc ls (vi i :: st) (HB N h hl r) Q := by
  have l := ty_l ht
  refine wp_newq hd hkd hcl h0 hn hn2 ?_
  rw [tk_l (by omega), tk_s ht, z0_e (Z.1 _ (by omega)), z0_e (Z.2.1 _ (by omega)), z0_e (Z.2.2 _ (by omega))]
  exact kk
end NEWR
/-- from n to n + m: the references are the final ones -/
def Gr (n m : Nat) (h hl : Nat → Int → Int) (r r' : Nat → Int → Nat) : Prop := Zn (n + m) h hl r' ∧ (∀ q : Nat, q ≤ n → r' q = r q) ∧ ∀ q : Nat, n < q → q ≤ n + m → r' q = RR B0 q
theorem RR_a {q kd s : Nat} {b : Bool × Bool} (e : ty TT q = some (.inr (kd, s))) (k3 : kd < 3) : RR b q = fun _ => 0 := by
  funext k; unfold RR; rw [e]; dsimp only
  rw [if_neg (by omega), if_neg (by omega)]

theorem wX1_init {G : GT} {δ : Nat} {h hl : Nat → Int → Int} {r : Nat → Int → Nat} {Q : V → Hp → Prop} {n : Nat} (hδ : δ ≤ 1900) (Z : Zn n h hl r) (t1 : ty TT (n + 1) = some (.inl 1)) (t2 : ty TT (n + 2) = some (.inr (0, 10))) (t3 : ty TT (n + 3) = some (.inr (0, 64))) (hQ : ∀ r' : Nat → Int → Nat, Gr n 3 (h) hl r r' → Q vn (HB (n + 3) (h) hl r')) : WP G δ 2 74 MX1_init 0 [vr (n + 1)] [] (HB (n + 1) h hl r) Q := by
  refine al_0 dX1_init_0 ?_
  refine c_X1_3 dX1_init_1 rfl (by simp) (by omega) ?_
  refine al_0 dX1_init_4 ?_
  refine bi_10 dX1_init_5 ?_
  refine wp_newaT (kd := 0) (s := 10) (Z.le (m := n + 1) (by omega)) t2 dX1_init_7 (by decide) (by omega) (by omega) (by omega) ac_int ?_
  refine p_X1_9 dX1_init_9 rfl (tyt (by omega) t1) rfl (by omega) ?_
  refine al_0 dX1_init_12 ?_
  refine bi_64 dX1_init_13 ?_
  refine wp_newaT (kd := 0) (s := 64) (((Z.le (m := n + 1) (by omega)).le (m := n + 2) (by omega)).ur (by omega)) t3 dX1_init_15 (by decide) (by omega) (by omega) (by omega) ac_int ?_
  refine p_X1_15 dX1_init_17 rfl (tyt (by omega) t1) rfl (by omega) ?_
  refine wp_vret dX1_init_20 rfl ?_
  refine hQ _ ⟨(((((Z.le (m := n + 1) (by omega)).le (m := n + 2) (by omega)).ur (by omega)).le (m := n + 3) (by omega)).ur (by omega)), fun q hq => ?_, fun q q0 q1 => ?_⟩
  · funext k; repeat rw [up_o (by omega)]
  rcases (show q = n + 1 ∨ q = n + 2 ∨ q = n + 3 by omega) with e | e | e
  · subst e; funext k
    rw [RR_c t1]
    have z := Z.2.2 (n + 1) (by omega) k
    by_cases k1 : k = 1
    · subst k1; simp [up, RRc, B0]
    by_cases k0 : k = 0
    · subst k0; simp [up, RRc, B0]
    · simp [up, RRc, B0, z, k0, k1]
  · subst e; funext k; rw [RR_a t2 (by decide)]; repeat rw [up_o (by omega)]
    exact Z.2.2 _ (by omega) k
  · subst e; funext k; rw [RR_a t3 (by decide)]; repeat rw [up_o (by omega)]
    exact Z.2.2 _ (by omega) k

theorem wX5_init {G : GT} {δ : Nat} {h hl : Nat → Int → Int} {r : Nat → Int → Nat} {Q : V → Hp → Prop} {n : Nat} (hδ : δ ≤ 1900) (Z : Zn n h hl r) (t1 : ty TT (n + 1) = some (.inl 5)) (t2 : ty TT (n + 2) = some (.inr (0, 4))) (t3 : ty TT (n + 3) = some (.inr (0, 4))) (t4 : ty TT (n + 4) = some (.inr (0, 25))) (hQ : ∀ r' : Nat → Int → Nat, Gr n 4 (up (h) (n + 1) 4 367) hl r r' → Q vn (HB (n + 4) (up (h) (n + 1) 4 367) hl r')) : WP G δ 3 33 MX5_init 0 [vr (n + 1)] [] (HB (n + 1) h hl r) Q := by
  refine al_0 dX5_init_0 ?_
  refine c_X5_3 dX5_init_1 rfl (by simp) (by omega) ?_
  refine al_0 dX5_init_4 ?_
  refine si_367 dX5_init_5 ?_
  refine p_X5_9 dX5_init_8 rfl (tyt (by omega) t1) ?_
  refine al_0 dX5_init_11 ?_
  refine ic_4 dX5_init_12 ?_
  refine wp_newaT (kd := 0) (s := 4) ((Z.le (m := n + 1) (by omega)).uh (by omega)) t2 dX5_init_13 (by decide) (by omega) (by omega) (by omega) ac_int ?_
  refine p_X5_15 dX5_init_15 rfl (tyt (by omega) t1) rfl (by omega) ?_
  refine al_0 dX5_init_18 ?_
  refine ic_4 dX5_init_19 ?_
  refine wp_newaT (kd := 0) (s := 4) ((((Z.le (m := n + 1) (by omega)).uh (by omega)).le (m := n + 2) (by omega)).ur (by omega)) t3 dX5_init_20 (by decide) (by omega) (by omega) (by omega) ac_int ?_
  refine p_X5_19 dX5_init_22 rfl (tyt (by omega) t1) rfl (by omega) ?_
  refine al_0 dX5_init_25 ?_
  refine bi_25 dX5_init_26 ?_
  refine wp_newaT (kd := 0) (s := 25) ((((((Z.le (m := n + 1) (by omega)).uh (by omega)).le (m := n + 2) (by omega)).ur (by omega)).le (m := n + 3) (by omega)).ur (by omega)) t4 dX5_init_28 (by decide) (by omega) (by omega) (by omega) ac_int ?_
  refine p_X5_22 dX5_init_30 rfl (tyt (by omega) t1) rfl (by omega) ?_
  refine wp_vret dX5_init_33 rfl ?_
  refine hQ _ ⟨((((((((Z.le (m := n + 1) (by omega)).uh (by omega)).le (m := n + 2) (by omega)).ur (by omega)).le (m := n + 3) (by omega)).ur (by omega)).le (m := n + 4) (by omega)).ur (by omega)), fun q hq => ?_, fun q q0 q1 => ?_⟩
  · funext k; repeat rw [up_o (by omega)]
  rcases (show q = n + 1 ∨ q = n + 2 ∨ q = n + 3 ∨ q = n + 4 by omega) with e | e | e | e
  · subst e; funext k
    rw [RR_c t1]
    have z := Z.2.2 (n + 1) (by omega) k
    by_cases k8 : k = 8
    · subst k8; simp [up, RRc, B0]
    by_cases k7 : k = 7
    · subst k7; simp [up, RRc, B0]
    by_cases k6 : k = 6
    · subst k6; simp [up, RRc, B0]
    · simp [up, RRc, B0, z, k6, k7, k8]
  · subst e; funext k; rw [RR_a t2 (by decide)]; repeat rw [up_o (by omega)]
    exact Z.2.2 _ (by omega) k
  · subst e; funext k; rw [RR_a t3 (by decide)]; repeat rw [up_o (by omega)]
    exact Z.2.2 _ (by omega) k
  · subst e; funext k; rw [RR_a t4 (by decide)]; repeat rw [up_o (by omega)]
    exact Z.2.2 _ (by omega) k

theorem wX3_init {G : GT} {δ : Nat} {h hl : Nat → Int → Int} {r : Nat → Int → Nat} {Q : V → Hp → Prop} {n : Nat} (hδ : δ ≤ 1900) (Z : Zn n h hl r) (t1 : ty TT (n + 1) = some (.inl 3)) (t2 : ty TT (n + 2) = some (.inr (0, 24))) (t3 : ty TT (n + 3) = some (.inr (0, 72))) (t4 : ty TT (n + 4) = some (.inr (0, 600))) (hQ : ∀ r' : Nat → Int → Nat, Gr n 4 (up (up (h) (n + 1) 3 (-1)) (n + 1) 4 (-1)) hl r r' → Q vn (HB (n + 4) (up (up (h) (n + 1) 3 (-1)) (n + 1) 4 (-1)) hl r')) : WP G δ 3 696 MX3_init 0 [vr (n + 1)] [] (HB (n + 1) h hl r) Q := by
  refine al_0 dX3_init_0 ?_
  refine c_X3_3 dX3_init_1 rfl (by simp) (by omega) ?_
  refine al_0 dX3_init_4 ?_
  refine ic_m1 dX3_init_5 ?_
  refine p_X3_9 dX3_init_6 rfl (tyt (by omega) t1) ?_
  refine al_0 dX3_init_9 ?_
  refine ic_m1 dX3_init_10 ?_
  refine p_X3_15 dX3_init_11 rfl (tyt (by omega) t1) ?_
  refine al_0 dX3_init_14 ?_
  refine bi_24 dX3_init_15 ?_
  refine wp_newaT (kd := 0) (s := 24) (((Z.le (m := n + 1) (by omega)).uh (by omega)).uh (by omega)) t2 dX3_init_17 (by decide) (by omega) (by omega) (by omega) ac_int ?_
  refine p_X3_18 dX3_init_19 rfl (tyt (by omega) t1) rfl (by omega) ?_
  refine al_0 dX3_init_22 ?_
  refine bi_72 dX3_init_23 ?_
  refine wp_newaT (kd := 0) (s := 72) (((((Z.le (m := n + 1) (by omega)).uh (by omega)).uh (by omega)).le (m := n + 2) (by omega)).ur (by omega)) t3 dX3_init_25 (by decide) (by omega) (by omega) (by omega) ac_int ?_
  refine p_X3_22 dX3_init_27 rfl (tyt (by omega) t1) rfl (by omega) ?_
  refine al_0 dX3_init_30 ?_
  refine si_600 dX3_init_31 ?_
  refine wp_newaT (kd := 0) (s := 600) (((((((Z.le (m := n + 1) (by omega)).uh (by omega)).uh (by omega)).le (m := n + 2) (by omega)).ur (by omega)).le (m := n + 3) (by omega)).ur (by omega)) t4 dX3_init_34 (by decide) (by omega) (by omega) (by omega) ac_int ?_
  refine p_X3_25 dX3_init_36 rfl (tyt (by omega) t1) rfl (by omega) ?_
  refine wp_vret dX3_init_39 rfl ?_
  refine hQ _ ⟨(((((((((Z.le (m := n + 1) (by omega)).uh (by omega)).uh (by omega)).le (m := n + 2) (by omega)).ur (by omega)).le (m := n + 3) (by omega)).ur (by omega)).le (m := n + 4) (by omega)).ur (by omega)), fun q hq => ?_, fun q q0 q1 => ?_⟩
  · funext k; repeat rw [up_o (by omega)]
  rcases (show q = n + 1 ∨ q = n + 2 ∨ q = n + 3 ∨ q = n + 4 by omega) with e | e | e | e
  · subst e; funext k
    rw [RR_c t1]
    have z := Z.2.2 (n + 1) (by omega) k
    by_cases k7 : k = 7
    · subst k7; simp [up, RRc, B0]
    by_cases k6 : k = 6
    · subst k6; simp [up, RRc, B0]
    by_cases k5 : k = 5
    · subst k5; simp [up, RRc, B0]
    · simp [up, RRc, B0, z, k5, k6, k7]
  · subst e; funext k; rw [RR_a t2 (by decide)]; repeat rw [up_o (by omega)]
    exact Z.2.2 _ (by omega) k
  · subst e; funext k; rw [RR_a t3 (by decide)]; repeat rw [up_o (by omega)]
    exact Z.2.2 _ (by omega) k
  · subst e; funext k; rw [RR_a t4 (by decide)]; repeat rw [up_o (by omega)]
    exact Z.2.2 _ (by omega) k

theorem wX4_init {G : GT} {δ : Nat} {h hl : Nat → Int → Int} {r : Nat → Int → Nat} {Q : V → Hp → Prop} {n : Nat} (hδ : δ ≤ 1900) (Z : Zn n h hl r) (t1 : ty TT (n + 1) = some (.inl 4)) (t2 : ty TT (n + 2) = some (.inr (0, 256))) (t3 : ty TT (n + 3) = some (.inr (0, 256))) (t4 : ty TT (n + 4) = some (.inr (0, 256))) (t5 : ty TT (n + 5) = some (.inr (0, 256))) (hQ : ∀ r' : Nat → Int → Nat, Gr n 5 (up (h) (n + 1) 5 1) hl r r' → Q vn (HB (n + 5) (up (h) (n + 1) 5 1) hl r')) : WP G δ 4 1024 MX4_init 0 [vr (n + 1)] [] (HB (n + 1) h hl r) Q := by
  refine al_0 dX4_init_0 ?_
  refine c_X4_3 dX4_init_1 rfl (by simp) (by omega) ?_
  refine al_0 dX4_init_4 ?_
  refine si_256 dX4_init_5 ?_
  refine wp_newaT (kd := 0) (s := 256) (Z.le (m := n + 1) (by omega)) t2 dX4_init_8 (by decide) (by omega) (by omega) (by omega) ac_int ?_
  refine p_X4_9 dX4_init_10 rfl (tyt (by omega) t1) rfl (by omega) ?_
  refine al_0 dX4_init_13 ?_
  refine si_256 dX4_init_14 ?_
  refine wp_newaT (kd := 0) (s := 256) (((Z.le (m := n + 1) (by omega)).le (m := n + 2) (by omega)).ur (by omega)) t3 dX4_init_17 (by decide) (by omega) (by omega) (by omega) ac_int ?_
  refine p_X4_15 dX4_init_19 rfl (tyt (by omega) t1) rfl (by omega) ?_
  refine al_0 dX4_init_22 ?_
  refine si_256 dX4_init_23 ?_
  refine wp_newaT (kd := 0) (s := 256) (((((Z.le (m := n + 1) (by omega)).le (m := n + 2) (by omega)).ur (by omega)).le (m := n + 3) (by omega)).ur (by omega)) t4 dX4_init_26 (by decide) (by omega) (by omega) (by omega) ac_int ?_
  refine p_X4_18 dX4_init_28 rfl (tyt (by omega) t1) (by omega) ?_
  refine al_0 dX4_init_31 ?_
  refine si_256 dX4_init_32 ?_
  refine wp_newaT (kd := 0) (s := 256) (((((((Z.le (m := n + 1) (by omega)).le (m := n + 2) (by omega)).ur (by omega)).le (m := n + 3) (by omega)).ur (by omega)).le (m := n + 4) (by omega)).ur (by omega)) t5 dX4_init_35 (by decide) (by omega) (by omega) (by omega) ac_int ?_
  refine p_X4_21 dX4_init_37 rfl (tyt (by omega) t1) (by omega) ?_
  refine al_0 dX4_init_40 ?_
  refine ic_1 dX4_init_41 ?_
  refine p_X4_24 dX4_init_42 rfl (tyt (by omega) t1) ?_
  refine wp_vret dX4_init_45 rfl ?_
  refine hQ _ ⟨((((((((((Z.le (m := n + 1) (by omega)).le (m := n + 2) (by omega)).ur (by omega)).le (m := n + 3) (by omega)).ur (by omega)).le (m := n + 4) (by omega)).ur (by omega)).le (m := n + 5) (by omega)).ur (by omega)).uh (by omega)), fun q hq => ?_, fun q q0 q1 => ?_⟩
  · funext k; repeat rw [up_o (by omega)]
  rcases (show q = n + 1 ∨ q = n + 2 ∨ q = n + 3 ∨ q = n + 4 ∨ q = n + 5 by omega) with e | e | e | e | e
  · subst e; funext k
    rw [RR_c t1]
    have z := Z.2.2 (n + 1) (by omega) k
    by_cases k3 : k = 3
    · subst k3; simp [up, RRc, B0]
    by_cases k2 : k = 2
    · subst k2; simp [up, RRc, B0]
    by_cases k1 : k = 1
    · subst k1; simp [up, RRc, B0]
    by_cases k0 : k = 0
    · subst k0; simp [up, RRc, B0]
    · simp [up, RRc, B0, z, k0, k1, k2, k3]
  · subst e; funext k; rw [RR_a t2 (by decide)]; repeat rw [up_o (by omega)]
    exact Z.2.2 _ (by omega) k
  · subst e; funext k; rw [RR_a t3 (by decide)]; repeat rw [up_o (by omega)]
    exact Z.2.2 _ (by omega) k
  · subst e; funext k; rw [RR_a t4 (by decide)]; repeat rw [up_o (by omega)]
    exact Z.2.2 _ (by omega) k
  · subst e; funext k; rw [RR_a t5 (by decide)]; repeat rw [up_o (by omega)]
    exact Z.2.2 _ (by omega) k

theorem wX0_init {G : GT} {δ : Nat} {h hl : Nat → Int → Int} {r : Nat → Int → Nat} {Q : V → Hp → Prop} {n : Nat} (hδ : δ ≤ 1900) (Z : Zn n h hl r) (t1 : ty TT (n + 1) = some (.inl 0)) (t2 : ty TT (n + 2) = some (.inr (0, 256))) (t3 : ty TT (n + 3) = some (.inr (0, 256))) (t4 : ty TT (n + 4) = some (.inr (0, 256))) (hQ : ∀ r' : Nat → Int → Nat, Gr n 4 (up (h) (n + 1) 3 268435456) hl r r' → Q vn (HB (n + 4) (up (h) (n + 1) 3 268435456) hl r')) : WP G δ 3 768 MX0_init 0 [vr (n + 1)] [] (HB (n + 1) h hl r) Q := by
  refine al_0 dX0_init_0 ?_
  refine c_X0_3 dX0_init_1 rfl (by simp) (by omega) ?_
  refine al_0 dX0_init_4 ?_
  refine si_256 dX0_init_5 ?_
  refine wp_newaT (kd := 0) (s := 256) (Z.le (m := n + 1) (by omega)) t2 dX0_init_8 (by decide) (by omega) (by omega) (by omega) ac_int ?_
  refine p_X0_9 dX0_init_10 rfl (tyt (by omega) t1) rfl (by omega) ?_
  refine al_0 dX0_init_13 ?_
  refine si_256 dX0_init_14 ?_
  refine wp_newaT (kd := 0) (s := 256) (((Z.le (m := n + 1) (by omega)).le (m := n + 2) (by omega)).ur (by omega)) t3 dX0_init_17 (by decide) (by omega) (by omega) (by omega) ac_int ?_
  refine p_X0_15 dX0_init_19 rfl (tyt (by omega) t1) (by omega) ?_
  refine al_0 dX0_init_22 ?_
  refine si_256 dX0_init_23 ?_
  refine wp_newaT (kd := 0) (s := 256) (((((Z.le (m := n + 1) (by omega)).le (m := n + 2) (by omega)).ur (by omega)).le (m := n + 3) (by omega)).ur (by omega)) t4 dX0_init_26 (by decide) (by omega) (by omega) (by omega) ac_int ?_
  refine p_X0_18 dX0_init_28 rfl (tyt (by omega) t1) (by omega) ?_
  refine al_0 dX0_init_31 ?_
  refine wp_ldc (268435456) dX0_init_32 ⟨by decide, by decide⟩ cc_X0_21 ?_
  refine p_X0_22 dX0_init_34 rfl (tyt (by omega) t1) ?_
  refine wp_vret dX0_init_37 rfl ?_
  refine hQ _ ⟨((((((((Z.le (m := n + 1) (by omega)).le (m := n + 2) (by omega)).ur (by omega)).le (m := n + 3) (by omega)).ur (by omega)).le (m := n + 4) (by omega)).ur (by omega)).uh (by omega)), fun q hq => ?_, fun q q0 q1 => ?_⟩
  · funext k; repeat rw [up_o (by omega)]
  rcases (show q = n + 1 ∨ q = n + 2 ∨ q = n + 3 ∨ q = n + 4 by omega) with e | e | e | e
  · subst e; funext k
    rw [RR_c t1]
    have z := Z.2.2 (n + 1) (by omega) k
    by_cases k2 : k = 2
    · subst k2; simp [up, RRc, B0]
    by_cases k1 : k = 1
    · subst k1; simp [up, RRc, B0]
    by_cases k0 : k = 0
    · subst k0; simp [up, RRc, B0]
    · simp [up, RRc, B0, z, k0, k1, k2]
  · subst e; funext k; rw [RR_a t2 (by decide)]; repeat rw [up_o (by omega)]
    exact Z.2.2 _ (by omega) k
  · subst e; funext k; rw [RR_a t3 (by decide)]; repeat rw [up_o (by omega)]
    exact Z.2.2 _ (by omega) k
  · subst e; funext k; rw [RR_a t4 (by decide)]; repeat rw [up_o (by omega)]
    exact Z.2.2 _ (by omega) k

theorem wX6_init {G : GT} {δ : Nat} {h hl : Nat → Int → Int} {r : Nat → Int → Nat} {Q : V → Hp → Prop} {n : Nat} {s : Nat} (hs : s < 100) (hδ : δ ≤ 1900) (Z : Zn n h hl r) (t1 : ty TT (n + 1) = some (.inl 6)) (t2 : ty TT (n + 2) = some (.inr (0, s))) (hQ : ∀ r' : Nat → Int → Nat, Gr n 2 (h) hl r r' → Q vn (HB (n + 2) (h) hl r')) : WP G δ 1 (0 + s) MX6_init 0 [vr (n + 1), vi s] [] (HB (n + 1) h hl r) Q := by
  refine al_0 dX6_init_0 ?_
  refine c_X6_1 dX6_init_1 rfl (by simp) (by omega) ?_
  refine al_0 dX6_init_4 ?_
  refine il_1 dX6_init_5 ?_
  refine ic_0 dX6_init_6 ?_
  refine c_X6_7 dX6_init_7 rfl (by simp) (by omega) ?_
  refine wp_newaT (i := max (s : Int) 0) (kd := 0) (s := s) (Z.le (m := n + 1) (by omega)) t2 dX6_init_10 (by decide) (by omega) (by omega) (by omega) ac_int ?_
  refine p_X6_13 dX6_init_12 rfl (tyt (by omega) t1) rfl (by omega) ?_
  refine wp_vret dX6_init_15 rfl ?_
  refine hQ _ ⟨(((Z.le (m := n + 1) (by omega)).le (m := n + 2) (by omega)).ur (by omega)), fun q hq => ?_, fun q q0 q1 => ?_⟩
  · funext k; repeat rw [up_o (by omega)]
  rcases (show q = n + 1 ∨ q = n + 2 by omega) with e | e
  · subst e; funext k
    rw [RR_c t1]
    have z := Z.2.2 (n + 1) (by omega) k
    by_cases k0 : k = 0
    · subst k0; simp [up, RRc, B0]
    · simp [up, RRc, B0, z, k0]
  · subst e; funext k; rw [RR_a t2 (by decide)]; repeat rw [up_o (by omega)]
    exact Z.2.2 _ (by omega) k
