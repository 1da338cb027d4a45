/-! bills: who loses which dispute for the least -/
section BILL
variable {F : Int → Int → Int} {O g g' g1 g2 : Int → Int}
def bS (g : Int → Int) (S : Nat) : Int := sumN (fun d => if S.testBit d.toNat = true then g d else 0) 8
theorem bS_c {S : Nat} (h : ∀ d : Int, 0 ≤ d → d < 8 → S.testBit d.toNat = true → g d = g' d) : bS g S = bS g' S :=
  sumN_c _ (fun d d0 d1 => by
    by_cases q : S.testBit d.toNat = true
    · rw [if_pos q, if_pos q]; exact h d d0 d1 q
    · rw [if_neg q, if_neg q])
theorem bS_R {S : Nat} {c : Int} (c0 : 0 ≤ c) (h : ∀ d : Int, 0 ≤ d → d < 8 → S.testBit d.toNat = true → 0 ≤ g d ∧ g d ≤ c) : 0 ≤ bS g S ∧ bS g S ≤ c * 8 :=
  sumN_R 8 (fun d d0 d1 => by
    by_cases q : S.testBit d.toNat = true
    · rw [if_pos q]; exact h d d0 d1 q
    · rw [if_neg q]; omega)
theorem bS_0 : bS g 0 = 0 := sumN_z _ (fun i _ _ => by rw [Nat.zero_testBit]; rfl)
theorem sub_b {S T : Nat} (h : T &&& S = T) {j : Nat} (q : T.testBit j = true) : S.testBit j = true := by
  rw [← h, Nat.testBit_and] at q
  exact (Bool.and_eq_true _ _ ▸ q : _ ∧ _).2
theorem b_sub {S T : Nat} (h : ∀ j : Nat, T.testBit j = true → S.testBit j = true) : T &&& S = T := by
  apply Nat.eq_of_testBit_eq
  intro j
  rw [Nat.testBit_and]
  cases q : T.testBit j with
  | false => rfl
  | true => rw [h j q]; rfl
theorem bS_sp2 {S T : Nat} (h : T &&& S = T) (e : ∀ d : Int, 0 ≤ d → d < 8 → S.testBit d.toNat = true → g d = if T.testBit d.toNat = true then g1 d else g2 d) : bS g S = bS g1 T + bS g2 (S ^^^ T) := by
  unfold bS
  rw [← sumN_add]
  refine sumN_c _ (fun d d0 d1 => ?_)
  rw [Nat.testBit_xor]
  cases t : T.testBit d.toNat with
  | true => rw [sub_b h t, if_pos rfl, e d d0 d1 (sub_b h t), t]; simp
  | false =>
    cases s : S.testBit d.toNat with
    | true => rw [e d d0 d1 s, t]; simp
    | false => simp
theorem bS_one {d : Nat} (hd : d < 8) : bS g (2 ^ d) = g d := by
  refine Eq.trans (sumN_c _ (fun j j0 j1 => ?_)) (sumN_pt (f := g) (a := (d : Int)) (by omega) 8 (by omega))
  rw [Nat.testBit_two_pow]
  by_cases e : j = d
  · subst e; simp
  · rw [if_neg (by simp; omega), if_neg e]; omega
theorem add_x {d T : Nat} (h : T < 2 ^ d) : T &&& (2 ^ d + T) = T ∧ (2 ^ d + T) ^^^ T = 2 ^ d := by
  constructor
  · refine b_sub (fun j q => ?_)
    have jd : j < d := by
      rcases Nat.lt_or_ge j d with z | z
      · exact z
      · rw [Nat.testBit_lt_two_pow (Nat.lt_of_lt_of_le h (Nat.pow_le_pow_right (by decide) z))] at q; cases q
    rw [Nat.testBit_two_pow_add_gt jd]; exact q
  · rw [xor_hi h h, Nat.xor_self]; rfl
theorem bS_up {d T : Nat} (hd : d < 8) (h : T < 2 ^ d) : bS g (2 ^ d + T) = bS g T + g d := by
  have z := add_x h
  rw [bS_sp2 (g := g) (g1 := g) (g2 := g) z.1 (fun _ _ _ _ => by split <;> rfl), z.2, bS_one hd]
/-- the set of what holds -/
def mskN (f : Nat → Bool) : Nat → Nat
  | 0 => 0
  | n + 1 => if f n = true then 2 ^ n + mskN f n else mskN f n
theorem mskN_b {f : Nat → Bool} : ∀ n : Nat, mskN f n < 2 ^ n ∧ ∀ j : Nat, (mskN f n).testBit j = (decide (j < n) && f j)
  | 0 => ⟨by simp [mskN], fun j => by simp [mskN]⟩
  | n + 1 => by
    obtain ⟨a, c⟩ := mskN_b (f := f) n
    have p : (2 : Nat) ^ (n + 1) = 2 ^ n * 2 := Nat.pow_succ _ _
    unfold mskN
    by_cases q : f n = true
    · rw [if_pos q]
      refine ⟨by omega, fun j => ?_⟩
      rcases Nat.lt_trichotomy j n with z | z | z
      · rw [Nat.testBit_two_pow_add_gt z, c j]
        simp [z, show j < n + 1 by omega]
      · subst z
        rw [Nat.testBit_two_pow_add_eq, Nat.testBit_lt_two_pow a, q]; simp
      · rw [Nat.testBit_lt_two_pow (Nat.lt_of_lt_of_le (show 2 ^ n + mskN f n < 2 ^ (n + 1) by omega) (Nat.pow_le_pow_right (by decide) z))]
        simp [show ¬ j < n + 1 by omega]
    · rw [if_neg q]
      refine ⟨by omega, fun j => ?_⟩
      rw [c j]
      rcases Nat.lt_trichotomy j n with z | z | z
      · simp [z, show j < n + 1 by omega]
      · subst z; simp [q]
      · simp [show ¬ j < n + 1 by omega, show ¬ j < n by omega]
theorem and_half (a c : Nat) : a &&& c = 2 * ((a / 2) &&& (c / 2)) + (if a % 2 = 1 ∧ c % 2 = 1 then 1 else 0) := by
  have h := Nat.div_add_mod (a &&& c) 2
  rw [Nat.and_div_two] at h
  have m : (a &&& c) % 2 = if a % 2 = 1 ∧ c % 2 = 1 then 1 else 0 := by
    have e := Nat.and_mod_two_eq_one (a := a) (b := c)
    by_cases q : a % 2 = 1 ∧ c % 2 = 1
    · rw [if_pos q]; exact e.mpr q
    · rw [if_neg q]
      have : ¬ (a &&& c) % 2 = 1 := fun z => q (e.mp z)
      omega
  rw [← m]; omega
/-- the next lower set within S -/
theorem sub_next : ∀ (k lost S T : Nat), lost < 2 ^ k → T &&& S = T → lost &&& S = lost → T < lost → T ≤ (lost - 1) &&& S
  | 0, lost, S, T, hk, _, _, h => by simp at hk; omega
  | k + 1, lost, S, T, hk, hT, hl, h => by
    have p : (2 : Nat) ^ (k + 1) = 2 ^ k * 2 := Nat.pow_succ _ _
    have a := and_half T S
    have c := and_half lost S
    have d := and_half (lost - 1) S
    rw [hT] at a
    rw [hl] at c
    have ta : (T / 2) &&& (S / 2) ≤ T / 2 := Nat.and_le_left
    have la : (lost / 2) &&& (S / 2) ≤ lost / 2 := Nat.and_le_left
    have t2 : (T / 2) &&& (S / 2) = T / 2 := by split at a <;> omega
    have l2 : (lost / 2) &&& (S / 2) = lost / 2 := by split at c <;> omega
    rw [d]
    by_cases r : lost % 2 = 1
    · rw [show (lost - 1) / 2 = lost / 2 by omega, l2, if_neg (by omega)]; omega
    · rw [show (lost - 1) / 2 = lost / 2 - 1 by omega]
      by_cases q : T / 2 < lost / 2
      · have ih := sub_next k (lost / 2) (S / 2) (T / 2) (by omega) t2 l2 q
        by_cases u : T % 2 = 1
        · have s1 : S % 2 = 1 := by
            rw [t2] at a
            by_cases w : T % 2 = 1 ∧ S % 2 = 1
            · exact w.2
            · rw [if_neg w] at a; omega
          rw [if_pos ⟨by omega, s1⟩]; omega
        · split <;> omega
      · omega
/-- a person's price of a dispute -/
def dgI (d : Int) : Int := shl 1 (2 * (7 - d))
def PRc (F : Int → Int → Int) (p d : Int) : Int := F d p * 65536 + p * dgI d
theorem dgI_e : ∀ d : Nat, d < 8 → dgI (d : Int) = ((4 ^ (7 - d) : Nat) : Int) := by decide +kernel
theorem dgI_R {d : Int} (d0 : 0 ≤ d) (d8 : d < 8) : 1 ≤ dgI d ∧ dgI d ≤ 16384 := by
  obtain ⟨k, rfl⟩ := Int.eq_ofNat_of_zero_le d0
  have : ∀ d : Nat, d < 8 → 1 ≤ dgI (d : Int) ∧ dgI (d : Int) ≤ 16384 := by decide +kernel
  exact this k (by omega)
theorem PRc_R (hF : ∀ d p, 0 ≤ F d p ∧ F d p ≤ 9) {p d : Int} (p0 : 0 ≤ p) (p4 : p < 4) (d0 : 0 ≤ d) (d8 : d < 8) : 0 ≤ PRc F p d ∧ PRc F p d ≤ 638976 := by
  have f := hF d p
  have z := dgI_R d0 d8
  have w := mulR p0 (show p ≤ 3 by omega) (show 0 ≤ dgI d by omega) z.2
  unfold PRc
  omega
def CSTv (F : Int → Int → Int) (O : Int → Int) (D : Nat) (p : Int) (T : Nat) : Int := if T &&& D = T ∧ bS (fun d => F d p) T ≤ O p then bS (PRc F p) T else 268435456
def VALc (F : Int → Int → Int) (O : Int → Int) (P : Int) (S : Nat) (a : Int → Int) : Prop := (∀ d : Int, 0 ≤ d → d < 8 → S.testBit d.toNat = true → 0 ≤ a d ∧ a d < P) ∧ ∀ p : Int, 0 ≤ p → p < P → bS (fun d => if a d = p then F d p else 0) S ≤ O p
def COSTc (F : Int → Int → Int) (S : Nat) (a : Int → Int) : Int := bS (fun d => PRc F (a d) d) S
def BV (F : Int → Int → Int) (O : Int → Int) (P : Int) (S : Nat) (v : Int) : Prop := v ≤ 268435456 ∧ (v = 268435456 ∨ ∃ a, VALc F O P S a ∧ v = COSTc F S a) ∧ ∀ a, VALc F O P S a → v ≤ COSTc F S a
theorem COST_R (hF : ∀ d p, 0 ≤ F d p ∧ F d p ≤ 9) {P : Int} (P4 : P ≤ 4) {S : Nat} {a : Int → Int} (h : VALc F O P S a) : 0 ≤ COSTc F S a ∧ COSTc F S a ≤ 638976 * 8 :=
  bS_R (by omega) (fun d d0 d1 q => by have z := h.1 d d0 d1 q; exact PRc_R hF z.1 (by omega) d0 d1)
theorem CST_R (hF : ∀ d p, 0 ≤ F d p ∧ F d p ≤ 9) {p : Int} (p0 : 0 ≤ p) (p4 : p < 4) {D T : Nat} : CSTv F O D p T = 268435456 ∨ 0 ≤ CSTv F O D p T ∧ CSTv F O D p T ≤ 638976 * 8 := by
  unfold CSTv
  split
  · exact Or.inr (bS_R (by omega) (fun d d0 d1 _ => PRc_R hF p0 p4 d0 d1))
  · exact Or.inl rfl
/-- what the least of all splittings is -/
def LWv (c l : Nat → Int) (S : Nat) (lo : Nat) (v : Int) : Prop := v ≤ 268435456 ∧ (v = 268435456 ∨ ∃ T : Nat, T &&& S = T ∧ c T < 268435456 ∧ l (S ^^^ T) < 268435456 ∧ v = c T + l (S ^^^ T)) ∧ ∀ T : Nat, T &&& S = T → lo ≤ T → c T < 268435456 → l (S ^^^ T) < 268435456 → v ≤ c T + l (S ^^^ T)
theorem xor_sub {S T D : Nat} (h : T &&& S = T) (e : S &&& D = S) : (S ^^^ T) &&& D = S ^^^ T ∧ T &&& D = T := by
  constructor
  · refine b_sub (fun j q => ?_)
    rw [Nat.testBit_xor] at q
    cases s : S.testBit j with
    | true => exact sub_b e s
    | false =>
      cases t : T.testBit j with
      | true => rw [sub_b h t] at s; cases s
      | false => rw [s, t] at q; cases q
  · exact b_sub (fun j q => sub_b e (sub_b h q))
/-- one person more -/
theorem BV_s (hF : ∀ d p, 0 ≤ F d p ∧ F d p ≤ 9) {P : Int} (P0 : 0 ≤ P) (P4 : P < 4) {D S : Nat} (hD : D < 256) (hS : S &&& D = S) {l : Nat → Int} (hl : ∀ S : Nat, S &&& D = S → BV F O P S (l S)) {v : Int} (h : LWv (CSTv F O D P) l S 0 v) : BV F O (P + 1) S v := by
  obtain ⟨v1, v2, v3⟩ := h
  refine ⟨v1, ?_, fun a ha => ?_⟩
  · rcases v2 with e | ⟨T, tS, cT, lT, ev⟩
    · exact Or.inl e
    · obtain ⟨_, q, _⟩ := hl _ (xor_sub tS hS).1
      rcases q with q | ⟨a, va, la⟩
      · omega
      · have cc : T &&& D = T ∧ bS (fun d => F d P) T ≤ O P := by
          unfold CSTv at cT
          by_cases z : T &&& D = T ∧ bS (fun d => F d P) T ≤ O P
          · exact z
          · rw [if_neg z] at cT; omega
        obtain ⟨a', ha⟩ : ∃ a' : Int → Int, ∀ d, a' d = if T.testBit d.toNat = true then P else a d := ⟨_, fun _ => rfl⟩
        have at1 : ∀ d : Int, T.testBit d.toNat = true → a' d = P := fun d t => by rw [ha, if_pos t]
        have at2 : ∀ d : Int, ¬ T.testBit d.toNat = true → a' d = a d := fun d t => by rw [ha, if_neg t]
        have at3 : ∀ d : Int, 0 ≤ d → d < 8 → S.testBit d.toNat = true → ¬ T.testBit d.toNat = true → 0 ≤ a d ∧ a d < P := fun d d0 d1 q t =>
          va.1 d d0 d1 (by rw [Nat.testBit_xor, q, show T.testBit d.toNat = false from by simpa using t]; rfl)
        refine Or.inr ⟨a', ⟨fun d d0 d1 q => ?_, fun p p0 p1 => ?_⟩, ?_⟩
        · by_cases t : T.testBit d.toNat = true
          · rw [at1 d t]; omega
          · rw [at2 d t]
            have := at3 d d0 d1 q t
            omega
        · by_cases pP : p = P
          · subst pP
            rw [bS_sp2 (g1 := fun d => F d p) (g2 := fun _ => 0) tS (fun d d0 d1 q => ?_)]
            · have z : bS (fun _ => (0 : Int)) (S ^^^ T) = 0 := sumN_z _ (fun i _ _ => by split <;> rfl)
              rw [z]; omega
            · by_cases t : T.testBit d.toNat = true
              · rw [if_pos t, if_pos (at1 d t)]
              · rw [if_neg t]
                have := at3 d d0 d1 q t
                rw [if_neg (by rw [at2 d t]; omega)]
          · rw [bS_sp2 (g1 := fun _ => 0) (g2 := fun d => if a d = p then F d p else 0) tS (fun d d0 d1 q => ?_)]
            · have z : bS (fun _ => (0 : Int)) T = 0 := sumN_z _ (fun i _ _ => by split <;> rfl)
              have := va.2 p p0 (by omega)
              rw [z]; omega
            · by_cases t : T.testBit d.toNat = true
              · rw [if_pos t, if_neg (by rw [at1 d t]; omega)]
              · rw [if_neg t, at2 d t]
        · rw [ev, la]
          unfold CSTv COSTc
          rw [if_pos cc]
          refine (bS_sp2 tS (fun d d0 d1 q => ?_)).symm
          by_cases t : T.testBit d.toNat = true
          · rw [if_pos t, at1 d t]
          · rw [if_neg t, at2 d t]
  · have mb := mskN_b (f := fun j => S.testBit j && decide (a (j : Int) = P)) 8
    obtain ⟨T, eT⟩ : ∃ T, T = mskN (fun j => S.testBit j && decide (a (j : Int) = P)) 8 := ⟨_, rfl⟩
    rw [← eT] at mb
    have S8 : ∀ j : Nat, S.testBit j = true → j < 8 := fun j q => by
      rcases Nat.lt_or_ge j 8 with z | z
      · exact z
      · have d := sub_b hS q
        rw [Nat.testBit_lt_two_pow (Nat.lt_of_lt_of_le hD (Nat.pow_le_pow_right (n := 2) (by decide) z) : D < 2 ^ j)] at d; cases d
    have bt : ∀ d : Int, 0 ≤ d → d < 8 → T.testBit d.toNat = (S.testBit d.toNat && decide (a d = P)) := fun d d0 d1 => by
      rw [mb.2, show (decide (d.toNat < 8)) = true from by simp; omega, Bool.true_and, show ((d.toNat : Nat) : Int) = d by omega]
    have tS : T &&& S = T := b_sub (fun j q => by
      rw [mb.2] at q
      simp at q
      exact q.2.1)
    have hx : ∀ d : Int, 0 ≤ d → d < 8 → (S ^^^ T).testBit d.toNat = true → S.testBit d.toNat = true ∧ a d ≠ P := fun d d0 d1 q => by
      rw [Nat.testBit_xor, bt d d0 d1] at q
      cases s : S.testBit d.toNat with
      | false => rw [s] at q; simp at q
      | true => rw [s] at q; simp at q; exact ⟨rfl, q⟩
    have va : VALc F O P (S ^^^ T) a := ⟨fun d d0 d1 q => by
      have z := hx d d0 d1 q
      have y := ha.1 d d0 d1 z.1
      have := z.2
      omega, fun p p0 p1 => by
      have y := ha.2 p p0 (by omega)
      rw [bS_sp2 (g1 := fun _ => 0) (g2 := fun d => if a d = p then F d p else 0) tS (fun d d0 d1 q => ?_)] at y
      · have z : bS (fun _ => (0 : Int)) T = 0 := sumN_z _ (fun i _ _ => by split <;> rfl)
        rw [z] at y; omega
      · by_cases t : T.testBit d.toNat = true
        · rw [if_pos t, if_neg]
          rw [bt d d0 d1] at t; simp at t; omega
        · rw [if_neg t]⟩
    have cc : T &&& D = T ∧ bS (fun d => F d P) T ≤ O P := ⟨(xor_sub tS hS).2, by
      have y := ha.2 P P0 (by omega)
      rw [bS_sp2 (g1 := fun d => F d P) (g2 := fun _ => 0) tS (fun d d0 d1 q => ?_)] at y
      · have z : bS (fun _ => (0 : Int)) (S ^^^ T) = 0 := sumN_z _ (fun i _ _ => by split <;> rfl)
        rw [z] at y; omega
      · by_cases t : T.testBit d.toNat = true
        · rw [if_pos t, if_pos]
          rw [bt d d0 d1] at t; simp at t; exact t.2
        · rw [if_neg t, if_neg]
          intro e
          exact t (by rw [bt d d0 d1, q, e]; simp)⟩
    have cR := bS_R (g := PRc F P) (S := T) (c := 638976) (by omega) (fun d d0 d1 _ => PRc_R hF P0 P4 d0 d1)
    have lR := COST_R hF (show P ≤ 4 by omega) va
    obtain ⟨_, _, lm⟩ := hl _ (xor_sub tS hS).1
    have lv := lm a va
    have cv : CSTv F O D P T = bS (PRc F P) T := by unfold CSTv; rw [if_pos cc]
    have w := v3 T tS (Nat.zero_le _) (by omega) (by omega)
    have s : COSTc F S a = bS (PRc F P) T + COSTc F (S ^^^ T) a := bS_sp2 tS (fun d d0 d1 q => by
      by_cases t : T.testBit d.toNat = true
      · rw [if_pos t]
        rw [bt d d0 d1] at t; simp at t; rw [t.2]
      · rw [if_neg t])
    omega
theorem BV_0 {S : Nat} (hS : S < 256) : BV F O 0 S (if S = 0 then 0 else 268435456) := by
  by_cases e : S = 0
  · subst e
    rw [if_pos rfl]
    refine ⟨by omega, Or.inr ⟨fun _ => 0, ⟨fun d _ _ q => (by rw [Nat.zero_testBit] at q; cases q), fun p p0 p1 => by omega⟩, bS_0.symm⟩, fun a _ => by unfold COSTc; rw [bS_0]; omega⟩
  · rw [if_neg e]
    refine ⟨by omega, Or.inl rfl, fun a ha => ?_⟩
    exfalso
    apply e
    apply Nat.eq_of_testBit_eq
    intro j
    rw [Nat.zero_testBit]
    cases q : S.testBit j with
    | false => rfl
    | true =>
      have j8 : j < 8 := by
        rcases Nat.lt_or_ge j 8 with z | z
        · exact z
        · rw [Nat.testBit_lt_two_pow (Nat.lt_of_lt_of_le hS (Nat.pow_le_pow_right (n := 2) (by decide) z) : S < 2 ^ j)] at q; cases q
      have := ha.1 j (by omega) (by omega) q
      omega
theorem sumN_le {f f' : Int → Int} : ∀ n : Nat, (∀ i : Int, 0 ≤ i → i < n → f i ≤ f' i) → sumN f n ≤ sumN f' n
  | 0, _ => Int.le_refl _
  | n + 1, h => by
    have a := sumN_le n (fun i i0 i1 => h i i0 (by omega))
    have c := h n (by omega) (by omega)
    unfold sumN
    omega
theorem bS_dg {U : Nat} : 0 ≤ bS dgI U ∧ bS dgI U ≤ 21845 := by
  have t : sumN dgI 8 = 21845 := by decide +kernel
  have a : bS dgI U ≤ sumN dgI 8 := sumN_le 8 (fun i i0 i1 => by have := dgI_R i0 i1; split <;> omega)
  have c := bS_R (g := dgI) (S := U) (c := 16384) (by omega) (fun d d0 d1 _ => by have := dgI_R d0 d1; omega)
  omega
theorem bS_add {U : Nat} : bS (fun d => g d + g' d) U = bS g U + bS g' U := by
  unfold bS
  rw [← sumN_add]
  exact sumN_c _ (fun d _ _ => by
    by_cases q : U.testBit d.toNat = true
    · rw [if_pos q, if_pos q, if_pos q]
    · rw [if_neg q, if_neg q, if_neg q]; rfl)
theorem bS_mul {U : Nat} {c : Int} : bS (fun d => c * g d) U = c * bS g U := by
  unfold bS
  rw [sumN_mul]
  exact sumN_c _ (fun d _ _ => by
    by_cases q : U.testBit d.toNat = true
    · rw [if_pos q, if_pos q]
    · rw [if_neg q, if_neg q, Int.mul_zero])
theorem bS_PR {U : Nat} {a : Int → Int} : bS (fun d => PRc F (a d) d) U = 65536 * bS (fun d => F d (a d)) U + bS (fun d => a d * dgI d) U := by
  rw [← bS_mul, ← bS_add]
  exact bS_c (fun d _ _ _ => by unfold PRc; omega)
theorem spr_R {U : Nat} {a : Int → Int} (h : ∀ d : Int, 0 ≤ d → d < 8 → U.testBit d.toNat = true → 0 ≤ a d ∧ a d < 4) : 0 ≤ bS (fun d => a d * dgI d) U ∧ bS (fun d => a d * dgI d) U ≤ 65535 := by
  have t : sumN dgI 8 = 21845 := by decide +kernel
  have x : bS (fun d => a d * dgI d) U ≤ sumN (fun d => 3 * dgI d) 8 := sumN_le 8 (fun i i0 i1 => by
    have z := dgI_R i0 i1
    by_cases q : U.testBit i.toNat = true
    · rw [if_pos q]
      have w := h i i0 i1 q
      exact Int.mul_le_mul_of_nonneg_right (by omega) (by omega)
    · rw [if_neg q]; omega)
  rw [← sumN_mul, t] at x
  have c := bS_R (g := fun d => a d * dgI d) (S := U) (c := 3 * 16384) (by omega) (fun d d0 d1 q => by
    have z := dgI_R d0 d1
    have w := h d d0 d1 q
    exact mulR w.1 (show a d ≤ 3 by omega) (by omega) z.2)
  omega
theorem CST_up (hF : ∀ d p, 0 ≤ F d p ∧ F d p ≤ 9) {p : Int} (p0 : 0 ≤ p) (p4 : p < 4) (o0 : 0 ≤ O p) (o9 : O p ≤ 99) {D d T : Nat} (hd : d < 8) (hT : T < 2 ^ d) : CSTv F O D p (2 ^ d + T) = if O p < min (CSTv F O D p T + (if D.testBit d = true then PRc F p d else 268435456)) 268435456 / 65536 then 268435456 else min (CSTv F O D p T + (if D.testBit d = true then PRc F p d else 268435456)) 268435456 := by
  have ax := add_x hT
  have bt : (2 ^ d + T).testBit d = true := by rw [Nat.testBit_two_pow_add_eq, Nat.testBit_lt_two_pow hT]; rfl
  have up1 := bS_up (g := PRc F p) hd hT
  have up2 := bS_up (g := fun d => F d p) hd hT
  have pe := bS_PR (F := F) (U := 2 ^ d + T) (a := fun _ => p)
  have se := spr_R (U := 2 ^ d + T) (a := fun _ => p) (fun _ _ _ _ => ⟨p0, p4⟩)
  have fR := bS_R (g := fun d => F d p) (S := T) (c := 9) (by omega) (fun d _ _ _ => hF d p)
  have fd := hF d p
  have pR := PRc_R hF p0 p4 (show (0 : Int) ≤ d by omega) (by omega)
  have cR := CST_R (O := O) hF p0 p4 (D := D) (T := T)
  have e0 : (fun d => PRc F p d) = PRc F p := rfl
  rw [e0] at pe
  by_cases h : T &&& D = T ∧ bS (fun d => F d p) T ≤ O p
  · have cT : CSTv F O D p T = bS (PRc F p) T := by unfold CSTv; rw [if_pos h]
    by_cases q : D.testBit d = true
    · rw [if_pos q, cT, ← up1]
      have uD : (2 ^ d + T) &&& D = 2 ^ d + T := b_sub (fun j z => by
        rcases Nat.lt_trichotomy j d with y | y | y
        · rw [Nat.testBit_two_pow_add_gt y] at z; exact sub_b h.1 z
        · subst y; exact q
        · exfalso
          have m : 2 ^ (d + 1) ≤ 2 ^ j := Nat.pow_le_pow_right (by decide) y
          rw [Nat.pow_succ] at m
          rw [Nat.testBit_lt_two_pow (by omega)] at z; cases z)
      unfold CSTv
      by_cases w : bS (fun d => F d p) (2 ^ d + T) ≤ O p
      · rw [if_pos ⟨uD, w⟩, if_neg (by omega)]; omega
      · rw [if_neg (fun z => w z.2), if_pos (by omega)]
    · rw [if_neg q, if_pos (by omega)]
      unfold CSTv
      rw [if_neg (fun z => q (sub_b z.1 bt))]
  · have cT : CSTv F O D p T = 268435456 := by unfold CSTv; rw [if_neg h]
    have x : ¬ ((2 ^ d + T) &&& D = 2 ^ d + T ∧ bS (fun d => F d p) (2 ^ d + T) ≤ O p) := fun z => h ⟨b_sub (fun j y => sub_b z.1 (sub_b ax.1 y)), by omega⟩
    have y : 0 ≤ (if D.testBit d = true then PRc F p d else 268435456) := by split <;> omega
    rw [cT, if_pos (by omega)]
    unfold CSTv
    rw [if_neg x]
theorem CST_0 {D : Nat} {p : Int} (o0 : 0 ≤ O p) : CSTv F O D p 0 = 0 := by
  unfold CSTv
  rw [if_pos ⟨Nat.zero_and D, by rw [bS_0]; exact o0⟩, bS_0]
theorem LW_a {c l : Nat → Int} {S lo : Nat} {v : Int} (h : LWv c l S (lo + 1) v) (z : ¬ (c lo < 268435456 ∧ l (S ^^^ lo) < 268435456)) : LWv c l S lo v := ⟨h.1, h.2.1, fun T a q x y => by
  by_cases e : T = lo
  · subst e; exact absurd ⟨x, y⟩ z
  · exact h.2.2 T a (by omega) x y⟩
theorem LW_b {c l : Nat → Int} {S lo : Nat} {v : Int} (h : LWv c l S (lo + 1) v) (t : lo &&& S = lo) (x : c lo < 268435456) (y : l (S ^^^ lo) < 268435456) : LWv c l S lo (min v (c lo + l (S ^^^ lo))) := by
  obtain ⟨a, q, m⟩ := h
  refine ⟨by omega, ?_, fun T a q x y => ?_⟩
  · by_cases z : v ≤ c lo + l (S ^^^ lo)
    · rw [show min v (c lo + l (S ^^^ lo)) = v by omega]; exact q
    · exact Or.inr ⟨lo, t, x, y, by omega⟩
  · by_cases e : T = lo
    · subst e; omega
    · have := m T a (by omega) x y; omega
theorem LW_n {c l : Nat → Int} {S lo : Nat} {v : Int} (h : LWv c l S lo v) (hS : S < 256) (t : lo &&& S = lo) : LWv c l S (((lo - 1) &&& S) + 1) v := ⟨h.1, h.2.1, fun T a q => h.2.2 T a (by
  rcases Nat.lt_or_ge T lo with z | z
  · have ll : lo ≤ S := by have := Nat.and_le_right (n := lo) (m := S); omega
    have := sub_next 8 lo S T (by omega) a t z
    omega
  · exact z)⟩
theorem LW_more {c l : Nat → Int} {S lo : Nat} {v : Int} (h : LWv c l S (lo + 1) v) (hs : ¬ lo &&& S = lo) : LWv c l S lo v := ⟨h.1, h.2.1, fun T a q => h.2.2 T a (by
  rcases Nat.lt_or_ge lo T with z | z
  · exact z
  · exfalso; exact hs (by rw [show lo = T by omega]; exact a))⟩
theorem nbD : ∀ D : Nat, D < 256 → ∀ s : Nat, s < 256 → (band (s : Int) (bxor (D : Int) (-1)) = 0 ↔ s &&& D = s) := by decide +kernel
end BILL
/-- the bill's two tables -/
def LO (b : Bool × Bool) : Nat := if b.2 then 331 else 330
def NL (b : Bool × Bool) : Nat := if b.2 then 330 else 331
theorem LO_c (b : Bool × Bool) : (LO b = 331 ∧ NL b = 330) ∨ (LO b = 330 ∧ NL b = 331) := by unfold LO NL; cases b.2 <;> simp
theorem tyLO (b : Bool × Bool) : ty TT (LO b) = some (.inr (0, 256)) := by rcases LO_c b with ⟨e, _⟩ | ⟨e, _⟩ <;> rw [e]; exact tt331; exact tt330
theorem tyNL (b : Bool × Bool) : ty TT (NL b) = some (.inr (0, 256)) := by rcases LO_c b with ⟨_, e⟩ | ⟨_, e⟩ <;> rw [e]; exact tt330; exact tt331
theorem rrLO (b : Bool × Bool) : RR b 328 1 = LO b := by rw [RR_c tt328]; unfold LO; show (if b.2 = true then 328 + 3 else 328 + 2) = _; cases b.2 <;> rfl
theorem rrNL (b : Bool × Bool) : RR b 328 2 = NL b := by rw [RR_c tt328]; unfold NL; show (if b.2 = true then 328 + 2 else 328 + 3) = _; cases b.2 <;> rfl
theorem LO_0 (b : Bool × Bool) : LO b ≠ 0 := by rcases LO_c b with ⟨e, _⟩ | ⟨e, _⟩ <;> omega
theorem NL_0 (b : Bool × Bool) : NL b ≠ 0 := by rcases LO_c b with ⟨_, e⟩ | ⟨_, e⟩ <;> omega
theorem only0 : ∀ o, o < 351 → ty TT o = some (.inl 0) → o = 328 := by decide +kernel
theorem RRc_b2 {b b' : Bool × Bool} (e : b.1 = b'.1) {c o : Nat} {k : Int} (h : c ≠ 0) : RRc b c o k = RRc b' c o k := by
  unfold RRc
  split
  · exact absurd rfl h
  all_goals first | rfl | rw [e]
theorem swapB (b : Bool × Bool) : up (up (RR b) 328 1 (NL b)) 328 2 (LO b) = RR (b.1, !b.2) := by
  funext o k
  by_cases e : o = 328
  · subst e
    by_cases k3 : k = 2
    · subst k3; rw [up_s, rrNL]; unfold NL LO; cases b.2 <;> rfl
    · rw [up_k k3]
      by_cases k2 : k = 1
      · subst k2; rw [up_s, rrLO]; unfold NL LO; cases b.2 <;> rfl
      · rw [up_k k2, RR_c tt328, RR_c tt328]
        unfold RRc
        simp only [if_neg k2, if_neg k3]
  · rw [up_o e, up_o e]
    unfold RR
    cases q : ty TT o with
    | none => rfl
    | some t =>
      cases t with
      | inr a => rfl
      | inl c =>
        have h4 : c ≠ 0 := fun z => by subst z; exact e (only0 o (tt_lt q) q)
        show RRc b c o k = RRc (b.1, !b.2) c o k
        exact RRc_b2 (b := b) (b' := (b.1, !b.2)) rfl h4
def BLL : List Nat := [19, 20, 21, 328, 329, 330, 331]
theorem LO_m (b : Bool × Bool) : LO b ∈ BLL := by rcases LO_c b with ⟨e, _⟩ | ⟨e, _⟩ <;> rw [e] <;> decide
theorem NL_m (b : Bool × Bool) : NL b ∈ BLL := by rcases LO_c b with ⟨_, e⟩ | ⟨_, e⟩ <;> rw [e] <;> decide
theorem LN (b : Bool × Bool) : LO b ≠ NL b := by rcases LO_c b with ⟨e, f⟩ | ⟨e, f⟩ <;> omega
theorem LO_sw (b : Bool × Bool) : LO (b.1, !b.2) = NL b := by unfold LO NL; cases b.2 <;> rfl
theorem LO_k (b : Bool × Bool) : LO b ≠ 329 ∧ NL b ≠ 329 ∧ LO b ≠ 328 ∧ NL b ≠ 328 ∧ LO b ∉ [19, 20, 21] ∧ LO b ∉ [19, 20, 21, 329] := by rcases LO_c b with ⟨e, f⟩ | ⟨e, f⟩ <;> rw [e, f] <;> decide
theorem CT.bl {h h' : Nat → Int → Int} {R : Int → Int} {L : Laws} (C : CT h R L) (E : eqX BLL h h') : CT h' R L := ⟨C.1.c (fun o a _ _ => E o (by unfold BLL; simp; omega)), C.2.1, C.2.2.c C.2.1.n.2.2.1.2 (fun o a c => E o (by unfold BLL; simp; omega))⟩
def FN (L : Laws) (R : Int → Int) : Int → Int → Int := fun d p => fillsV L R (R 3) d p
def ON (R : Int → Int) : Int → Int := fun p => R (13 + 2 * p)
theorem FN_R {L : Laws} {R : Int → Int} : ∀ d p, 0 ≤ FN L R d p ∧ FN L R d p ≤ 9 := fun _ _ => fillsV_R
