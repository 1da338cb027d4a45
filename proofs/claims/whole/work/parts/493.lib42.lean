/-! the model's reader of sums: what waits (the latest first), how many are open, what is written -/
def bnd (o : Int) : Int := if 40 ≤ o then 0 else if o = 22 then 1 else if o = 21 then 2 else if o = 20 then 3 else if 10 ≤ o then 4 else if o = 5 ∨ o = 2 ∨ o = 4 then 7 else if 8 ≤ o then 6 else 5
def setP (l : Int) : List Int → Int → MCd → List Int × Int × MCd
  | [], o, W => ([], o, W)
  | x :: P, o, W => if l ≤ bnd x then setP l P (if bnd x = 7 ∨ x = 20 then o - 1 else o) (W ++ [(x, 0)]) else (x :: P, o, W)
def opnP : List Int → Int
  | [] => -1
  | x :: P => if 40 ≤ x then x else opnP P
def cmpB : List Int → Bool
  | [] => false
  | x :: P => if 4 < bnd x then cmpB P else decide (bnd x = 4)
def bndT : List Int → Int
  | [] => 0
  | x :: _ => bnd x
def hdP (P : List Int) : Int := P.headD 0
def ahdB (P : List Int) : Bool := decide (opnP P = 42 ∧ (40 ≤ hdP P ∨ (1 ≤ bnd (hdP P) ∧ bnd (hdP P) ≤ 3)))
abbrev MSt : Type := Int × List Int × Int × MCd × Bool
abbrev MRs : Type := (Int × Int) ⊕ MSt
def endM (K : Int → Int) (i : Int) (P : List Int) (o : Int) (W : MCd) : MRs :=
  if hdP (setP 7 P o W).1 = 41 then (if K i = 20 then .inr (i + 1, 4 :: (setP 7 P o W).1.tail, (setP 7 P o W).2.1, (setP 7 P o W).2.2, false) else .inl (1, i)) else .inr (i, (setP 7 P o W).1, (setP 7 P o W).2.1, (setP 7 P o W).2.2, true)
def opdM (x i : Int) (P : List Int) (o : Int) (W : MCd) : MRs := if o = 8 then .inl (3, i) else .inr (i + 1, x :: P, o + 1, W, false)
def begM (K V : Int → Int) (s i : Int) (P : List Int) (o : Int) (W : MCd) : MRs :=
  if K i = 40 ∧ 9999 < V i then .inl (2, i)
  else if K i < 10 ∧ ((s = 0 ∧ K i = 9) ∨ (¬ s = 0 ∧ (K i = 7 ∨ K i = 8))) then .inl (5, i)
  else if K i = 40 then endM K (i + 1) P o (W ++ [(0, V i)])
  else if K i < 10 then endM K (i + 1) P o (W ++ [(1, m2c (K i))])
  else if K i = 51 then opdM 40 i P o W
  else if K i = 48 then opdM 5 i P o W
  else if K i = 19 then opdM 41 i P o W
  else if K i = 21 then opdM 2 i P o W
  else if K i = 22 then opdM 42 i P o W
  else if K i = 28 ∧ ahdB P = true then opdM 20 i P o W
  else .inl (1, i)
def btwM (K : Int → Int) (i : Int) (P : List Int) : Int :=
  if 47 ≤ K i ∧ K i ≤ 50 then K i - 41 else if ¬ opnP P = 42 then -1 else if cmpB P = false then (if 41 ≤ K i ∧ K i ≤ 46 then K i - 31 else -1) else if K i = 27 then 21 else if K i = 26 then 22 else -1
def prtM (K : Int → Int) (i : Int) (P : List Int) : Int :=
  if opnP P = 40 then (if K i = 52 then 0 else -1) else if opnP P = 42 then (if K i = 23 ∧ cmpB P = true then 43 else -1) else if opnP P = 43 then (if K i = 24 then 44 else -1) else if opnP P = 44 then (if K i = 25 then 0 else -1) else -1
def behM (K : Int → Int) (i : Int) (P : List Int) (o : Int) (W : MCd) : Option MRs :=
  if 0 ≤ btwM K i P then some (.inr (i + 1, btwM K i P :: (setP (if bnd (btwM K i P) = 4 then 5 else bnd (btwM K i P)) P o W).1, (setP (if bnd (btwM K i P) = 4 then 5 else bnd (btwM K i P)) P o W).2.1, (setP (if bnd (btwM K i P) = 4 then 5 else bnd (btwM K i P)) P o W).2.2, false))
  else if prtM K i P < 0 then none
  else if prtM K i P = 0 then some (endM K (i + 1) (setP 1 P o W).1.tail ((setP 1 P o W).2.1 - 1) (if opnP P = 44 then (setP 1 P o W).2.2 ++ [(3, 0)] else (setP 1 P o W).2.2))
  else some (.inr (i + 1, prtM K i P :: (setP 1 P o W).1.tail, (setP 1 P o W).2.1, (setP 1 P o W).2.2, false))
theorem bnd_R {o : Int} : 0 ≤ bnd o ∧ bnd o ≤ 7 := by
  unfold bnd
  repeat' split
  all_goals omega
theorem bnd_lt {o : Int} (h : 1 ≤ bnd o) : o < 40 := by
  unfold bnd at h; split at h <;> omega
theorem bnd_ar {k : Int} (h : 47 ≤ k ∧ k ≤ 50) : bnd (k - 41) = if k ≤ 48 then 5 else 6 := by
  rcases (show k = 47 ∨ k = 48 ∨ k = 49 ∨ k = 50 by omega) with q | q | q | q <;> subst q <;> decide
theorem bnd_cm {k : Int} (h : 41 ≤ k ∧ k ≤ 46) : bnd (k - 31) = 4 := by
  rcases (show k = 41 ∨ k = 42 ∨ k = 43 ∨ k = 44 ∨ k = 45 ∨ k = 46 by omega) with q | q | q | q | q | q <;> subst q <;> decide
def cn (x : Int) : Int := if 40 ≤ x ∨ bnd x = 7 ∨ x = 20 then 1 else 0
def cntP : List Int → Int
  | [] => 0
  | x :: P => cn x + cntP P
def nc : List Int → Int
  | [] => 0
  | x :: P => (if bnd x = 7 ∨ x = 20 then 1 else 0) + nc P
def pm (P : List Int) : MCd := P.map (fun x => (x, 0))
def wl : List Int → Prop
  | [] => True
  | x :: P => (0 ≤ x ∧ x ≤ 50) ∧ (cn x = 1 ∨ bndT P < bnd x) ∧ wl P
theorem cn_R {x : Int} : 0 ≤ cn x ∧ cn x ≤ 1 := by unfold cn; split <;> omega
theorem bndT_R : ∀ {P : List Int}, 0 ≤ bndT P ∧ bndT P ≤ 7
  | [] => by show (0 : Int) ≤ 0 ∧ (0 : Int) ≤ 7; omega
  | x :: _ => bnd_R
theorem cntP_R : ∀ (P : List Int), 0 ≤ cntP P
  | [] => by show (0 : Int) ≤ 0; omega
  | x :: P => by have := cntP_R P; have := cn_R (x := x); unfold cntP; omega
theorem wl_len : ∀ (P : List Int), wl P → (P.length : Int) ≤ 8 * cntP P + bndT P
  | [], _ => by simp [cntP, bndT]
  | x :: P, h => by
    have ih := wl_len P h.2.2
    have a := bndT_R (P := P)
    have c := bnd_R (o := x)
    have e := cn_R (x := x)
    rw [List.length_cons]
    show ((P.length + 1 : Nat) : Int) ≤ 8 * (cn x + cntP P) + bnd x
    rcases h.2.1 with z | z <;> omega
theorem setP_W : ∀ (l : Int) (P : List Int) (o : Int) (W : MCd), 1 ≤ l → wl P → wl (setP l P o W).1 ∧ bndT (setP l P o W).1 < l ∧ (setP l P o W).2.1 - cntP (setP l P o W).1 = o - cntP P ∧ (setP l P o W).2.2.length + (setP l P o W).1.length = W.length + P.length ∧ opnP (setP l P o W).1 = opnP P ∧ (5 ≤ l → cmpB (setP l P o W).1 = cmpB P)
  | l, [], o, W, l0, h => ⟨h, by show (0 : Int) < l; omega, rfl, rfl, rfl, fun _ => rfl⟩
  | l, x :: P, o, W, l0, h => by
    unfold setP
    by_cases e : l ≤ bnd x
    · rw [if_pos e]
      have lt := bnd_lt (o := x) (by omega)
      obtain ⟨a, b, c, d, f, g⟩ := setP_W l P (if bnd x = 7 ∨ x = 20 then o - 1 else o) (W ++ [(x, 0)]) l0 h.2.2
      refine ⟨a, b, ?_, ?_, ?_, fun l5 => ?_⟩
      · rw [c]
        show _ = o - (cn x + cntP P)
        unfold cn
        by_cases q : bnd x = 7 ∨ x = 20
        · rw [if_pos q, if_pos (Or.inr q)]; omega
        · rw [if_neg q, if_neg (fun z => by rcases z with z | z; omega; exact q z)]; omega
      · rw [d, List.length_append, List.length_cons, List.length_cons, List.length_nil]; omega
      · rw [f]; show _ = if 40 ≤ x then x else opnP P
        rw [if_neg (by omega)]
      · rw [g l5]; show _ = if 4 < bnd x then cmpB P else _
        rw [if_pos (by omega)]
    · rw [if_neg e]
      exact ⟨h, by show bnd x < l; omega, rfl, rfl, rfl, fun _ => rfl⟩
theorem cmp_top {P : List Int} (h : cmpB P = false) (b : bndT P < 5) : bndT P < 4 := by
  cases P with
  | nil => show (0 : Int) < 4; omega
  | cons x P =>
    have b' : bnd x < 5 := b
    unfold cmpB at h
    rw [if_neg (by omega)] at h
    have := of_decide_eq_false h
    show bnd x < 4
    omega
/-- what holds all along -/
def MInv (n : Int) (t : MSt) : Prop := 0 ≤ t.1 ∧ t.1 ≤ n - 1 ∧ wl t.2.1 ∧ cntP t.2.1 = t.2.2.1 ∧ t.2.2.1 ≤ 8 ∧ (t.2.2.2.1.length : Int) + t.2.1.length ≤ t.1
def MIr (n : Int) (r : MRs) : Prop := match r with
  | .inl e => 1 ≤ e.1 ∧ 0 ≤ e.2 ∧ e.2 ≤ n - 1
  | .inr t => MInv n t
section MI_
variable {K V : Int → Int} {n s i o : Int} {P : List Int} {W : MCd}
theorem wl_tail (h : wl P) (e : 40 ≤ hdP P) : wl P.tail ∧ cntP P = cntP P.tail + 1 ∧ P.length = P.tail.length + 1 := by
  cases P with
  | nil => exact absurd e (by decide)
  | cons x P =>
    have e' : 40 ≤ x := e
    refine ⟨h.2.2, ?_, rfl⟩
    show cn x + cntP P = cntP P + 1
    unfold cn; rw [if_pos (Or.inl e')]; omega
theorem endM_I (t : TkE K n) (i0 : 0 ≤ i) (i1 : i ≤ n - 1) (h : wl P) (hc : cntP P = o) (ho : o ≤ 8) (hl : (W.length : Int) + P.length ≤ i) : MIr n (endM K i P o W) := by
  obtain ⟨a, b, c, d, f, g⟩ := setP_W 7 P o W (by omega) h
  have cp := cntP_R (setP 7 P o W).1
  have oo : (setP 7 P o W).2.1 ≤ 8 := by
    have := cntP_R P
    -- what is settled was counted
    have key : ∀ (P : List Int) (o : Int) (W : MCd), (setP 7 P o W).2.1 ≤ o := by
      intro P
      induction P with
      | nil => intro o W; exact Int.le_refl _
      | cons x P ih =>
        intro o W
        unfold setP
        split
        · refine Int.le_trans (ih _ _) ?_
          split <;> omega
        · exact Int.le_refl _
    exact Int.le_trans (key P o W) ho
  unfold endM
  split
  · rename_i e
    split
    · rename_i k
      obtain ⟨w1, w2, w3⟩ := wl_tail a (by omega)
      refine ⟨by show 0 ≤ i + 1; omega, tk_lt t i1 (by omega), ⟨by omega, Or.inl (by decide), w1⟩, ?_, oo, ?_⟩
      · show cn 4 + cntP (setP 7 P o W).1.tail = (setP 7 P o W).2.1
        rw [show cn 4 = 1 by decide]; omega
      · show ((setP 7 P o W).2.2.length : Int) + (4 :: (setP 7 P o W).1.tail).length ≤ i + 1
        rw [List.length_cons]; omega
    · exact ⟨by dsimp only; omega, i0, i1⟩
  · exact ⟨i0, i1, a, by show cntP (setP 7 P o W).1 = (setP 7 P o W).2.1; omega, oo, by show ((setP 7 P o W).2.2.length : Int) + (setP 7 P o W).1.length ≤ i; omega⟩
theorem opdM_I {x : Int} (t : TkE K n) (I : MInv n (i, P, o, W, false)) (k : ¬ K i = 54) (x0 : 0 ≤ x ∧ x ≤ 50) (cx : cn x = 1) : MIr n (opdM x i P o W) := by
  obtain ⟨a, b, c, d, e, f⟩ := I
  have a' : 0 ≤ i := a
  have b' : i ≤ n - 1 := b
  have c' : wl P := c
  have d' : cntP P = o := d
  have e' : o ≤ 8 := e
  have f' : (W.length : Int) + P.length ≤ i := f
  unfold opdM
  split
  · exact ⟨by dsimp only; omega, a', b'⟩
  · refine ⟨by show 0 ≤ i + 1; omega, tk_lt t b' k, ⟨x0, Or.inl cx, c'⟩, ?_, by show o + 1 ≤ 8; omega, ?_⟩
    · show cn x + cntP P = o + 1; omega
    · show (W.length : Int) + (x :: P).length ≤ i + 1
      rw [List.length_cons]; omega
theorem begM_I (t : TkE K n) (I : MInv n (i, P, o, W, false)) : MIr n (begM K V s i P o W) := by
  have J := I
  obtain ⟨a, b, c, d, e, f⟩ := J
  have a' : 0 ≤ i := a
  have b' : i ≤ n - 1 := b
  have f' : (W.length : Int) + P.length ≤ i := f
  unfold begM
  split
  · exact ⟨by dsimp only; omega, a', b'⟩
  split
  · exact ⟨by dsimp only; omega, a', b'⟩
  split
  · exact endM_I t (by omega) (tk_lt t b' (by omega)) c d e (by rw [List.length_append]; simp only [List.length_cons, List.length_nil]; omega)
  split
  · exact endM_I t (by omega) (tk_lt t b' (by omega)) c d e (by rw [List.length_append]; simp only [List.length_cons, List.length_nil]; omega)
  split
  · exact opdM_I t I (by omega) (by omega) (by decide)
  split
  · exact opdM_I t I (by omega) (by omega) (by decide)
  split
  · exact opdM_I t I (by omega) (by omega) (by decide)
  split
  · exact opdM_I t I (by omega) (by omega) (by decide)
  split
  · exact opdM_I t I (by omega) (by omega) (by decide)
  split
  · rename_i k
    exact opdM_I t I (by omega) (by omega) (by decide)
  · exact ⟨by dsimp only; omega, a', b'⟩
theorem setP_le : ∀ (l : Int) (P : List Int) (o : Int) (W : MCd), (setP l P o W).2.1 ≤ o
  | l, [], o, W => Int.le_refl _
  | l, x :: P, o, W => by
    unfold setP
    split
    · refine Int.le_trans (setP_le l P _ _) ?_
      split <;> omega
    · exact Int.le_refl _
theorem open_top {l : Int} (l1 : l = 1) (h : wl P) (e : 0 ≤ opnP P) : 40 ≤ hdP (setP l P o W).1 ∧ hdP (setP l P o W).1 = opnP P := by
  obtain ⟨a, b, c, d, f, g⟩ := setP_W l P o W (by omega) h
  rw [← f] at e ⊢
  cases q : (setP l P o W).1 with
  | nil => rw [q] at e; exact absurd e (by decide)
  | cons x T =>
    rw [q] at b e
    have b' : bnd x < l := b
    have x40 : 40 ≤ x := by
      by_cases z : 40 ≤ x
      · exact z
      · exfalso
        unfold bnd at b'
        rw [if_neg z] at b'
        repeat' split at b'
        all_goals omega
    refine ⟨x40, ?_⟩
    show x = if 40 ≤ x then x else opnP T
    rw [if_pos x40]
theorem prtM_R : prtM K i P = -1 ∨ (0 ≤ opnP P ∧ ¬ K i = 54 ∧ (prtM K i P = 0 ∨ prtM K i P = 43 ∨ prtM K i P = 44)) := by
  unfold prtM
  split
  · split
    · right; omega
    · left; rfl
  split
  · split
    · right; omega
    · left; rfl
  split
  · split
    · right; omega
    · left; rfl
  split
  · split
    · right; omega
    · left; rfl
  · left; rfl
theorem btwM_R : btwM K i P = -1 ∨ (¬ K i = 54 ∧ ((btwM K i P = K i - 41 ∧ 47 ≤ K i ∧ K i ≤ 50) ∨ (btwM K i P = K i - 31 ∧ 41 ≤ K i ∧ K i ≤ 46 ∧ cmpB P = false) ∨ btwM K i P = 21 ∨ btwM K i P = 22)) := by
  unfold btwM
  split
  · right; omega
  split
  · left; rfl
  split
  · rename_i q
    split
    · right
      refine ⟨by omega, Or.inr (Or.inl ⟨rfl, by omega, by omega, q⟩)⟩
    · left; rfl
  split
  · right; omega
  split
  · right; omega
  · left; rfl
theorem behM_I (t : TkE K n) (I : MInv n (i, P, o, W, true)) : ∀ r, behM K i P o W = some r → MIr n r := by
  obtain ⟨a, b, c, d, e, f⟩ := I
  have a' : 0 ≤ i := a
  have b' : i ≤ n - 1 := b
  have c' : wl P := c
  have d' : cntP P = o := d
  have e' : o ≤ 8 := e
  have f' : (W.length : Int) + P.length ≤ i := f
  intro r hr
  unfold behM at hr
  by_cases q0 : 0 ≤ btwM K i P
  · rw [if_pos q0] at hr
    cases hr
    have R := btwM_R (K := K) (i := i) (P := P)
    obtain ⟨l, hl⟩ : ∃ l, l = (if bnd (btwM K i P) = 4 then 5 else bnd (btwM K i P)) := ⟨_, rfl⟩
    obtain ⟨x, hx⟩ : ∃ x, x = btwM K i P := ⟨_, rfl⟩
    rw [← hl, ← hx]
    rw [← hx] at hl R q0
    rcases R with R | ⟨k54, R⟩
    · omega
    have X : (0 ≤ x ∧ x ≤ 50) ∧ 1 ≤ l ∧ cn x = 0 ∧ (bnd x = l ∨ (l = 5 ∧ bnd x = 4 ∧ cmpB P = false)) := by
      rcases R with ⟨R, R1, R2⟩ | ⟨R, R1, R2, R3⟩ | R | R
      · have := bnd_ar ⟨R1, R2⟩
        rw [← R] at this
        refine ⟨by omega, ?_, ?_, Or.inl ?_⟩
        · rw [hl, this]; split <;> split <;> omega
        · unfold cn; rw [if_neg]; rw [this]; split <;> omega
        · rw [hl, this]; split <;> split <;> omega
      · have := bnd_cm ⟨R1, R2⟩
        rw [← R] at this
        refine ⟨by omega, ?_, ?_, Or.inr ⟨?_, this, R3⟩⟩
        · rw [hl, this, if_pos rfl]; omega
        · unfold cn; rw [if_neg]; rw [this]; omega
        · rw [hl, this, if_pos rfl]
      · subst R; subst hl; refine ⟨by omega, by decide, by decide, Or.inl (by decide)⟩
      · subst R; subst hl; refine ⟨by omega, by decide, by decide, Or.inl (by decide)⟩
    obtain ⟨x0, l1, cx, bx⟩ := X
    obtain ⟨A, B, C, D, F, G⟩ := setP_W l P o W l1 c'
    have le := setP_le l P o W
    refine ⟨by show 0 ≤ i + 1; omega, tk_lt t b' k54, ⟨x0, Or.inr ?_, A⟩, ?_, by show (setP l P o W).2.1 ≤ 8; omega, ?_⟩
    · rcases bx with z | ⟨z, z1, z2⟩
      · rw [z]; exact B
      · rw [z1]
        exact cmp_top (by rw [G (by omega)]; exact z2) (by omega)
    · show cn x + cntP (setP l P o W).1 = (setP l P o W).2.1; omega
    · show ((setP l P o W).2.2.length : Int) + (x :: (setP l P o W).1).length ≤ i + 1
      rw [List.length_cons]; omega
  · rw [if_neg q0] at hr
    by_cases p0 : prtM K i P < 0
    · rw [if_pos p0] at hr; cases hr
    · rw [if_neg p0] at hr
      have R := prtM_R (K := K) (i := i) (P := P)
      rcases R with R | ⟨R0, R1, R2⟩
      · omega
      obtain ⟨A, B, C, D, F, G⟩ := setP_W 1 P o W (by omega) c'
      have le := setP_le 1 P o W
      have top := open_top (o := o) (W := W) rfl c' R0
      obtain ⟨w1, w2, w3⟩ := wl_tail A top.1
      by_cases p1 : prtM K i P = 0
      · rw [if_pos p1] at hr
        cases hr
        refine endM_I t (by omega) (tk_lt t b' R1) w1 (by omega) (by omega) ?_
        split
        · rw [List.length_append]; simp only [List.length_cons, List.length_nil]; omega
        · omega
      · rw [if_neg p1] at hr
        cases hr
        have p2 : (0 ≤ prtM K i P ∧ prtM K i P ≤ 50) ∧ 40 ≤ prtM K i P := by omega
        refine ⟨by show 0 ≤ i + 1; omega, tk_lt t b' R1, ⟨p2.1, Or.inl ?_, w1⟩, ?_, by show (setP 1 P o W).2.1 ≤ 8; omega, ?_⟩
        · unfold cn; rw [if_pos (Or.inl p2.2)]
        · show cn (prtM K i P) + cntP (setP 1 P o W).1.tail = (setP 1 P o W).2.1
          rw [show cn (prtM K i P) = 1 by unfold cn; rw [if_pos (Or.inl p2.2)]]; omega
        · show ((setP 1 P o W).2.2.length : Int) + (prtM K i P :: (setP 1 P o W).1.tail).length ≤ i + 1
          rw [List.length_cons]; omega
end MI_
