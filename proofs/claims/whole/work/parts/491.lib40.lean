/-! what the codes do -/
def hasC (E : Int → Int) : Int → List Int → Prop
  | _, [] => True
  | u, c :: C => E u = c ∧ hasC E (u + 1) C
def hasM (T : Int → Int) : Int → MCd → Prop
  | _, [] => True
  | w, c :: M => (T (2 * w) = c.1 ∧ T (2 * w + 1) = c.2) ∧ hasM T (w + 1) M
theorem hasC_app {E : Int → Int} : ∀ (A B : List Int) (u : Int), hasC E u (A ++ B) ↔ hasC E u A ∧ hasC E (u + A.length) B
  | [], B, u => by simp [hasC]
  | a :: A, B, u => by
    show (E u = a ∧ hasC E (u + 1) (A ++ B)) ↔ (E u = a ∧ hasC E (u + 1) A) ∧ hasC E (u + ((A.length + 1 : Nat) : Int)) B
    rw [hasC_app A B (u + 1), show u + 1 + (A.length : Int) = u + ((A.length + 1 : Nat) : Int) by omega, and_assoc]
theorem hasM_app {T : Int → Int} : ∀ (A B : MCd) (u : Int), hasM T u (A ++ B) ↔ hasM T u A ∧ hasM T (u + A.length) B
  | [], B, u => by simp [hasM]
  | a :: A, B, u => by
    show ((T (2 * u) = a.1 ∧ T (2 * u + 1) = a.2) ∧ hasM T (u + 1) (A ++ B)) ↔ ((T (2 * u) = a.1 ∧ T (2 * u + 1) = a.2) ∧ hasM T (u + 1) A) ∧ hasM T (u + ((A.length + 1 : Nat) : Int)) B
    rw [hasM_app A B (u + 1), show u + 1 + (A.length : Int) = u + ((A.length + 1 : Nat) : Int) by omega]
    constructor
    · rintro ⟨x, y, z⟩; exact ⟨⟨x, y⟩, z⟩
    · rintro ⟨⟨x, y⟩, z⟩; exact ⟨x, y, z⟩
theorem cReach_app {E nm : Int → Int} {lit : Int} : ∀ (n m : Nat) (s t r : Int × List Int), cReach E nm lit n s t → cReach E nm lit m t r → cReach E nm lit (n + m) s r
  | 0, m, s, t, r, h, g => by rw [Nat.zero_add]; cases h; exact g
  | n + 1, m, s, t, r, h, g => by
    rw [show n + 1 + m = (n + m) + 1 by omega]
    exact ⟨h.1, cReach_app n m _ t r h.2 g⟩
theorem mRun_app {C nm : Int → Int} {lit : Int} : ∀ (n m : Nat) (i : Int) (s t r : MS), mRun C nm lit n i s t → mRun C nm lit m (i + n) t r → mRun C nm lit (n + m) i s r
  | 0, m, i, s, t, r, h, g => by rw [Nat.zero_add]; cases h; rw [show i + ((0 : Nat) : Int) = i by omega] at g; exact g
  | n + 1, m, i, s, t, r, h, g => by
    rw [show n + 1 + m = (n + m) + 1 by omega]
    rw [show i + ((n + 1 : Nat) : Int) = i + 1 + n by omega] at g
    exact ⟨h.1, mRun_app n m _ _ t r h.2 g⟩
def SD (s : Int) (tf : Bool) (D : DV) : Prop := ∀ (nm : Int → Int) (lit : Int), (∀ i, MI (mk s nm i)) → MI (D (mk s nm) lit) ∧ (tf = true → D (mk s nm) lit = 0 ∨ D (mk s nm) lit = 1)
def SCc (s : Int) (dep : Nat) (u : Int) (C : List Int) (D : DV) : Prop := ∀ (E nm : Int → Int) (lit : Int) (st : List Int), hasC E u C → 0 ≤ u → u + C.length < 1000 → (∀ i, MI (mk s nm i)) → (∀ v ∈ st, MI v) → st.length ≤ dep →
  ∃ m, m ≤ C.length ∧ cReach E nm lit m (u, st) (u + C.length, D (mk s nm) lit :: st)
def SMm (s : Int) (tf : Bool) (dep : Nat) (M : MCd) (D : DV) : Prop := ∀ (T nm : Int → Int) (lit w : Int) (st ts : List Int), hasM T w M → (∀ i, MI (mk s (fun j => nm (m2c j)) i)) → (∀ v ∈ st, MI v) → (∀ v ∈ ts, v = 0 ∨ v = 1) → st.length + ts.length ≤ dep →
  mRun T nm lit M.length w (st, ts) (if tf = true then (st, D (mk s (fun j => nm (m2c j))) lit :: ts) else (D (mk s (fun j => nm (m2c j))) lit :: st, ts))
def SR3 (s : Int) (tf : Bool) (dep : Nat) (u : Int) (C : List Int) (M : MCd) (D : DV) : Prop := SD s tf D ∧ SCc s dep u C D ∧ SMm s tf dep M D
def SEM (s : Int) (tf : Bool) (dep : Nat) (u : Int) (r : Res) : Prop := match r with
  | .inl _ => True
  | .inr (_, C, M, D) => SR3 s tf dep u C M D
def PSm (n s : Int) (tf : Bool) (dep : Nat) (pr : PF) : Prop := ∀ i u, 0 ≤ i → i ≤ n - 1 → 0 ≤ u → SEM s tf dep u (pr i u)
section SEMS
variable {s u : Int} {tf : Bool} {dep dep' : Nat} {C C2 : List Int} {M M2 : MCd} {D D2 D' : DV}
theorem SCc.dn (h : SCc s dep u C D) (e : dep' ≤ dep) : SCc s dep' u C D := fun E nm lit st a b c d f g => h E nm lit st a b c d f (Nat.le_trans g e)
theorem SMm.dn (h : SMm s tf dep M D) (e : dep' ≤ dep) : SMm s tf dep' M D := fun T nm lit w st ts a b c d g => h T nm lit w st ts a b c d (Nat.le_trans g e)
theorem SR3.dn (h : SR3 s tf dep u C M D) (e : dep' ≤ dep) : SR3 s tf dep' u C M D := ⟨h.1, h.2.1.dn e, h.2.2.dn e⟩
theorem SEM.dn {r : Res} (h : SEM s tf dep u r) (e : dep' ≤ dep) : SEM s tf dep' u r := by
  rcases r with x | ⟨j, C, M, D⟩
  · trivial
  · exact SR3.dn h e
theorem PSm.dn {n : Int} {pr : PF} (h : PSm n s tf dep pr) (e : dep' ≤ dep) : PSm n s tf dep' pr := fun i u a b c => (h i u a b c).dn e
theorem SEM.thn {n i u' : Int} {tf' : Bool} {r : Res} {f : Int → List Int → MCd → DV → Res} (g : RG n i r) (h : SEM s tf dep u r) (k : ∀ j C M D, i < j → j ≤ n - 1 → SR3 s tf dep u C M D → SEM s tf' dep' u' (f j C M D)) : SEM s tf' dep' u' (thn r f) := by
  rcases r with x | ⟨j, C, M, D⟩
  · trivial
  · exact k j C M D g.1 g.2.1 h
theorem MI_b {v : Int} (h : v = 0 ∨ v = 1) : MI v := by unfold MI; omega
/-- one more step of the class's machine -/
theorem cR1 {E nm : Int → Int} {lit a : Int} {st : List Int} {m : Nat} {s0 r : Int × List Int} (h : cReach E nm lit m s0 (a, st)) (a0 : 0 ≤ a) (a1 : a < 1000) (e : E a ≠ 53) (l : st.length < 64) (hm : ∀ v ∈ st, MI v) (ar : cAr (E a) st.length) (hr : cStep E nm lit (a, st) = r) : cReach E nm lit (m + 1) s0 r :=
  cReach_app m 1 _ _ _ h ⟨⟨a0, a1, e, l, hm, ar⟩, by rw [hr]; rfl⟩
theorem cons_MI {x : Int} {st : List Int} (hx : MI x) (h : ∀ v ∈ st, MI v) : ∀ v ∈ x :: st, MI v := fun v hv => by
  rcases List.mem_cons.mp hv with z | z
  · rw [z]; exact hx
  · exact h v z
theorem cons_01 {x : Int} {st : List Int} (hx : x = 0 ∨ x = 1) (h : ∀ v ∈ st, v = 0 ∨ v = 1) : ∀ v ∈ x :: st, v = 0 ∨ v = 1 := fun v hv => by
  rcases List.mem_cons.mp hv with z | z
  · rw [z]; exact hx
  · exact h v z
theorem SCc.bin {e : Int} (he : isTwo e) (h1 : SCc s dep u C D) (h2 : SCc s (dep + 1) (u + C.length) C2 D2) (d1 : SD s tf D) (d2 : SD s tf D2) (hd : ∀ nm lit, (∀ i, MI (mk s nm i)) → D' (mk s nm) lit = two e (D (mk s nm) lit) (D2 (mk s nm) lit)) (dp : dep ≤ 60) : SCc s dep u (C ++ (C2 ++ [e])) D' := by
  intro E nm lit st hE u0 u1 hn hv hl
  rw [hasC_app, hasC_app] at hE
  obtain ⟨ha, hb, hc⟩ := hE
  have L : ((C ++ (C2 ++ [e])).length : Int) = C.length + C2.length + 1 := by simp only [List.length_append, List.length_cons, List.length_nil]; omega
  rw [L] at u1
  obtain ⟨m1, l1, r1⟩ := h1 E nm lit st ha u0 (by omega) hn hv hl
  obtain ⟨m2, l2, r2⟩ := h2 E nm lit _ hb (by omega) (by omega) hn (cons_MI (d1 nm lit hn).1 hv) (by simp only [List.length_cons]; omega)
  have r := cReach_app m1 m2 _ _ _ r1 r2
  refine ⟨m1 + m2 + 1, by simp only [List.length_append, List.length_cons, List.length_nil]; omega, ?_⟩
  have ee : E (u + ↑C.length + ↑C2.length) = e := hc.1
  have n53 : e ≠ 53 := by unfold isTwo at he; omega
  refine cR1 r (by omega) (by omega) (by rw [ee]; exact n53) (by simp only [List.length_cons]; omega) (cons_MI (d2 nm lit hn).1 (cons_MI (d1 nm lit hn).1 hv)) ?_ ?_
  · rw [ee]; unfold cAr; right; right; right; right; exact ⟨he, by simp only [List.length_cons]; omega⟩
  · rw [cs_two (by rw [ee]; exact he), ee, hd nm lit hn, L]
    congr 1; omega
theorem SCc.un {e : Int} (he : e = 60 ∨ e = 21 ∨ e = 28) (h1 : SCc s dep u C D) (d1 : SD s tf D) (hd : ∀ nm lit, (∀ i, MI (mk s nm i)) → D' (mk s nm) lit = one e (D (mk s nm) lit) lit) (dp : dep ≤ 60) : SCc s dep u (C ++ [e]) D' := by
  intro E nm lit st hE u0 u1 hn hv hl
  rw [hasC_app] at hE
  obtain ⟨ha, hc⟩ := hE
  have L : ((C ++ [e]).length : Int) = C.length + 1 := by simp only [List.length_append, List.length_cons, List.length_nil]; omega
  rw [L] at u1
  obtain ⟨m1, l1, r1⟩ := h1 E nm lit st ha u0 (by omega) hn hv hl
  refine ⟨m1 + 1, by simp only [List.length_append, List.length_cons, List.length_nil]; omega, ?_⟩
  have ee : E (u + ↑C.length) = e := hc.1
  refine cR1 r1 (by omega) (by omega) (by rw [ee]; omega) (by simp only [List.length_cons]; omega) (cons_MI (d1 nm lit hn).1 hv) ?_ ?_
  · rw [ee]; unfold cAr; right; right; right; left; exact ⟨by omega, by simp only [List.length_cons]; omega⟩
  · rw [cs_one (by rw [ee]; exact he), ee, hd nm lit hn, L]
    congr 1; omega
/-- one more step of the model's machine -/
theorem mR1 {T nm : Int → Int} {lit i : Int} {m : Nat} {s0 s1 r : MS} (h : mRun T nm lit m i s0 s1) (ok : mOK T (i + m) s1) (hr : mStep T nm lit (i + m) s1 = r) : mRun T nm lit (m + 1) i s0 r :=
  mRun_app m 1 _ _ _ _ h ⟨ok, by rw [hr]; rfl⟩
theorem len1 {M : MCd} {c : Int × Int} : (M ++ [c]).length = M.length + 1 := by simp
theorem len3 {M M1 M2 : MCd} {c : Int × Int} : (M ++ (M1 ++ (M2 ++ [c]))).length = M.length + M1.length + M2.length + 1 := by simp only [List.length_append, List.length_cons, List.length_nil]; omega
theorem len2 {M M2 : MCd} {c : Int × Int} : (M ++ (M2 ++ [c])).length = M.length + M2.length + 1 := by simp only [List.length_append, List.length_cons, List.length_nil]; omega
/-- two values: one -/
theorem SMm.binV {e : Int} (he : e = 4 ∨ (6 ≤ e ∧ e ≤ 9)) (h1 : SMm s false dep M D) (h2 : SMm s false (dep + 1) M2 D2) (d1 : SD s false D) (d2 : SD s false D2)
    (hd : ∀ (nm : Int → Int) lit, D' nm lit = if e = 4 then apI (D nm lit) (D2 nm lit) else two (e + 41) (D nm lit) (D2 nm lit)) (dp : dep ≤ 60) : SMm s false dep (M ++ (M2 ++ [(e, 0)])) D' := by
  intro T nm lit w st ts hT hn hv ht hl
  rw [hasM_app, hasM_app] at hT
  obtain ⟨ha, hb, hc⟩ := hT
  have r1 := h1 T nm lit w st ts ha hn hv ht hl
  rw [if_neg (by decide)] at r1
  have r2 := h2 T nm lit _ _ ts hb hn (cons_MI (d1 _ lit hn).1 hv) ht (by simp only [List.length_cons]; omega)
  rw [if_neg (by decide)] at r2
  have r := mRun_app _ _ _ _ _ _ r1 r2
  rw [len2, if_neg (by decide)]
  have ee : T (2 * (w + ((M.length + M2.length : Nat) : Int))) = e := by rw [show w + ((M.length + M2.length : Nat) : Int) = w + M.length + M2.length by omega]; exact hc.1.1
  refine mR1 r ⟨by simp only [List.length_cons]; omega, by dsimp only; omega, cons_MI (d2 _ lit hn).1 (cons_MI (d1 _ lit hn).1 hv), ht, ?_⟩ ?_
  · rw [ee]; unfold mAr; simp only [List.length_cons]; omega
  · rw [hd]
    by_cases q : e = 4
    · rw [ms_ar (by rw [ee]; exact q), if_pos q]
    · rw [ms_two (by rw [ee]; omega) (by rw [ee]; omega), if_neg q, ee]
theorem clip01 {v : Int} (h : v = 0 ∨ v = 1) : clipI v = v := by unfold clipI; rw [if_neg (by omega), if_neg (by omega)]
theorem SMm.binA {e : Int} (he : 10 ≤ e ∧ e ≤ 15) (h1 : SMm s false dep M D) (h2 : SMm s false (dep + 1) M2 D2) (d1 : SD s false D) (d2 : SD s false D2)
    (hd : ∀ (nm : Int → Int) lit, D' nm lit = two (e + 31) (D nm lit) (D2 nm lit)) (dp : dep ≤ 60) : SMm s true dep (M ++ (M2 ++ [(e, 0)])) D' := by
  intro T nm lit w st ts hT hn hv ht hl
  rw [hasM_app, hasM_app] at hT
  obtain ⟨ha, hb, hc⟩ := hT
  have r1 := h1 T nm lit w st ts ha hn hv ht hl
  rw [if_neg (by decide)] at r1
  have r2 := h2 T nm lit _ _ ts hb hn (cons_MI (d1 _ lit hn).1 hv) ht (by simp only [List.length_cons]; omega)
  rw [if_neg (by decide)] at r2
  have r := mRun_app _ _ _ _ _ _ r1 r2
  rw [len2, if_pos rfl]
  have ee : T (2 * (w + ((M.length + M2.length : Nat) : Int))) = e := by rw [show w + ((M.length + M2.length : Nat) : Int) = w + M.length + M2.length by omega]; exact hc.1.1
  refine mR1 r ⟨by simp only [List.length_cons]; omega, by dsimp only; omega, cons_MI (d2 _ lit hn).1 (cons_MI (d1 _ lit hn).1 hv), ht, ?_⟩ ?_
  · rw [ee]; unfold mAr; simp only [List.length_cons]; omega
  · rw [hd, ms_ask (by rw [ee]; omega) (by rw [ee]; omega), ee]
    unfold two
    rw [clip01 (askR he.1 he.2)]
theorem SMm.binJ {e : Int} (he : e = 21 ∨ e = 22) (h1 : SMm s true dep M D) (h2 : SMm s true (dep + 1) M2 D2) (d1 : SD s true D) (d2 : SD s true D2)
    (hd : ∀ (nm : Int → Int) lit, (∀ i, MI (mk s nm i)) → D' (mk s nm) lit = mJoin e (D (mk s nm) lit) (D2 (mk s nm) lit)) (dp : dep ≤ 60) : SMm s true dep (M ++ (M2 ++ [(e, 0)])) D' := by
  intro T nm lit w st ts hT hn hv ht hl
  rw [hasM_app, hasM_app] at hT
  obtain ⟨ha, hb, hc⟩ := hT
  have r1 := h1 T nm lit w st ts ha hn hv ht hl
  rw [if_pos rfl] at r1
  have r2 := h2 T nm lit _ st _ hb hn hv (cons_01 ((d1 _ lit hn).2 rfl) ht) (by simp only [List.length_cons]; omega)
  rw [if_pos rfl] at r2
  have r := mRun_app _ _ _ _ _ _ r1 r2
  rw [len2, if_pos rfl]
  have ee : T (2 * (w + ((M.length + M2.length : Nat) : Int))) = e := by rw [show w + ((M.length + M2.length : Nat) : Int) = w + M.length + M2.length by omega]; exact hc.1.1
  refine mR1 r ⟨by dsimp only; omega, by simp only [List.length_cons]; omega, hv, cons_01 ((d2 _ lit hn).2 rfl) (cons_01 ((d1 _ lit hn).2 rfl) ht), ?_⟩ ?_
  · rw [ee]; unfold mAr; simp only [List.length_cons]; omega
  · rw [hd _ lit hn, ms_join (by rw [ee]; omega), ee]
theorem SMm.unV {e : Int} (he : e = 5 ∨ e = 2) (h1 : SMm s false dep M D) (d1 : SD s false D) (hd : ∀ (nm : Int → Int) lit, D' nm lit = if e = 5 then -(D nm lit) else one 21 (D nm lit) lit) (dp : dep ≤ 60) : SMm s false dep (M ++ [(e, 0)]) D' := by
  intro T nm lit w st ts hT hn hv ht hl
  rw [hasM_app] at hT
  obtain ⟨ha, hc⟩ := hT
  have r1 := h1 T nm lit w st ts ha hn hv ht hl
  rw [if_neg (by decide)] at r1
  rw [len1, if_neg (by decide)]
  have ee : T (2 * (w + (M.length : Int))) = e := hc.1.1
  refine mR1 r1 ⟨by simp only [List.length_cons]; omega, by dsimp only; omega, cons_MI (d1 _ lit hn).1 hv, ht, ?_⟩ ?_
  · rw [ee]; unfold mAr; simp only [List.length_cons]; omega
  · rw [hd]
    by_cases q : e = 5
    · rw [ms_neg (by rw [ee]; exact q), if_pos q]
    · rw [ms_lamp (by rw [ee]; omega), if_neg q]
theorem SMm.unN (h1 : SMm s true dep M D) (d1 : SD s true D) (hd : ∀ (nm : Int → Int) lit, D' nm lit = one 28 (D nm lit) lit) (dp : dep ≤ 60) : SMm s true dep (M ++ [(20, 0)]) D' := by
  intro T nm lit w st ts hT hn hv ht hl
  rw [hasM_app] at hT
  obtain ⟨ha, hc⟩ := hT
  have r1 := h1 T nm lit w st ts ha hn hv ht hl
  rw [if_pos rfl] at r1
  rw [len1, if_pos rfl]
  have ee : T (2 * (w + (M.length : Int))) = 20 := hc.1.1
  refine mR1 r1 ⟨by dsimp only; omega, by simp only [List.length_cons]; omega, hv, cons_01 ((d1 _ lit hn).2 rfl) ht, ?_⟩ ?_
  · rw [ee]; unfold mAr; right; right; right; right; right; right; left; exact ⟨rfl, by simp only [List.length_cons]; omega⟩
  · rw [hd, ms_not ee]; rfl
/-- the choice -/
theorem SMm.sel {D1 : DV} {M1 : MCd} (h0 : SMm s true dep M D) (h1 : SMm s false (dep + 1) M1 D1) (h2 : SMm s false (dep + 2) M2 D2) (d0 : SD s true D) (d1 : SD s false D1) (d2 : SD s false D2)
    (hd : ∀ (nm : Int → Int) lit, D' nm lit = if D nm lit = 0 then D2 nm lit else D1 nm lit) (dp : dep ≤ 60) : SMm s false dep (M ++ (M1 ++ (M2 ++ [(3, 0)]))) D' := by
  intro T nm lit w st ts hT hn hv ht hl
  rw [hasM_app, hasM_app, hasM_app] at hT
  obtain ⟨ha, hb, hc, hx⟩ := hT
  have r0 := h0 T nm lit w st ts ha hn hv ht hl
  rw [if_pos rfl] at r0
  have t1 := cons_01 ((d0 _ lit hn).2 rfl) ht
  have v1 := cons_MI (d1 _ lit hn).1 hv
  have r1 := h1 T nm lit _ st _ hb hn hv t1 (by simp only [List.length_cons]; omega)
  rw [if_neg (by decide)] at r1
  have r2 := h2 T nm lit _ _ _ hc hn v1 t1 (by simp only [List.length_cons]; omega)
  rw [if_neg (by decide)] at r2
  have r' := mRun_app _ _ _ _ _ _ r0 r1
  rw [show w + (M.length : Int) + M1.length = w + ((M.length + M1.length : Nat) : Int) by omega] at r2 hx
  have r := mRun_app _ _ _ _ _ _ r' r2
  rw [len3, if_neg (by decide)]
  have ee : T (2 * (w + ((M.length + M1.length + M2.length : Nat) : Int))) = 3 := by rw [show w + ((M.length + M1.length + M2.length : Nat) : Int) = w + ((M.length + M1.length : Nat) : Int) + M2.length by omega]; exact hx.1.1
  refine mR1 r ⟨by simp only [List.length_cons]; omega, by simp only [List.length_cons]; omega, cons_MI (d2 _ lit hn).1 v1, t1, ?_⟩ ?_
  · rw [ee]; unfold mAr; right; right; left; exact ⟨rfl, by simp only [List.length_cons]; omega, by simp only [List.length_cons]; omega⟩
  · rw [hd]
    by_cases q : D (mk s (fun j => nm (m2c j))) lit = 0
    · rw [ms_sel0 ee q, if_pos q]
    · rw [ms_sel1 ee q, if_neg q]
theorem SCc.sel {D1 : DV} {C1 : List Int} (h0 : SCc s dep u C D) (h1 : SCc s dep (u + C.length + 2) C1 D1) (h2 : SCc s dep (u + C.length + 2 + C1.length + 2) C2 D2) (d0 : SD s tf D)
    (hd : ∀ (nm : Int → Int) lit, D' nm lit = if D nm lit = 0 then D2 nm lit else D1 nm lit) (d1 : SD s false D1) (dp : dep ≤ 60) :
    SCc s dep u (C ++ (62 :: (u + C.length + 2 + C1.length + 2) :: (C1 ++ (61 :: (u + C.length + 2 + C1.length + 2 + C2.length) :: C2)))) D' := by
  intro E nm lit st hE u0 u1 hn hv hl
  rw [hasC_app] at hE
  obtain ⟨ha, e62, t1, hE⟩ := hE
  rw [hasC_app] at hE
  obtain ⟨hb, e61, t2, hc⟩ := hE
  have L : ((C ++ (62 :: (u + C.length + 2 + C1.length + 2) :: (C1 ++ (61 :: (u + C.length + 2 + C1.length + 2 + C2.length) :: C2)))).length : Int) = C.length + 2 + C1.length + 2 + C2.length := by simp only [List.length_append, List.length_cons]; omega
  have L' : (C ++ (62 :: (u + C.length + 2 + C1.length + 2) :: (C1 ++ (61 :: (u + C.length + 2 + C1.length + 2 + C2.length) :: C2)))).length = C.length + 2 + C1.length + 2 + C2.length := by simp only [List.length_append, List.length_cons]; omega
  rw [L] at u1
  rw [show u + (C.length : Int) + 1 + 1 = u + C.length + 2 by omega] at hb e61 t2 hc
  rw [show u + (C.length : Int) + 2 + C1.length + 1 + 1 = u + C.length + 2 + C1.length + 2 by omega] at hc
  obtain ⟨m0, l0, r0⟩ := h0 E nm lit st ha u0 (by omega) hn hv hl
  have x0 := d0 nm lit hn
  have x1 := d1 nm lit hn
  have step : ∀ a, cStep E nm lit (u + C.length, D (mk s nm) lit :: st) = a → cReach E nm lit (m0 + 1) (u, st) a := fun a ha' =>
    cR1 r0 (by omega) (by omega) (by rw [e62]; decide) (by simp only [List.length_cons]; omega) (cons_MI x0.1 hv) (by rw [e62]; unfold cAr; right; right; right; left; exact ⟨Or.inl rfl, by simp only [List.length_cons]; omega⟩) ha'
  rw [L, L']
  by_cases q : D (mk s nm) lit = 0
  · have s1 := step (u + C.length + 2 + C1.length + 2, st) (by rw [cs_ju0 e62 q, t1])
    obtain ⟨m2, l2, r2⟩ := h2 E nm lit st hc (by omega) (by omega) hn hv hl
    refine ⟨m0 + 1 + m2, by omega, ?_⟩
    have z := cReach_app _ _ _ _ _ s1 r2
    rw [hd, if_pos q]
    rw [show u + ((C.length : Int) + 2 + C1.length + 2 + C2.length) = u + C.length + 2 + C1.length + 2 + C2.length by omega]
    exact z
  · have s1 := step (u + C.length + 2, st) (by rw [cs_ju1 e62 q, show u + (C.length : Int) + 1 + 1 = u + C.length + 2 by omega])
    obtain ⟨m1, l1, r1⟩ := h1 E nm lit st hb (by omega) (by omega) hn hv hl
    have s2 := cReach_app _ _ _ _ _ s1 r1
    refine ⟨m0 + 1 + m1 + 1, by omega, ?_⟩
    refine cR1 s2 (by omega) (by omega) (by rw [e61]; decide) (by simp only [List.length_cons]; omega) (cons_MI x1.1 hv) (by rw [e61]; unfold cAr; right; right; left; rfl) ?_
    rw [cs_jmp e61, t2, hd, if_neg q]
    rw [show u + ((C.length : Int) + 2 + C1.length + 2 + C2.length) = u + C.length + 2 + C1.length + 2 + C2.length by omega]
end SEMS
