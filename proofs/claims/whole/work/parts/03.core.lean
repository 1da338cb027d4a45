/-! THE PICTURE MACHINE. Values of the pictures: int, long, object (its number), what lies outside (0 the text, 1 the script, 2 the text's bytes, 3 a static), none known -/
abbrev V : Type := Option (Int ⊕ (Int ⊕ (Nat ⊕ Nat)))
def vn : V := none
def vi (x : Int) : V := some (.inl x)
def vl (x : Int) : V := some (.inr (.inl x))
def vr (o : Nat) : V := some (.inr (.inr (.inl o)))
def vs (k : Nat) : V := some (.inr (.inr (.inr k)))
def R32 (x : Int) : Prop := -2147483648 ≤ x ∧ x < 2147483648
def R64 (x : Int) : Prop := -9223372036854775808 ≤ x ∧ x < 9223372036854775808
/-- a class's object by the number of its class, an array by its kind (0 int, 1 boolean, 2 long, 3 Script, 4 State) and length -/
abbrev Ty : Type := Nat ⊕ (Nat × Nat)
/-- a picture of the heap: the kinds of the objects 1, 2 .., their ints, longs, references (0: null) -/
abbrev Hp : Type := List Ty × (Nat → Int → Int) × (Nat → Int → Int) × (Nat → Int → Nat)
/-- launch, classes, array classes; base, the text's address, its row's, the script's address and length, the script -/
abbrev GT : Type := (Launch × va_G × (Nat → ClassId)) × (Nat × Nat × Nat × Nat × Nat × (Nat → Int) × Option Nat)
def gl (G : GT) : Launch := G.1.1
def gD (G : GT) : va_G := G.1.2.1
def gA (G : GT) : Nat → ClassId := G.1.2.2
def gB (G : GT) : Nat := G.2.1
def gq (G : GT) : Nat := G.2.2.1
def gv (G : GT) : Nat := G.2.2.2.1
def gs (G : GT) : Nat := G.2.2.2.2.1
def gL (G : GT) : Nat := G.2.2.2.2.2.1
def gx (G : GT) : Nat → Int := G.2.2.2.2.2.2.1
def gf (G : GT) : Option Nat := G.2.2.2.2.2.2.2
def vOK (v : V) : Prop := match v with
  | some (.inl x) => R32 x
  | some (.inr (.inl x)) => R64 x
  | _ => True
def vv (G : GT) (v : V) : Value := match v with
  | none => .null
  | some (.inl x) => .int (Int32.ofInt x)
  | some (.inr (.inl x)) => .long (Int64.ofInt x)
  | some (.inr (.inr (.inl o))) => .ref (gB G + o)
  | some (.inr (.inr (.inr 0))) => .ref (gq G)
  | some (.inr (.inr (.inr 1))) => .ref (gs G)
  | some (.inr (.inr (.inr 2))) => .ref (gv G)
  | some (.inr (.inr (.inr (_ + 3)))) => va_rf (gf G)
def isL (v : V) : Bool := match v with
  | some (.inr (.inl _)) => true
  | _ => false
/-- the kinds of a class's fields: 0 int, 1 long, 2 reference, 3 boolean -/
def fkOf (t : FieldType) : Nat := match t with
  | .long => 1
  | .boolean => 3
  | .int => 0
  | _ => 2
/-- what a field holds -/
def fv (G : GT) (kd : Nat) (σ : Hp) (o : Nat) (k : Nat) : Value :=
  if kd = 1 then .long (Int64.ofInt (σ.2.2.1 o k)) else if kd = 2 then (if σ.2.2.2 o k = 0 then .null else .ref (gB G + σ.2.2.2 o k)) else .int (Int32.ofInt (σ.2.1 o k))
def arrOf (G : GT) (σ : Hp) (o : Nat) (kd n : Nat) : va_E :=
  if kd ≤ 1 then .inl (gA G kd, n, .inl (fun j => Int32.ofInt (σ.2.1 o j)))
  else if kd = 2 then .inl (gA G kd, n, .inr (.inl (fun j => Int64.ofInt (σ.2.2.1 o j))))
  else .inl (gA G kd, n, .inr (.inr (.inr (.inr (fun j => if σ.2.2.2 o j = 0 then none else some (gB G + σ.2.2.2 o j))))))
def cellOf (G : GT) (σ : Hp) (o : Nat) (t : Ty) : va_E := match t with
  | .inl ci => .inr (ci, (List.range (cN ci)).map (fun k => fv G (fkOf (ctys ci k)) σ o k))
  | .inr a => arrOf G σ o a.1 a.2
def Wd (G : GT) (σ : Hp) : va_W := σ.1.mapIdx (fun i t => (gB G + (i + 1), cellOf G σ (i + 1) t))
def ty (T : List Ty) (o : Nat) : Option Ty := match o with
  | 0 => none
  | o + 1 => T[o]?
def AG (G : GT) : Nat → Prop := fun q => gB G < q
def tys0 (G : GT) : List (ClassId × FieldType) := [(gA G 0, .int), (gA G 1, .boolean), (gA G 2, .long), (gA G 3, .object "LitByLosers$Script"), (gA G 4, .object "LitByLosers$State")]
def HR (G : GT) (σ : Hp) (H : Heap) : Prop := H.size = gB G + σ.1.length + 1 ∧ va_P (gD G) CL (Wd G σ) H ∧ (∀ o k, R32 (σ.2.1 o k)) ∧ ∀ o k, R64 (σ.2.2.1 o k)
/-- each class's words, its field types, its place -/
def CQ (ci : Nat) : Prop := (∀ w ∈ u_ws (cq ci).1 (cq ci).2.1 (cq ci).2.2, w ∈ LW) ∧ CL[ci]? = some (cq ci) ∧ (cq ci).2.2 = cN ci ∧ (∀ k, k < cN ci → parseFieldDescriptor ((cq ci).2.1 k).2.2.1 = some (ctys ci k)) ∧ ∀ a, a < cN ci → ∀ b, b < cN ci → a ≠ b → ((cq ci).2.1 a).2.1 ≠ ((cq ci).2.1 b).2.1
theorem CQ_ok : ∀ ci, ci < 10 → CQ ci := by
  intro ci h
  match ci, h with
  | 0, _ => exact ⟨inLW inX0 (by decide +kernel), rfl, rfl, tyX0_ok, nmX0⟩
  | 1, _ => exact ⟨inLW inX1 (by decide +kernel), rfl, rfl, tyX1_ok, nmX1⟩
  | 2, _ => exact ⟨inLW inX2 (by decide +kernel), rfl, rfl, tyX2_ok, nmX2⟩
  | 3, _ => exact ⟨inLW inX3 (by decide +kernel), rfl, rfl, tyX3_ok, nmX3⟩
  | 4, _ => exact ⟨inLW inX4 (by decide +kernel), rfl, rfl, tyX4_ok, nmX4⟩
  | 5, _ => exact ⟨inLW inX5 (by decide +kernel), rfl, rfl, tyX5_ok, nmX5⟩
  | 6, _ => exact ⟨inLW inX6 (by decide +kernel), rfl, rfl, tyX6_ok, nmX6⟩
  | 7, _ => exact ⟨inLW inX7 (by decide +kernel), rfl, rfl, tyX7_ok, nmX7⟩
  | 8, _ => exact ⟨inLW inX8 (by decide +kernel), rfl, rfl, tyX8_ok, nmX8⟩
  | 9, _ => exact ⟨inLW inX9 (by decide +kernel), rfl, rfl, tyX9_ok, nmX9⟩
def txW : String := "night slip lit number size oil wrong other against who loses fills person turns argue pour snuff by to around of lamp if then else end or and not "
def byW : List Int32 := txW.toList.map (fun ch => Int32.ofNat ch.toNat)
/-- what lies outside and stays: the script, the text, a static -/
def OLD (G : GT) (U : State) (H : Heap) : Prop := va_X (gs G) (gL G) (fun j => Int32.ofInt (gx G j)) U H ∧ gs G ≤ gB G ∧ (∀ j, R32 (gx G j)) ∧ gL G ≤ 3072 ∧ vk_S 1 [146] [byW] (fun _ => gq G) (fun _ => gv G) (AG G) U H ∧ vk_R "LitByLosers$Reader" 97 txW (gq G) U ∧ va_Z "java/lang/String" "COMPACT_STRINGS" "Z" (.int 1) (AG G) U H ∧ va_Z "jdk/internal/util/Preconditions" "SIOOBE_FORMATTER" "Ljava/util/function/BiFunction;" (va_rf (gf G)) (AG G) U H
theorem OLD.go {G : GT} {s U : State} {H H1 : Heap} (h : OLD G s H) (hW : s.WarmedH U.vm) (hq : ∀ q : Nat, q < H.size → ¬ AG G q → H1[q]? = H[q]?) : OLD G U H1 := by
  obtain ⟨h1, h2, h3, h4, h5, h6, h7, h8⟩ := h
  refine ⟨(h1.moved hW.alike).kept ?_, h2, h3, h4, (h5.moved hW.alike).kept hq, h6.warm hW, (h7.moved hW.alike).kept hq, (h8.moved hW.alike).kept hq⟩
  obtain ⟨scr, e, -⟩ := h1
  exact hq _ (Array.getElem?_eq_some_iff.mp e).1 (Nat.not_lt.mpr h2)
/-- what a frame stands on -/
def CX (G : GT) (y : Md) (p : Program) (s : State) (m : MethodId) (args : Array Value) (meth : Method) (c : Code) : Prop :=
  p.tables.exec = Jvm.exec ∧ c.code = mB y ∧ c.maxLocals = mL y ∧ s.vm.findClass (mO y) = some m.cls ∧ (∀ w ∈ LW, w.before args s = true) ∧ va_K (gD G) CL (tys0 G) s ∧ (∀ w ∈ NW, va_Nw w s) ∧ (va_AO "LitByLosers$Script" s ∧ va_AO "LitByLosers$State" s) ∧ OLD G s s.heap ∧ meth.name = (mN y).name
theorem CX.exec {G : GT} {y : Md} {p : Program} {s : State} {m : MethodId} {args : Array Value} {meth : Method} {c : Code} (h : CX G y p s m args meth c) : p.tables.exec = Jvm.exec := h.1
theorem CX.bytes {G : GT} {y : Md} {p : Program} {s : State} {m : MethodId} {args : Array Value} {meth : Method} {c : Code} (h : CX G y p s m args meth c) : c.code = mB y := h.2.1
/-- locals -/
def lvl (G : GT) (ls : List V) : List (Nat × Value) := (List.range ls.length).filterMap (fun i => match ls[i]? with
  | some (some x) => some (i, vv G (some x))
  | _ => none)
theorem lvl_mem {G : GT} {ls : List V} {q : Nat × Value} : q ∈ lvl G ls ↔ ∃ v : V, ls[q.1]? = some v ∧ v ≠ vn ∧ q.2 = vv G v := by
  unfold lvl
  rw [List.mem_filterMap]
  constructor
  · rintro ⟨i, hi, h⟩
    split at h
    next x e =>
      cases h
      exact ⟨some x, e, by simp [vn], rfl⟩
    next => cases h
  · rintro ⟨v, h1, h2, h3⟩
    obtain ⟨i, w⟩ := q
    dsimp only at h1 h3
    refine ⟨i, List.mem_range.mpr (List.getElem?_eq_some_iff.mp h1).1, ?_⟩
    cases v with
    | none => exact absurd rfl h2
    | some x => simp [h1, h3]
theorem lv_mono {ls : Array Slot} {n : Nat} {l l' : List (Nat × Value)} (h : lv_has ls n l) (hs : ∀ q ∈ l', q ∈ l) : lv_has ls n l' := ⟨h.1, h.2.1, fun q hq => h.2.2 q (hs q hq)⟩
def LsR (G : GT) (ls : List V) (lsa : Array Slot) (nL : Nat) : Prop := lv_has lsa nL (lvl G ls) ∧ ls.length = nL ∧ ∀ v ∈ ls, vOK v
theorem LsR.at {G : GT} {ls : List V} {lsa : Array Slot} {nL i : Nat} {v : V} (h : LsR G ls lsa nL) (hi : ls[i]? = some v) (hv : v ≠ vn) : lsa[i]? = some (.val (vv G v)) := h.1.2.2 (i, vv G v) (lvl_mem.mpr ⟨v, hi, hv, rfl⟩)
theorem cat_isL {G : GT} {v : V} : (vv G v).category = 2 ↔ isL v = true := by
  rcases v with _ | x | x | x | (_ | _ | _ | x) <;> simp [vv, isL, Value.category]
  cases gf G <;> simp [va_rf]
theorem LsR.set1 {G : GT} {ls : List V} {lsa : Array Slot} {nL i : Nat} {v : V} (h : LsR G ls lsa nL) (ok : vOK v) (hp : ∀ w, ls[i - 1]? = some w → i ≠ 0 → isL w = false) {lsa' : Array Slot}
    (h' : lv_has lsa' nL ((i, vv G v) :: (lvl G ls).filter (fun q => !(q.1 == i) && !(q.1 + 1 == i && q.2.category == 2)))) : LsR G (ls.set i v) lsa' nL := by
  refine ⟨lv_mono h' fun q hq => ?_, by rw [List.length_set]; exact h.2.1, fun w hw => ?_⟩
  · obtain ⟨w, h1, h2, h3⟩ := lvl_mem.mp hq
    obtain ⟨j, x⟩ := q
    dsimp only at h1 h3
    by_cases e : j = i
    · subst e
      have hl : j < ls.length := by
        have := (List.getElem?_eq_some_iff.mp h1).1
        rwa [List.length_set] at this
      rw [List.getElem?_set_self hl] at h1
      cases h1
      rw [h3]
      exact List.mem_cons_self
    · rw [List.getElem?_set_ne (fun z => e z.symm)] at h1
      refine List.mem_cons_of_mem _ (List.mem_filter.mpr ⟨lvl_mem.mpr ⟨w, h1, h2, h3⟩, ?_⟩)
      have e2 : (j == i) = false := by simp [e]
      simp only [e2, Bool.not_false, Bool.true_and, Bool.not_eq_true', Bool.and_eq_false_iff]
      by_cases e3 : j + 1 = i
      · right
        have hw : isL w = false := hp w (by rw [show i - 1 = j by omega]; exact h1) (by omega)
        have : ¬ x.category = 2 := by rw [h3, cat_isL, hw]; simp
        simp [this]
      · left
        simp [e3]
  · rcases List.mem_or_eq_of_mem_set hw with z | z
    · exact h.2.2 w z
    · rw [z]; exact ok
theorem LsR.set2 {G : GT} {ls : List V} {lsa : Array Slot} {nL i : Nat} {v : V} (h : LsR G ls lsa nL) (ok : vOK v) (hp : ∀ w, ls[i - 1]? = some w → i ≠ 0 → isL w = false) {lsa' : Array Slot}
    (h' : lv_has lsa' nL ((i, vv G v) :: (lvl G ls).filter (fun q => !(q.1 == i) && (!(q.1 == i + 1) && !(q.1 + 1 == i && q.2.category == 2))))) : LsR G ((ls.set i v).set (i + 1) vn) lsa' nL := by
  refine ⟨lv_mono h' fun q hq => ?_, by rw [List.length_set, List.length_set]; exact h.2.1, fun w hw => ?_⟩
  · obtain ⟨w, h1, h2, h3⟩ := lvl_mem.mp hq
    obtain ⟨j, x⟩ := q
    dsimp only at h1 h3
    by_cases e1 : j = i + 1
    · subst e1
      have hl : i + 1 < ls.length := by
        have := (List.getElem?_eq_some_iff.mp h1).1
        rwa [List.length_set, List.length_set] at this
      rw [List.getElem?_set_self (by rw [List.length_set]; exact hl)] at h1
      cases h1
      exact absurd rfl h2
    rw [List.getElem?_set_ne (fun z => e1 z.symm)] at h1
    by_cases e : j = i
    · subst e
      have hl : j < ls.length := by
        have := (List.getElem?_eq_some_iff.mp h1).1
        rwa [List.length_set] at this
      rw [List.getElem?_set_self hl] at h1
      cases h1
      rw [h3]
      exact List.mem_cons_self
    · rw [List.getElem?_set_ne (fun z => e z.symm)] at h1
      refine List.mem_cons_of_mem _ (List.mem_filter.mpr ⟨lvl_mem.mpr ⟨w, h1, h2, h3⟩, ?_⟩)
      have e2 : (j == i) = false := by simp [e]
      have e4 : (j == i + 1) = false := by simp [e1]
      simp only [e2, e4, Bool.not_false, Bool.true_and, Bool.not_eq_true', Bool.and_eq_false_iff]
      by_cases e3 : j + 1 = i
      · right
        have hw : isL w = false := hp w (by rw [show i - 1 = j by omega]; exact h1) (by omega)
        have : ¬ x.category = 2 := by rw [h3, cat_isL, hw]; simp
        simp [this]
      · left
        simp [e3]
  · rcases List.mem_or_eq_of_mem_set hw with z | z
    · rcases List.mem_or_eq_of_mem_set z with z | z
      · exact h.2.2 w z
      · rw [z]; exact ok
    · rw [z]; exact trivial
/-- what a method hands back: none, or one value of its type -/
def rts (G : GT) (v : V) : List Value := match v with
  | none => []
  | some x => [vv G (some x)]
def rOK (y : Md) (pc : Nat) (v : V) : Prop := match v with
  | none => mR y = none ∧ decode (mB y) pc = .ok (.return_, 1)
  | some (.inl x) => decode (mB y) pc = .ok (.ireturn, 1) ∧ ∃ t, mR y = some t ∧ narrow t (.int (Int32.ofInt x)) = .int (Int32.ofInt x)
  | some (.inr (.inl _)) => mR y = some .long ∧ decode (mB y) pc = .ok (.lreturn, 1)
  | some (.inr (.inr _)) => decode (mB y) pc = .ok (.areturn, 1) ∧ ∃ t, mR y = some t ∧ ((∃ n, t = .object n) ∨ ∃ u, t = .array u)
/-- THE JUDGEMENT: at this place of this method, with these locals, this stack, this heap, the method comes to its end with Q -/
def WP (G : GT) (δ mc ms : Nat) (y : Md) (pc : Nat) (ls st : List V) (σ : Hp) (Q : V → Hp → Prop) : Prop :=
  ∀ (p : Program) (e : Env) (R : Room) (s : State) (m : MethodId) (args : Array Value) (below : List Frame) (meth : Method) (c : Code) (H : Heap) (locs : List Loc) (cells slots : Nat) (lsa : Array Slot) (Qf : State → Prop),
    CX G y p s m args meth c → HR G σ H → va_S (AG G) s.heap H locs → LsR G ls lsa (mL y) → (∀ v ∈ st, vOK v) → cells + mc ≤ R.cells → slots + ms ≤ R.slots → 2048 ≤ R.frames + δ → 84000 ≤ R.locals + 40 * δ →
    (∀ (pcr : Nat) (v : V) (σ' : Hp) (H' : Heap) (locs' : List Loc) (cells' slots' : Nat) (lsa' : Array Slot), Q v σ' → HR G σ' H' → va_S (AG G) s.heap H' locs' → cells' ≤ cells + mc → slots' ≤ slots + ms → vOK v → rOK y pcr v →
      W p (gl G) e R s m args below meth c H' locs' cells' slots' Qf (F0 m pcr lsa' (rts G v))) →
    W p (gl G) e R s m args below meth c H locs cells slots Qf (F0 m pc lsa (st.map (vv G)))
theorem WP.mono {G : GT} {δ mc ms : Nat} {y : Md} {pc : Nat} {ls st : List V} {σ : Hp} {Q Q' : V → Hp → Prop} (h : WP G δ mc ms y pc ls st σ Q) (hq : ∀ v σ', Q v σ' → Q' v σ') : WP G δ mc ms y pc ls st σ Q' :=
  fun p e R s m args below meth c H locs cells slots lsa Qf C hH hS hl hst hc hs hf hlo hr => h p e R s m args below meth c H locs cells slots lsa Qf C hH hS hl hst hc hs hf hlo (fun pcr v σ' H' locs' cells' slots' lsa' q => hr pcr v σ' H' locs' cells' slots' lsa' (hq v σ' q))
section GEN
variable {G : GT} {δ mc ms : Nat} {y : Md} {pc : Nat} {ls st : List V} {σ : Hp} {Q : V → Hp → Prop}
theorem WP.eq {pc' : Nat} {ls' st' : List V} {σ' : Hp} (h : WP G δ mc ms y pc ls st σ Q) (e1 : pc = pc' := by rfl) (e2 : ls = ls' := by rfl) (e3 : st = st' := by rfl) (e4 : σ = σ' := by rfl) : WP G δ mc ms y pc' ls' st' σ' Q := by
  subst e1 e2 e3 e4; exact h
/-- the picture's ints are ints -/
theorem wp_in (h : (∀ o k, R32 (σ.2.1 o k)) → (∀ o k, R64 (σ.2.2.1 o k)) → WP G δ mc ms y pc ls st σ Q) : WP G δ mc ms y pc ls st σ Q :=
  fun p e R s m args below meth c H locs cells slots lsa Qf C hH hS hl hst => h hH.2.2.1 hH.2.2.2 p e R s m args below meth c H locs cells slots lsa Qf C hH hS hl hst
/-- what stands on the stack and in the locals is in its range -/
theorem wp_ls (h : (∀ v ∈ st, vOK v) → (∀ v ∈ ls, vOK v) → WP G δ mc ms y pc ls st σ Q) : WP G δ mc ms y pc ls st σ Q :=
  fun p e R s m args below meth c H locs cells slots lsa Qf C hH hS hl hst => h hst hl.2.2 p e R s m args below meth c H locs cells slots lsa Qf C hH hS hl hst
/-- a step that changes the stack alone -/
theorem wp_st {pc' : Nat} {st' : List V} (ok : (∀ v ∈ st, vOK v) → ∀ v ∈ st', vOK v)
    (h : ∀ {p : Program} {e : Env} {R : Room} {s : State} {m : MethodId} {args : Array Value} {below : List Frame} {meth : Method} {c : Code} {H : Heap} {locs : List Loc} {cells slots : Nat} {lsa : Array Slot} {Qf : State → Prop}, CX G y p s m args meth c → LsR G ls lsa (mL y) → (∀ v ∈ st, vOK v) →
      W p (gl G) e R s m args below meth c H locs cells slots Qf (F0 m pc' lsa (st'.map (vv G))) → W p (gl G) e R s m args below meth c H locs cells slots Qf (F0 m pc lsa (st.map (vv G))))
    (k : WP G δ mc ms y pc' ls st' σ Q) : WP G δ mc ms y pc ls st σ Q :=
  fun p e R s m args below meth c H locs cells slots lsa Qf C hH hS hl hst hc hs hf hlo hr => h C hl hst (k p e R s m args below meth c H locs cells slots lsa Qf C hH hS hl (ok hst) hc hs hf hlo hr)
/-- fewer known locals -/
def lsle : List V → List V → Prop
  | [], [] => True
  | a :: l, b :: r => (a = vn ∨ a = b) ∧ lsle l r
  | _, _ => False
theorem lsle_len : ∀ (l r : List V), lsle l r → l.length = r.length
  | [], [], _ => rfl
  | _ :: l, _ :: r, h => by simp [lsle_len l r h.2]
theorem lsle_at : ∀ (l r : List V) (i : Nat) (v : V), lsle l r → l[i]? = some v → v ≠ vn → r[i]? = some v
  | [], [], _, _, _, h, _ => by simp at h
  | a :: l, b :: r, 0, v, h, h1, h2 => by
    simp only [List.getElem?_cons_zero, Option.some.injEq] at h1 ⊢
    rcases h.1 with z | z
    · exact absurd (h1 ▸ z) h2
    · rw [← z]; exact h1
  | a :: l, b :: r, i + 1, v, h, h1, h2 => by
    simp only [List.getElem?_cons_succ] at h1 ⊢
    exact lsle_at l r i v h.2 h1 h2
theorem wp_fg {ls' : List V} (h : lsle ls' ls) (k : WP G δ mc ms y pc ls' st σ Q) : WP G δ mc ms y pc ls st σ Q :=
  fun p e R s m args below meth c H locs cells slots lsa Qf C hH hS hl => k p e R s m args below meth c H locs cells slots lsa Qf C hH hS
    ⟨lv_mono hl.1 fun q hq => by
      obtain ⟨v, h1, h2, h3⟩ := lvl_mem.mp hq
      exact lvl_mem.mpr ⟨v, lsle_at _ _ _ _ h h1 h2, h2, h3⟩, (lsle_len _ _ h).trans hl.2.1, fun v hv => by
      obtain ⟨i, hi⟩ := List.mem_iff_getElem?.mp hv
      by_cases e : v = vn
      · rw [e]; exact trivial
      · exact hl.2.2 v (List.mem_of_getElem? (lsle_at _ _ _ _ h hi e))⟩
end GEN
