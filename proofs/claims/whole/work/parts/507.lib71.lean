/-! the start: what stands at the law's entry -/
def nar : List Cond := flatC (Jvm.Cond.and given_1 narrow_1)
def tmW : Term := .string "LitByLosers$Reader" 97
def elW (j : Nat) : Cond := .eq (.elem (.field tmW "java/lang/String" "value" "[B") (.int (Int32.ofNat j))) (.int (byW.getD j 0))
set_option maxRecDepth 100000 in
theorem fl_el : ∀ j : Nat, j < 146 → nar[33 + j]? = some (elW j) := by decide +kernel
set_option maxRecDepth 100000 in
theorem fl_ex : nar[29]? = some (.exactly tmW "java/lang/String") := by decide +kernel
set_option maxRecDepth 100000 in
theorem fl_co : nar[30]? = some (.eq (.field tmW "java/lang/String" "coder" "B") (.int 0)) := by decide +kernel
set_option maxRecDepth 100000 in
theorem fl_ar : nar[31]? = some (.arrayOf (.field tmW "java/lang/String" "value" "[B") .byte) := by decide +kernel
set_option maxRecDepth 100000 in
theorem fl_le : nar[32]? = some (.eq (.length (.field tmW "java/lang/String" "value" "[B")) (.int (Int32.ofNat 146))) := by decide +kernel
set_option maxRecDepth 100000 in
theorem fl_cs : nar[4]? = some (.eq (.static "java/lang/String" "COMPACT_STRINGS" "Z") (.int 1)) := by decide +kernel
set_option maxRecDepth 100000 in
theorem fl_sf : nar[5]? = some (.isRef (.static "jdk/internal/util/Preconditions" "SIOOBE_FORMATTER" "Ljava/util/function/BiFunction;")) := by decide +kernel
/-- the classes, as the tables have them -/
theorem k_ex {s : State} {args : Array Value} (hL : ∀ w ∈ LW, w.before args s = true) : ∃ D : va_G, ∀ (k : Nat) (q : vw_C), CL[k]? = some q → u_Kn s q.1 q.2.1 q.2.2 (D.1 k) (D.2 k) := by
  have one : ∀ k, k < 10 → ∃ x : ClassId × (Nat → Nat), u_Kn s (cq k).1 (cq k).2.1 (cq k).2.2 x.1 x.2 := by
    intro k hk
    have hi : ∃ n, Cond.instantiable (cq k).1 n ∈ LW := by
      match k, hk with
      | 0, _ => exact ⟨_, in_X0⟩
      | 1, _ => exact ⟨_, in_X1⟩
      | 2, _ => exact ⟨_, in_X2⟩
      | 3, _ => exact ⟨_, in_X3⟩
      | 4, _ => exact ⟨_, in_X4⟩
      | 5, _ => exact ⟨_, in_X5⟩
      | 6, _ => exact ⟨_, in_X6⟩
      | 7, _ => exact ⟨_, in_X7⟩
      | 8, _ => exact ⟨_, in_X8⟩
      | 9, _ => exact ⟨_, in_X9⟩
    obtain ⟨n, hi⟩ := hi
    obtain ⟨c, i, h⟩ := u_known hL (CQ_ok k hk).1 (hL _ hi)
    exact ⟨(c, i), h⟩
  have all : ∀ k : Nat, ∃ x : ClassId × (Nat → Nat), k < 10 → u_Kn s (cq k).1 (cq k).2.1 (cq k).2.2 x.1 x.2 := by
    intro k
    by_cases hk : k < 10
    · obtain ⟨x, h⟩ := one k hk
      exact ⟨x, fun _ => h⟩
    · obtain ⟨x, -⟩ := one 0 (by decide)
      exact ⟨x, fun h => absurd h hk⟩
  obtain ⟨f, hf⟩ := Classical.axiomOfChoice all
  refine ⟨(fun k => (f k).1, fun k => (f k).2), fun k q hq => ?_⟩
  have hk : k < 10 := (List.getElem?_eq_some_iff.mp hq).1
  have e := (CQ_ok k hk).2.1
  obtain rfl : cq k = q := Option.some.inj (e.symm.trans hq)
  exact hf k hk
theorem a_prim {s : State} {args : Array Value} {t : FieldType} (h : (Cond.arrayClass t).before args s = true) : ∃ c : ClassId, ArrOfT s c t ∧ s.vm.findClass ("[" ++ t.toString) = some c := by
  obtain ⟨c, k, comp, h1, h2, h3⟩ := Cond.arrayClass_spec h
  exact ⟨c, fun n z => ⟨fun _ g => (by cases g), k, h2, comp, h3⟩, h1⟩
theorem a_obj {s : State} {C : String} (h : va_AO C s) : ∃ c : ClassId, ArrOfT s c (.object C) ∧ va_RA s c (.object C) := by
  obtain ⟨comp, c, k, h1, h2, h3, h4, h5⟩ := Cond.arrayOver_spec h
  exact ⟨c, fun n z => ⟨fun _ g => (by cases g), k, h3, comp, h4⟩, k, comp, h3, h4, h1, h5⟩
/-- the array classes -/
theorem a_ex {s : State} {args : Array Value} (hL : ∀ w ∈ LW, w.before args s = true) (h3 : va_AO "LitByLosers$Script" s) (h4 : va_AO "LitByLosers$State" s) : ∃ f : Nat → ClassId, ∀ (k : Nat) (q : ClassId × FieldType), [(f 0, FieldType.int), (f 1, .boolean), (f 2, .long), (f 3, .object "LitByLosers$Script"), (f 4, .object "LitByLosers$State")][k]? = some q → ArrOfT s q.1 q.2 ∧ va_RA s q.1 q.2 := by
  obtain ⟨c0, a0, b0⟩ := a_prim (hL _ ac_int)
  obtain ⟨c1, a1, b1⟩ := a_prim (hL _ ac_boolean)
  obtain ⟨c2, a2, b2⟩ := a_prim (hL _ ac_long)
  obtain ⟨c3, a3, b3⟩ := a_obj h3
  obtain ⟨c4, a4, b4⟩ := a_obj h4
  refine ⟨fun k => match k with
    | 0 => c0
    | 1 => c1
    | 2 => c2
    | 3 => c3
    | _ => c4, fun k q hq => ?_⟩
  match k, hq with
  | 0, hq => cases hq; exact ⟨a0, b0⟩
  | 1, hq => cases hq; exact ⟨a1, b1⟩
  | 2, hq => cases hq; exact ⟨a2, b2⟩
  | 3, hq => cases hq; exact ⟨a3, b3⟩
  | 4, hq => cases hq; exact ⟨a4, b4⟩
  | k + 5, hq => simp at hq
set_option maxRecDepth 100000 in
/-- the words' text -/
theorem s_ex {args : Array Value} {s : State} {A : Nat → Prop} (hn : ∀ w ∈ nar, w.before args s = true) (hts : ∀ w ∈ lw_tbl, w.before args s = true) (hA : ∀ a : Nat, a < s.heap.size → ¬ A a) : ∃ q v : Nat, vk_S 1 [146] [byW] (fun _ => q) (fun _ => v) A s s.heap ∧ vk_R "LitByLosers$Reader" 97 txW q s := by
  have z : ∀ i : Nat, i < 1 → i = 0 := fun i h => by omega
  obtain ⟨K, V1, h1, h2⟩ := vk_Sof (args := args) (s := s) (N := 1) (tm := fun _ => tmW) (len := [146]) (byt := [byW]) (A := A)
    (fun i hi => by obtain rfl := z i hi; show 146 < 2 ^ 31; omega)
    (fun i hi => hn _ (List.mem_of_getElem? fl_ex))
    (fun i hi => hn _ (List.mem_of_getElem? fl_co))
    (fun i hi => hn _ (List.mem_of_getElem? fl_ar))
    (fun i hi => by obtain rfl := z i hi; exact hn _ (List.mem_of_getElem? fl_le))
    (fun i hi j hj => by
      obtain rfl := z i hi
      show (Cond.eq (.elem (.field tmW "java/lang/String" "value" "[B") (.int (Int32.ofNat j))) (.int ((([byW] : List (List Int32)).getD 0 []).getD j 0))).before args s = true
      rw [List.getD_cons_zero]
      exact hn (elW j) (List.mem_of_getElem? (fl_el j hj)))
    (fun i j hi hj hij => absurd ((z i hi).trans (z j hj).symm) hij) hA
  refine ⟨K 0, V1 0, ⟨fun i hi => by obtain rfl := z i hi; exact h1.1 0 hi, fun i j hi hj _ => (z i hi).trans (z j hj).symm⟩, vk_R.of (hts _ (tin2 147 rfl)) (h2 0 (by decide))⟩
theorem r_ex {s : State} {args : Array Value} {t : Term} (h : (Cond.isRef t).before args s = true) : ∃ f : Option Nat, t.eval args s none [] s = some (va_rf f) := by
  obtain ⟨v, hv, hr⟩ := Cond.isRef_spec h
  cases v with
  | null => exact ⟨none, hv⟩
  | ref a => exact ⟨some a, hv⟩
  | _ => simp [Value.isRef] at hr
theorem nw_ok {w : Cond} (h : isNw w = true) : w.onTables = true := by
  cases w <;> first | rfl | (simp [isNw] at h; done)
