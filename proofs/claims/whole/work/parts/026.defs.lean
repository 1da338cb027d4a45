/-- a method: its class, name, bytes, locals, what it answers -/
abbrev Md : Type := String × MethodName × ByteArray × Nat × Option FieldType
abbrev mO (y : Md) : String := y.1
abbrev mN (y : Md) : MethodName := y.2.1
abbrev mB (y : Md) : ByteArray := y.2.2.1
abbrev mL (y : Md) : Nat := y.2.2.2.1
abbrev mR (y : Md) : Option FieldType := y.2.2.2.2
abbrev CL : List vw_C := vwCl
def ctys (ci : Nat) : Nat → FieldType := match ci with
  | 0 => tyX0
  | 1 => tyX1
  | 2 => tyX2
  | 3 => tyX3
  | 4 => tyX4
  | 5 => tyX5
  | 6 => tyX6
  | 7 => tyX7
  | 8 => tyX8
  | _ => tyX9
def cN (ci : Nat) : Nat := match ci with
  | 0 => 4
  | 1 => 3
  | 2 => 11
  | 3 => 8
  | 4 => 6
  | 5 => 9
  | 6 => 2
  | 7 => 13
  | 8 => 6
  | _ => 31
def cq (ci : Nat) : vw_C := match ci with
  | 0 => (RX0, TX0, 4)
  | 1 => (RX1, TX1, 3)
  | 2 => (RX2, TX2, 11)
  | 3 => (RX3, TX3, 8)
  | 4 => (RX4, TX4, 6)
  | 5 => (RX5, TX5, 9)
  | 6 => (RX6, TX6, 2)
  | 7 => (RX7, TX7, 13)
  | 8 => (RX8, TX8, 6)
  | _ => (RX9, TX9, 31)
def LW : List Cond := lw_tbl.filter goodWord
def isNw (w : Cond) : Bool := match w with
  | .fieldLinkNest .. => true
  | .methodLinkNest .. => true
  | _ => false
def NW : List Cond := lw_tbl.filter isNw
theorem LW_good : GoodIn LW LW := fun w h => ⟨h, good_of_word (List.mem_filter.mp h).2⟩
theorem lw_at {w : Cond} (i : Nat) (h : lw_tbl[i]? = some w) (g : goodWord w = true) : w ∈ LW := List.mem_filter.mpr ⟨List.mem_of_getElem? h, g⟩
theorem nw_at {w : Cond} (i : Nat) (h : lw_tbl[i]? = some w) (g : isNw w = true) : w ∈ NW := List.mem_filter.mpr ⟨List.mem_of_getElem? h, g⟩
theorem inLW {ws : List Cond} (h : ∀ w ∈ ws, w ∈ lw_tbl) (g : ws.all goodWord = true) : ∀ w ∈ ws, w ∈ LW := fun w hw => List.mem_filter.mpr ⟨h w hw, List.all_eq_true.mp g w hw⟩
def FLK (own : String) (idx ci k : Nat) : Prop := Cond.fieldLink own idx (cq ci).1 ((cq ci).2.1 k).2.1 ((cq ci).2.1 k).2.2.1 ∈ LW ∨ Cond.fieldLinkNest own idx (cq ci).1 ((cq ci).2.1 k).2.1 ((cq ci).2.1 k).2.2.1 "LitByLosers" ∈ NW
/-- a method's words hold -/
def MOK (y : Md) (n : Nat) : Prop := Cond.code (mN y) (mB y) (mL y) (mR y) ∈ LW ∧ Cond.initialized (mO y) ∈ LW ∧ plainName (mN y).cls = true ∧ (mN y).cls = mO y ∧ mL y ≤ 21 ∧ (mO y ≠ "java/lang/invoke/MethodHandle" ∧ mO y ≠ "java/lang/invoke/VarHandle") ∧ (parseMethodDescriptor (mN y).desc).map (fun d => d.parameters.length) = some n
theorem lw_m {w : Cond} (h : w ∈ lw_tbl) (g : goodWord w = true) : w ∈ LW := List.mem_filter.mpr ⟨h, g⟩
theorem nw_m {w : Cond} (h : w ∈ lw_tbl) (g : isNw w = true) : w ∈ NW := List.mem_filter.mpr ⟨h, g⟩
theorem tin0 {w : Cond} (i : Nat) (h : (k2_sels lw_privs)[i]? = some w) : w ∈ lw_tbl := List.mem_append_left _ (List.mem_of_getElem? h)
theorem tin1 {w : Cond} (i : Nat) (h : tables_1_1[i]? = some w) : w ∈ lw_tbl := List.mem_append_right _ (List.mem_append_left _ (List.mem_of_getElem? h))
theorem tin2 {w : Cond} (i : Nat) (h : tables_1_2[i]? = some w) : w ∈ lw_tbl := List.mem_append_right _ (List.mem_append_right _ (List.mem_append_left _ (List.mem_of_getElem? h)))
theorem tin3 {w : Cond} (i : Nat) (h : tables_1_3[i]? = some w) : w ∈ lw_tbl := List.mem_append_right _ (List.mem_append_right _ (List.mem_append_right _ (List.mem_append_left _ (List.mem_of_getElem? h))))
theorem tin4 {w : Cond} (i : Nat) (h : tables_1_4[i]? = some w) : w ∈ lw_tbl := List.mem_append_right _ (List.mem_append_right _ (List.mem_append_right _ (List.mem_append_right _ (List.mem_append_left _ (List.mem_of_getElem? h)))))
theorem tin5 {w : Cond} (i : Nat) (h : tables_1_5[i]? = some w) : w ∈ lw_tbl := List.mem_append_right _ (List.mem_append_right _ (List.mem_append_right _ (List.mem_append_right _ (List.mem_append_right _ (List.mem_append_left _ (List.mem_of_getElem? h))))))
theorem tin6 {w : Cond} (i : Nat) (h : tables_1_6[i]? = some w) : w ∈ lw_tbl := List.mem_append_right _ (List.mem_append_right _ (List.mem_append_right _ (List.mem_append_right _ (List.mem_append_right _ (List.mem_append_right _ (List.mem_append_left _ (List.mem_of_getElem? h)))))))
theorem tin7 {w : Cond} (i : Nat) (h : tables_1_7[i]? = some w) : w ∈ lw_tbl := List.mem_append_right _ (List.mem_append_right _ (List.mem_append_right _ (List.mem_append_right _ (List.mem_append_right _ (List.mem_append_right _ (List.mem_append_right _ (List.mem_append_left _ (List.mem_of_getElem? h))))))))
theorem tin8 {w : Cond} (i : Nat) (h : tables_1_8[i]? = some w) : w ∈ lw_tbl := List.mem_append_right _ (List.mem_append_right _ (List.mem_append_right _ (List.mem_append_right _ (List.mem_append_right _ (List.mem_append_right _ (List.mem_append_right _ (List.mem_append_right _ (List.mem_of_getElem? h))))))))
