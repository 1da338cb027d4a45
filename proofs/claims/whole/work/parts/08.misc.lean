theorem catS_len : ∀ l : List V, catS l ≤ 2 * l.length
  | [] => Nat.le_refl _
  | v :: t => by
    have ih := catS_len t
    unfold catS at ih ⊢
    simp only [List.map_cons, List.sum_cons, List.length_cons]
    have : (if isL v = true then 2 else 1) ≤ 2 := by split <;> omega
    omega
section MISC
variable {G : GT} {δ mc ms : Nat} {y : Md} {pc idx : Nat} {ls st : List V} {T : List Ty} {h hl : Nat → Int → Int} {r : Nat → Int → Nat} {σ : Hp} {Q : V → Hp → Prop}
theorem wp_objI {o : Nat} (hd : decode (mB y) pc = .ok (.invokespecial idx, 3)) (hl : Cond.methodLink (mO y) idx Lib.objectInit ∈ LW) (hi : Cond.instanceMethod Lib.objectInit ∈ LW) (hc : Cond.code Lib.objectInit ⟨#[0xb1]⟩ 1 none ∈ LW) (hs : st.length ≤ 100) (hδ : δ < 2000)
    (k : WP G δ mc ms y (pc + 3) ls st σ Q) : WP G δ mc ms y pc ls (vr o :: st) σ Q :=
  fun p e R s m args below meth c H locs cells slots lsa Qf C hH hS hL hst hcs hss hf hlo hr => by
    have hts := C.2.2.2.2.1
    refine W.objInit C.exec C.bytes C.2.2.2.1 (hts _ hl) (hts _ hi) (hts _ hc) rfl (by rw [C.2.2.1]; exact hL.1.1) rfl hd (by omega) ?_ (k p e R s m args below meth c H locs cells slots lsa Qf C hH hS hL (ok_t hst) hcs hss hf hlo hr)
    have h1 := catS_le (G := G) st
    have h2 := catS_len st
    show 2 * 0 + _ + 12 ≤ R.locals
    rw [h1]
    omega
theorem wp_mmin {a b : Int} (hd : decode (mB y) pc = .ok (.invokestatic idx, 3)) (hl : Cond.methodLink (mO y) idx Lib.Math.min.name ∈ LW) (h1 : Cond.static Lib.Math.min.name ∈ LW) (h2 : Cond.initialized "java/lang/Math" ∈ LW) (h3 : Cond.code Lib.Math.min.name Lib.Math.min.code 2 (some .int) ∈ LW) (hs : st.length ≤ 100) (hδ : δ < 2000)
    (k : WP G δ mc ms y (pc + 3) ls (vi (min a b) :: st) σ Q) : WP G δ mc ms y pc ls (vi b :: vi a :: st) σ Q :=
  fun p e R s m args below meth c H locs cells slots lsa Qf C hH hS hL hst hcs hss hf hlo hr => by
    have hts := C.2.2.2.2.1
    have ha : R32 a := ok_2 hst
    have hb : R32 b := ok_h hst
    have hm : R32 (min a b) := by unfold R32 at *; omega
    have g1 := catS_le (G := G) st
    have g2 := catS_len st
    refine va_mmin C.exec C.bytes (by rw [C.2.2.1]; exact hL.1.1.symm) C.2.2.2.1 (hts _ hl) (hts _ h1) (hts _ h2) (hts _ h3) (by omega) (by rw [g1]; omega) (by omega) (by omega) hd ?_
    have ee : (if Int32.ofInt b < Int32.ofInt a then Int32.ofInt b else Int32.ofInt a) = Int32.ofInt (min a b) := by
      by_cases q : b < a
      · rw [if_pos ((i32_lt hb ha).mpr q), Int.min_eq_right (by omega)]
      · rw [if_neg (fun z => q ((i32_lt hb ha).mp z)), Int.min_eq_left (by omega)]
    rw [ee]
    exact k p e R s m args below meth c H locs cells slots lsa Qf C hH hS hL (ok_c (v := vi (min a b)) hm (ok_t (ok_t hst))) hcs hss hf hlo hr
theorem wp_mmax {a b : Int} (hd : decode (mB y) pc = .ok (.invokestatic idx, 3)) (hl : Cond.methodLink (mO y) idx Lib.Math.max.name ∈ LW) (h1 : Cond.static Lib.Math.max.name ∈ LW) (h2 : Cond.initialized "java/lang/Math" ∈ LW) (h3 : Cond.code Lib.Math.max.name Lib.Math.max.code 2 (some .int) ∈ LW) (hs : st.length ≤ 100) (hδ : δ < 2000)
    (k : WP G δ mc ms y (pc + 3) ls (vi (max a b) :: st) σ Q) : WP G δ mc ms y pc ls (vi b :: vi a :: st) σ Q :=
  fun p e R s m args below meth c H locs cells slots lsa Qf C hH hS hL hst hcs hss hf hlo hr => by
    have hts := C.2.2.2.2.1
    have ha : R32 a := ok_2 hst
    have hb : R32 b := ok_h hst
    have hm : R32 (max a b) := by unfold R32 at *; omega
    have g1 := catS_le (G := G) st
    have g2 := catS_len st
    refine va_mmax C.exec C.bytes (by rw [C.2.2.1]; exact hL.1.1.symm) C.2.2.2.1 (hts _ hl) (hts _ h1) (hts _ h2) (hts _ h3) (by omega) (by rw [g1]; omega) (by omega) (by omega) hd ?_
    have ee : (if Int32.ofInt a < Int32.ofInt b then Int32.ofInt b else Int32.ofInt a) = Int32.ofInt (max a b) := by
      by_cases q : a < b
      · rw [if_pos ((i32_lt ha hb).mpr q), Int.max_eq_right (by omega)]
      · rw [if_neg (fun z => q ((i32_lt ha hb).mp z)), Int.max_eq_left (by omega)]
    rw [ee]
    exact k p e R s m args below meth c H locs cells slots lsa Qf C hH hS hL (ok_c (v := vi (max a b)) hm (ok_t (ok_t hst))) hcs hss hf hlo hr
/-- System.arraycopy of ints -/
def cpy (h : Nat → Int → Int) (a0 : Nat) (sp : Int) (a : Nat) (dp n : Int) : Nat → Int → Int := fun q j => if q = a ∧ dp ≤ j ∧ j < dp + n then h a0 (sp + (j - dp)) else h q j
theorem wp_acopy {o0 o n0 n1 : Nat} {sp dp n : Int} (hd : decode (mB y) pc = .ok (.invokestatic idx, 3)) (hlk : Cond.methodLink (mO y) idx arraycopyName ∈ LW) (hnat : Cond.native arraycopyName ∈ LW) (hstat : Cond.static arraycopyName ∈ LW) (hini : Cond.initialized "java/lang/System" ∈ LW) (ht0 : ty T o0 = some (.inr (0, n0))) (ht : ty T o = some (.inr (0, n1))) (h1 : 0 ≤ sp) (h2 : 0 ≤ dp) (h3 : 0 ≤ n) (h4 : sp + n ≤ n0) (h5 : dp + n ≤ n1) (hs : st.length ≤ 100) (hδ : δ < 2000)
    (k : WP G δ mc ms y (pc + 3) ls st (T, cpy h o0 sp o dp n, hl, r) Q) : WP G δ mc ms y pc ls (vi n :: vi dp :: vr o :: vi sp :: vr o0 :: st) (T, h, hl, r) Q :=
  fun p e R s m args below meth c H locs cells slots lsa Qf C hH hS hL hst hcs hss hf hlo hr => by
    have hts := C.2.2.2.2.1
    have rn : R32 n := ok_h hst
    have rd : R32 dp := ok_2 hst
    have rs : R32 sp := ok_2 (ok_t (ok_t hst))
    have cn := cl_of rn
    have cd := cl_of rd
    have cs := cl_of rs
    have en := i32_to rn
    have ed := i32_to rd
    have es := i32_to rs
    have g1 := catS_le (G := G) st
    have g2 := catS_len st
    have g3 : nativeFrameWords "java/lang/System" "arraycopy" 5 ≤ 100 := by decide +kernel
    have hc0 : H[gB G + o0]? = some (vp_cell (gA G 0) (n0, .inl (fun j => Int32.ofInt (h o0 j)))) := hH.2.1 _ _ (arr_at (G := G) ht0)
    have hc1 : H[gB G + o]? = some (vp_cell (gA G 0) (n1, .inl (fun j => Int32.ofInt (h o j)))) := hH.2.1 _ _ (arr_at (G := G) ht)
    obtain ⟨-, k0, hk0, cm0, hkk0⟩ := (C.2.2.2.2.2.1.2 0 _ rfl).1 n0 (fun j => .int (Int32.ofInt (h o0 j)))
    obtain ⟨-, k1, hk1, cm1, hkk1⟩ := (C.2.2.2.2.2.1.2 0 _ rfl).1 n1 (fun j => .int (Int32.ofInt (h o j)))
    intro T0 hT X
    obtain ⟨vm', X', step⟩ := X.arraycopy C.exec C.2.2.2.1 (hts _ hlk) (hts _ hnat) (hts _ hstat) (hts _ hini) (src := gB G + o0) (dst := gB G + o) (cs := vp_cell (gA G 0) (n0, .inl (fun j => Int32.ofInt (h o0 j)))) (cd := vp_cell (gA G 0) (n1, .inl (fun j => Int32.ofInt (h o j)))) (srcPos := Int32.ofInt sp) (destPos := Int32.ofInt dp) (n := Int32.ofInt n) (by rw [hT]; exact hc0) (by rw [hT]; exact hc1)
      (fun _ h => by cases h) (fun _ h => by cases h) (fun h => by cases h) (fun h => by cases h) hk0 hk1 hkk0 hkk1 rfl (fun z => absurd ((i32_lt rs R32_0).mp z) (by omega)) (fun z => absurd ((i32_lt rd R32_0).mp z) (by omega)) (fun z => absurd ((i32_lt rn R32_0).mp z) (by omega))
      (by rw [es, en]; show ¬ _ > ((arrV (gA G 0) n0 (fun j => .int (Int32.ofInt (h o0 j)))).slots.size : Int); rw [arrV_size]; omega)
      (by rw [ed, en]; show ¬ _ > ((arrV (gA G 0) n1 (fun j => .int (Int32.ofInt (h o j)))).slots.size : Int); rw [arrV_size]; omega)
      (fun vm₁ _ i hi => by
        rw [cn] at hi
        have e : (vp_cell (gA G 0) (n0, .inl (fun j => Int32.ofInt (h o0 j)))).slots.getD ((Int32.ofInt sp).toNatClampNeg + i) .null = .int (Int32.ofInt (h o0 ((sp.toNat + i : Nat) : Int))) := by
          show (arrV (gA G 0) n0 (fun j => .int (Int32.ofInt (h o0 j)))).slots.getD _ _ = _
          rw [Array.getD_eq_getD_getElem?, cs, arrV_read _ _ (by omega)]
          rfl
        refine ⟨?_, ?_⟩
        · rw [e]
          rfl
        · rw [e]
          exact trivial)
      (g := F0 m pc lsa ((vi n :: vi dp :: vr o :: vi sp :: vr o0 :: st).map (vv G))) rfl (by rw [C.2.2.1]; exact hL.1.1) (rest := st.map (vv G)) rfl (by rw [C.2.1]; exact hd) (by omega) (by show 2 * 0 + _ + _ ≤ _; rw [g1]; omega)
    have e1 : copied (vp_cell (gA G 0) (n0, .inl (fun j => Int32.ofInt (h o0 j)))) (vp_cell (gA G 0) (n1, .inl (fun j => Int32.ofInt (h o j)))) (Int32.ofInt sp) (Int32.ofInt dp) (Int32.ofInt n) = vp_cell (gA G 0) (n1, .inl (va_cpy (fun j => Int32.ofInt (h o0 j)) (fun j => Int32.ofInt (h o j)) (Int32.ofInt sp).toNatClampNeg (Int32.ofInt dp).toNatClampNeg (Int32.ofInt n).toNatClampNeg)) := va_copied (fun z => Value.int z) (gA G 0) (gA G 0) (n0 := n0) (n1 := n1) (sp := (Int32.ofInt sp).toNatClampNeg) (dp := (Int32.ofInt dp).toNatClampNeg) (n := (Int32.ofInt n).toNatClampNeg) (fun j : Nat => Int32.ofInt (h o0 j)) (fun j : Nat => Int32.ofInt (h o j)) (by rw [cs, cn]; omega)
    have e2 : va_cpy (fun j : Nat => Int32.ofInt (h o0 j)) (fun j : Nat => Int32.ofInt (h o j)) (Int32.ofInt sp).toNatClampNeg (Int32.ofInt dp).toNatClampNeg (Int32.ofInt n).toNatClampNeg = fun j : Nat => Int32.ofInt (cpy h o0 sp o dp n o j) := by
      funext j
      rw [cs, cn, cd]
      unfold va_cpy cpy
      by_cases q : dp.toNat ≤ j ∧ j < dp.toNat + n.toNat
      · have q3 : ((sp.toNat + (j - dp.toNat) : Nat) : Int) = sp + (j - dp) := by have := q.1; omega
        rw [if_pos q, if_pos ⟨rfl, by have := q.1; omega, by have := q.2; omega⟩]; show Int32.ofInt (h o0 ((sp.toNat + (j - dp.toNat) : Nat) : Int)) = _; rw [q3]
      · rw [if_neg q, if_neg (fun z => q ⟨by have := z.2.1; omega, by have := z.2.2; omega⟩)]
    rw [e1, e2] at X' step
    generalize hnew : vp_cell (gA G 0) (n1, .inl (fun j => Int32.ofInt (cpy h o0 sp o dp n o j))) = cnew at X' step
    have hlt : gB G + o < H.size := (Array.getElem?_eq_some_iff.mp hc1).1
    have hheap : ((T0.setVm vm').setCell (gB G + o) cnew).heap = H.setIfInBounds (gB G + o) cnew := by rw [← hT]; rfl
    have oq : ∀ q : Nat, q ≠ gB G + o → (H.setIfInBounds (gB G + o) cnew)[q]? = H[q]? := fun q hq => by simp [Array.getElem?_setIfInBounds, Ne.symm hq]
    have hpos := (ty_pos ht).1
    have hAo : AG G (gB G + o) := show gB G < gB G + o by omega
    have hR' : ∀ o' k', R32 (cpy h o0 sp o dp n o' k') := fun o' k' => by
      unfold cpy
      split
      · exact hH.2.2.1 _ _
      · exact hH.2.2.1 _ _
    have heo : eqOff (T, h, hl, r) (T, cpy h o0 sp o dp n, hl, r) o := ⟨rfl, fun q hq j => ⟨by show cpy _ _ _ _ _ _ _ _ = _; unfold cpy; rw [if_neg (fun z => hq z.1)], rfl, rfl⟩⟩
    obtain ⟨t, a1, b1⟩ := k p e R s m args below meth c (H.setIfInBounds (gB G + o) cnew) _ cells slots lsa Qf C (HR_put hH heo ht (show (H.setIfInBounds (gB G + o) cnew)[gB G + o]? = some (vp_cell (gA G 0) (n1, .inl (fun j => Int32.ofInt (cpy h o0 sp o dp n o j)))) by rw [hnew]; simp [Array.getElem?_setIfInBounds, hlt]) (by simp) oq hR' hH.2.2.2)
      ⟨by simp; exact hS.1, fun q q1 q2 => by
        rw [oq q (fun e => q2 (by rw [e]; exact hAo))]
        exact hS.2.1 q q1 q2, fun q hq => by
        rcases List.mem_append.mp hq with h | h
        · exact hS.2.2 q h
        · obtain ⟨z, -, hz⟩ := List.mem_map.mp h
          rw [← hz]
          exact hAo⟩ hL (ok_t (ok_t (ok_t (ok_t (ok_t hst))))) hcs hss hf hlo hr _ hheap X'
    exact ⟨t, step t a1, b1⟩
/-- the script -/
theorem wp_slen (hd : decode (mB y) pc = .ok (.arraylength, 1)) (k : WP G δ mc ms y (pc + 1) ls (vi (gL G) :: st) σ Q) : WP G δ mc ms y pc ls (vs 1 :: st) σ Q :=
  fun p e R s m args below meth c H locs cells slots lsa Qf C hH hS hL hst hcs hss hf hlo hr => by
    obtain ⟨o1, o2, o3, o4, -⟩ := C.2.2.2.2.2.2.2.2.1
    have w := k p e R s m args below meth c H locs cells slots lsa Qf C hH hS hL (ok_c (v := vi (gL G)) (show R32 _ from ⟨by omega, by omega⟩) (ok_t hst)) hcs hss hf hlo hr
    have hb : gs G < s.heap.size := by
      obtain ⟨scr, e, -⟩ := o1
      exact (Array.getElem?_eq_some_iff.mp e).1
    exact va_slen C.exec C.bytes o1 hb (Nat.not_lt.mpr o2) hS hd (by rw [← Int32.ofInt_eq_ofNat]; exact w)
theorem wp_sld {i : Int} (hd : decode (mB y) pc = .ok (.iaload, 1)) (h0 : 0 ≤ i) (h1 : i < gL G) (k : WP G δ mc ms y (pc + 1) ls (vi (gx G i.toNat) :: st) σ Q) : WP G δ mc ms y pc ls (vi i :: vs 1 :: st) σ Q :=
  fun p e R s m args below meth c H locs cells slots lsa Qf C hH hS hL hst hcs hss hf hlo hr => by
    obtain ⟨o1, o2, o3, o4, -⟩ := C.2.2.2.2.2.2.2.2.1
    have hi : R32 i := ok_h hst
    have w := k p e R s m args below meth c H locs cells slots lsa Qf C hH hS hL (ok_c (v := vi (gx G i.toNat)) (o3 _) (ok_t (ok_t hst))) hcs hss hf hlo hr
    have hb : gs G < s.heap.size := by
      obtain ⟨scr, e, -⟩ := o1
      exact (Array.getElem?_eq_some_iff.mp e).1
    exact va_sld C.exec C.bytes o1 hb (Nat.not_lt.mpr o2) hS (vin_of hi h0 h1) hd (by rw [cl_of hi]; exact w)
end MISC
