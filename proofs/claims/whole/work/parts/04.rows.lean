theorem i32_of {v : Int32} {c : Int} (h : v.toInt = c) : v = Int32.ofInt c := by rw [← h, Int32.ofInt_toInt]
theorem i64_of {v : Int64} {c : Int} (h : v.toInt = c) : v = Int64.ofInt c := by rw [← h, Int64.ofInt_toInt]
theorem i32_to {a : Int} (h : R32 a) : (Int32.ofInt a).toInt = a := Int32.toInt_ofInt_of_le (by have := h.1; omega) (by have := h.2; omega)
theorem i64_to {a : Int} (h : R64 a) : (Int64.ofInt a).toInt = a := Int64.toInt_ofInt_of_le (by have := h.1; omega) (by have := h.2; omega)
theorem bm32 {a : Int} (h : R32 a) : a.bmod (2 ^ 32) = a := Int.bmod_eq_of_le (by have := h.1; omega) (by have := h.2; omega)
theorem bm64 {a : Int} (h : R64 a) : a.bmod (2 ^ 64) = a := Int.bmod_eq_of_le (by have := h.1; omega) (by have := h.2; omega)
theorem i32_R (v : Int32) : R32 v.toInt := ⟨by have := v.le_toInt; simpa using this, by have := v.toInt_lt; simpa using this⟩
theorem i64_R (v : Int64) : R64 v.toInt := ⟨by have := v.le_toInt; simpa using this, by have := v.toInt_lt; simpa using this⟩
theorem R32_64 {a : Int} (h : R32 a) : R64 a := ⟨by have := h.1; omega, by have := h.2; omega⟩
theorem i32_add {a b : Int} (ha : R32 a) (hb : R32 b) (h : R32 (a + b)) : Int32.ofInt a + Int32.ofInt b = Int32.ofInt (a + b) := i32_of (by rw [Int32.toInt_add, i32_to ha, i32_to hb]; exact bm32 h)
theorem i32_sub {a b : Int} (ha : R32 a) (hb : R32 b) (h : R32 (a - b)) : Int32.ofInt a - Int32.ofInt b = Int32.ofInt (a - b) := i32_of (by rw [Int32.toInt_sub, i32_to ha, i32_to hb]; exact bm32 h)
theorem i32_mul {a b : Int} (ha : R32 a) (hb : R32 b) (h : R32 (a * b)) : Int32.ofInt a * Int32.ofInt b = Int32.ofInt (a * b) := i32_of (by rw [Int32.toInt_mul, i32_to ha, i32_to hb]; exact bm32 h)
theorem i32_neg {a : Int} (ha : R32 a) (h : R32 (-a)) : -Int32.ofInt a = Int32.ofInt (-a) := i32_of (by rw [Int32.toInt_neg, i32_to ha]; exact bm32 h)
theorem i64_add {a b : Int} (ha : R64 a) (hb : R64 b) (h : R64 (a + b)) : Int64.ofInt a + Int64.ofInt b = Int64.ofInt (a + b) := i64_of (by rw [Int64.toInt_add, i64_to ha, i64_to hb]; exact bm64 h)
theorem i64_sub {a b : Int} (ha : R64 a) (hb : R64 b) (h : R64 (a - b)) : Int64.ofInt a - Int64.ofInt b = Int64.ofInt (a - b) := i64_of (by rw [Int64.toInt_sub, i64_to ha, i64_to hb]; exact bm64 h)
theorem i64_mul {a b : Int} (ha : R64 a) (hb : R64 b) (h : R64 (a * b)) : Int64.ofInt a * Int64.ofInt b = Int64.ofInt (a * b) := i64_of (by rw [Int64.toInt_mul, i64_to ha, i64_to hb]; exact bm64 h)
theorem i64_neg {a : Int} (ha : R64 a) (h : R64 (-a)) : -Int64.ofInt a = Int64.ofInt (-a) := i64_of (by rw [Int64.toInt_neg, i64_to ha]; exact bm64 h)
theorem i32_eq {a b : Int} (ha : R32 a) (hb : R32 b) : Int32.ofInt a = Int32.ofInt b ↔ a = b := by rw [← Int32.toInt_inj, i32_to ha, i32_to hb]
theorem i64_eq {a b : Int} (ha : R64 a) (hb : R64 b) : Int64.ofInt a = Int64.ofInt b ↔ a = b := by rw [← Int64.toInt_inj, i64_to ha, i64_to hb]
theorem i32_lt {a b : Int} (ha : R32 a) (hb : R32 b) : Int32.ofInt a < Int32.ofInt b ↔ a < b := by rw [Int32.lt_iff_toInt_lt, i32_to ha, i32_to hb]
theorem i32_le {a b : Int} (ha : R32 a) (hb : R32 b) : Int32.ofInt a ≤ Int32.ofInt b ↔ a ≤ b := by rw [Int32.le_iff_toInt_le, i32_to ha, i32_to hb]
theorem i64_lt {a b : Int} (ha : R64 a) (hb : R64 b) : Int64.ofInt a < Int64.ofInt b ↔ a < b := by rw [Int64.lt_iff_toInt_lt, i64_to ha, i64_to hb]
theorem R32_0 : R32 0 := ⟨by omega, by omega⟩
theorem i32_0 : (0 : Int32) = Int32.ofInt 0 := rfl
theorem i32_div {a b : Int} (ha : R32 a) (hb : R32 b) (h : R32 (a.tdiv b)) : Int32.ofInt a / Int32.ofInt b = Int32.ofInt (a.tdiv b) := i32_of (by rw [Int32.toInt_div, i32_to ha, i32_to hb]; exact bm32 h)
theorem i64_div {a b : Int} (ha : R64 a) (hb : R64 b) (h : R64 (a.tdiv b)) : Int64.ofInt a / Int64.ofInt b = Int64.ofInt (a.tdiv b) := i64_of (by rw [Int64.toInt_div, i64_to ha, i64_to hb]; exact bm64 h)
theorem i32_nz {b : Int} (hb : R32 b) (h : b ≠ 0) : ¬ Int32.ofInt b = 0 := fun e => h ((i32_eq hb R32_0).mp e)
theorem i64_nz {b : Int} (hb : R64 b) (h : b ≠ 0) : ¬ Int64.ofInt b = 0 := fun e => h ((i64_eq hb (R32_64 R32_0)).mp e)
def band (a b : Int) : Int := (Int32.ofInt a &&& Int32.ofInt b).toInt
def bor (a b : Int) : Int := (Int32.ofInt a ||| Int32.ofInt b).toInt
def bxor (a b : Int) : Int := (Int32.ofInt a ^^^ Int32.ofInt b).toInt
def shl (a b : Int) : Int := (Int32.ofInt a <<< (Int32.ofInt b &&& 31)).toInt
def shr (a b : Int) : Int := (Int32.ofInt a >>> (Int32.ofInt b &&& 31)).toInt
def ushr (a b : Int) : Int := ((Int32.ofInt a).toUInt32 >>> ((Int32.ofInt b).toUInt32 &&& Int32.toUInt32 31)).toInt32.toInt
def lbor (a b : Int) : Int := (Int64.ofInt a ||| Int64.ofInt b).toInt
def lshl (a b : Int) : Int := (Int64.ofInt a <<< ((Int32.ofInt b).toInt64 &&& 63)).toInt
def lshr (a b : Int) : Int := (Int64.ofInt a >>> ((Int32.ofInt b).toInt64 &&& 63)).toInt
def l2i (a : Int) : Int := (Int64.ofInt a).toInt32.toInt
def lcmp (a b : Int) : Int := if b < a then 1 else if a = b then 0 else -1
theorem lcmp_R (a b : Int) : R32 (lcmp a b) := by unfold lcmp; split; exact ⟨by omega, by omega⟩; split <;> exact ⟨by omega, by omega⟩
theorem lcmp_eq {a b : Int} (ha : R64 a) (hb : R64 b) : lg_cmp (Int64.ofInt a) (Int64.ofInt b) = Int32.ofInt (lcmp a b) := by
  unfold lg_cmp lcmp
  have e1 : (Int64.ofInt a > Int64.ofInt b) ↔ b < a := i64_lt hb ha
  have e2 := i64_eq ha hb
  by_cases h1 : b < a
  · rw [if_pos h1, if_pos (e1.mpr h1)]; rfl
  · rw [if_neg h1, if_neg (fun q => h1 (e1.mp q))]
    by_cases h2 : a = b
    · rw [if_pos h2, if_pos (e2.mpr h2)]; rfl
    · rw [if_neg h2, if_neg (fun q => h2 (e2.mp q))]; rfl
theorem vin_of {i : Int} {n : Nat} (hi : R32 i) (h0 : 0 ≤ i) (h1 : i < n) : vp_in (Int32.ofInt i) n := by
  rw [vp_in_iff, i32_to hi]; exact ⟨h0, h1⟩
theorem cl_of {i : Int} (hi : R32 i) : (Int32.ofInt i).toNatClampNeg = i.toNat := by rw [Int32.toNatClampNeg, i32_to hi]
section ROWS
variable {G : GT} {δ mc ms : Nat} {y : Md} {pc : Nat} {ls st : List V} {σ : Hp} {Q : V → Hp → Prop}
theorem ok_c {v : V} {st : List V} (h : vOK v) : (∀ w ∈ st, vOK w) → ∀ w ∈ v :: st, vOK w := fun hs w hw => (List.mem_cons.mp hw).elim (fun e => e ▸ h) (hs w)
theorem ok_t {v : V} {st : List V} (hs : ∀ w ∈ v :: st, vOK w) : ∀ w ∈ st, vOK w := fun w hw => hs w (List.mem_cons_of_mem _ hw)
theorem ok_h {v : V} {st : List V} (hs : ∀ w ∈ v :: st, vOK w) : vOK v := hs v List.mem_cons_self
theorem ok_2 {v w : V} {st : List V} (hs : ∀ u ∈ v :: w :: st, vOK u) : vOK w := hs w (List.mem_cons_of_mem _ List.mem_cons_self)

theorem wp_iconst {n : Int} (a : Int) (hd : decode (mB y) pc = .ok (.iconst n, 1)) (hr : R32 a) (hn : Int32.ofInt n = Int32.ofInt a) (k : WP G δ mc ms y (pc + 1) ls (vi a :: st) σ Q) : WP G δ mc ms y pc ls st σ Q :=
  wp_st (ok_c (v := vi a) hr) (fun C _ _ w => lv_iconst C.exec C.bytes hd hn w) k
theorem wp_bipush {n : Int} (a : Int) (hd : decode (mB y) pc = .ok (.bipush n, 2)) (hr : R32 a) (hn : (Int8.ofInt n).toInt32 = Int32.ofInt a) (k : WP G δ mc ms y (pc + 2) ls (vi a :: st) σ Q) : WP G δ mc ms y pc ls st σ Q :=
  wp_st (ok_c (v := vi a) hr) (fun C _ _ w => lv_bipush C.exec C.bytes hd hn w) k
theorem wp_sipush {n : Int} (a : Int) (hd : decode (mB y) pc = .ok (.sipush n, 3)) (hr : R32 a) (hn : (Int16.ofInt n).toInt32 = Int32.ofInt a) (k : WP G δ mc ms y (pc + 3) ls (vi a :: st) σ Q) : WP G δ mc ms y pc ls st σ Q :=
  wp_st (ok_c (v := vi a) hr) (fun C _ _ w => lv_sipush C.exec C.bytes hd hn w) k
theorem wp_lconst {n : Fin 2} (a : Int) (hd : decode (mB y) pc = .ok (.lconst n, 1)) (hr : R64 a) (hn : Int64.ofNat (n : Nat) = Int64.ofInt a) (k : WP G δ mc ms y (pc + 1) ls (vl a :: st) σ Q) : WP G δ mc ms y pc ls st σ Q :=
  wp_st (ok_c (v := vl a) hr) (fun C _ _ w => lv_lconst C.exec C.bytes hd hn w) k
theorem wp_ldc {index : Nat} (a : Int) (hd : decode (mB y) pc = .ok (.ldc index, 2)) (hr : R32 a) (hw : Jvm.Cond.constant (mO y) index (Int32.ofInt a) ∈ LW) (k : WP G δ mc ms y (pc + 2) ls (vi a :: st) σ Q) : WP G δ mc ms y pc ls st σ Q :=
  wp_st (ok_c (v := vi a) hr) (fun C _ _ w => lv_ldc C.exec C.bytes C.2.2.2.1 (C.2.2.2.2.1 _ hw) hd w) k
theorem wp_ldcw {index : Nat} (a : Int) (hd : decode (mB y) pc = .ok (.ldc_w index, 3)) (hr : R32 a) (hw : Jvm.Cond.constant (mO y) index (Int32.ofInt a) ∈ LW) (k : WP G δ mc ms y (pc + 3) ls (vi a :: st) σ Q) : WP G δ mc ms y pc ls st σ Q :=
  wp_st (ok_c (v := vi a) hr) (fun C _ _ w => lv_ldcw C.exec C.bytes C.2.2.2.1 (C.2.2.2.2.1 _ hw) hd w) k
theorem wp_ldc2 {index : Nat} (a : Int) (hd : decode (mB y) pc = .ok (.ldc2_w index, 3)) (hr : R64 a) (hw : Jvm.Cond.constantLong (mO y) index (Int64.ofInt a) ∈ LW) (k : WP G δ mc ms y (pc + 3) ls (vl a :: st) σ Q) : WP G δ mc ms y pc ls st σ Q :=
  wp_st (ok_c (v := vl a) hr) (fun C _ _ w => lv_ldc2 C.exec C.bytes C.2.2.2.1 (C.2.2.2.2.1 _ hw) hd w) k
theorem wp_ldcS (hy : mO y = "LitByLosers$Reader") (hd : decode (mB y) pc = .ok (.ldc 97, 2)) (k : WP G δ mc ms y (pc + 2) ls (vs 0 :: st) σ Q) : WP G δ mc ms y pc ls st σ Q :=
  wp_st (ok_c (v := vs 0) trivial) (fun C _ _ w => va_ldcS C.exec C.bytes C.2.2.2.1 (by rw [hy]; exact C.2.2.2.2.2.2.2.2.1.2.2.2.2.2.1) hd w) k

theorem wp_iload_n {n : Fin 4} {i : Nat} {x : Int} (hd : decode (mB y) pc = .ok (.iload_n n, 1)) (hi : (n : Nat) = i) (hx : ls[i]? = some (vi x)) (k : WP G δ mc ms y (pc + 1) ls (vi x :: st) σ Q) : WP G δ mc ms y pc ls st σ Q :=
  wp_ls (fun _ hl => wp_st (ok_c (hl _ (List.mem_of_getElem? hx))) (fun C L _ w => lv_iload_n C.exec C.bytes hd hi (L.at hx (fun h => by cases h)) w) k)
theorem wp_iload {i : Nat} {x : Int} (hd : decode (mB y) pc = .ok (.iload i, 2)) (hx : ls[i]? = some (vi x)) (k : WP G δ mc ms y (pc + 2) ls (vi x :: st) σ Q) : WP G δ mc ms y pc ls st σ Q :=
  wp_ls (fun _ hl => wp_st (ok_c (hl _ (List.mem_of_getElem? hx))) (fun C L _ w => lv_iload C.exec C.bytes hd (L.at hx (fun h => by cases h)) w) k)
theorem wp_lload_n {n : Fin 4} {i : Nat} {x : Int} (hd : decode (mB y) pc = .ok (.lload_n n, 1)) (hi : (n : Nat) = i) (hx : ls[i]? = some (vl x)) (k : WP G δ mc ms y (pc + 1) ls (vl x :: st) σ Q) : WP G δ mc ms y pc ls st σ Q :=
  wp_ls (fun _ hl => wp_st (ok_c (hl _ (List.mem_of_getElem? hx))) (fun C L _ w => lv_lload_n C.exec C.bytes hd hi (L.at hx (fun h => by cases h)) w) k)
theorem wp_lload {i : Nat} {x : Int} (hd : decode (mB y) pc = .ok (.lload i, 2)) (hx : ls[i]? = some (vl x)) (k : WP G δ mc ms y (pc + 2) ls (vl x :: st) σ Q) : WP G δ mc ms y pc ls st σ Q :=
  wp_ls (fun _ hl => wp_st (ok_c (hl _ (List.mem_of_getElem? hx))) (fun C L _ w => lv_lload C.exec C.bytes hd (L.at hx (fun h => by cases h)) w) k)
theorem wp_aload_n {n : Fin 4} {i : Nat} {x : Nat} (hd : decode (mB y) pc = .ok (.aload_n n, 1)) (hi : (n : Nat) = i) (hx : ls[i]? = some (vr x)) (k : WP G δ mc ms y (pc + 1) ls (vr x :: st) σ Q) : WP G δ mc ms y pc ls st σ Q :=
  wp_ls (fun _ hl => wp_st (ok_c (hl _ (List.mem_of_getElem? hx))) (fun C L _ w => lv_aload_n C.exec C.bytes hd hi (L.at hx (fun h => by cases h)) w) k)
theorem wp_aload {i : Nat} {x : Nat} (hd : decode (mB y) pc = .ok (.aload i, 2)) (hx : ls[i]? = some (vr x)) (k : WP G δ mc ms y (pc + 2) ls (vr x :: st) σ Q) : WP G δ mc ms y pc ls st σ Q :=
  wp_ls (fun _ hl => wp_st (ok_c (hl _ (List.mem_of_getElem? hx))) (fun C L _ w => lv_aload C.exec C.bytes hd (L.at hx (fun h => by cases h)) w) k)
theorem wp_sload0_n {n : Fin 4} {i : Nat} (hd : decode (mB y) pc = .ok (.aload_n n, 1)) (hi : (n : Nat) = i) (hx : ls[i]? = some (vs 0)) (k : WP G δ mc ms y (pc + 1) ls (vs 0 :: st) σ Q) : WP G δ mc ms y pc ls st σ Q :=
  wp_ls (fun _ hl => wp_st (ok_c (hl _ (List.mem_of_getElem? hx))) (fun C L _ w => lv_aload_n C.exec C.bytes hd hi (L.at hx (fun h => by cases h)) w) k)
theorem wp_sload1_n {n : Fin 4} {i : Nat} (hd : decode (mB y) pc = .ok (.aload_n n, 1)) (hi : (n : Nat) = i) (hx : ls[i]? = some (vs 1)) (k : WP G δ mc ms y (pc + 1) ls (vs 1 :: st) σ Q) : WP G δ mc ms y pc ls st σ Q :=
  wp_ls (fun _ hl => wp_st (ok_c (hl _ (List.mem_of_getElem? hx))) (fun C L _ w => lv_aload_n C.exec C.bytes hd hi (L.at hx (fun h => by cases h)) w) k)
theorem wp_sload2_n {n : Fin 4} {i : Nat} (hd : decode (mB y) pc = .ok (.aload_n n, 1)) (hi : (n : Nat) = i) (hx : ls[i]? = some (vs 2)) (k : WP G δ mc ms y (pc + 1) ls (vs 2 :: st) σ Q) : WP G δ mc ms y pc ls st σ Q :=
  wp_ls (fun _ hl => wp_st (ok_c (hl _ (List.mem_of_getElem? hx))) (fun C L _ w => lv_aload_n C.exec C.bytes hd hi (L.at hx (fun h => by cases h)) w) k)
def pvL (ls : List V) (i : Nat) : Prop := ∀ w, ls[i - 1]? = some w → i ≠ 0 → isL w = false
theorem pvL_0 {ls : List V} : pvL ls 0 := fun _ _ h => absurd rfl h
theorem pvL_s {ls : List V} {i : Nat} {w : V} (h : ls[i]? = some w) (hw : isL w = false) : pvL ls (i + 1) := fun v hv _ => by
  rw [show i + 1 - 1 = i by omega, h] at hv
  cases hv
  exact hw
theorem wp_istore_n {n : Fin 4} {i : Nat} {x : Int} (hd : decode (mB y) pc = .ok (.istore_n n, 1)) (hi : (n : Nat) = i) (hp : pvL ls i) (hn : i < mL y) (k : WP G δ mc ms y (pc + 1) (ls.set i (vi x)) st σ Q) : WP G δ mc ms y pc ls (vi x :: st) σ Q :=
  fun p e R s m args below meth c H locs cells slots lsa Qf C hH hS hl hst hc hs hf hlo hr =>
    lv_istore_n C.exec C.bytes hd hi hl.1 hn rfl (fun lsa' h' => k p e R s m args below meth c H locs cells slots lsa' Qf C hH hS (hl.set1 (ok_h hst) hp h') (ok_t hst) hc hs hf hlo hr)
theorem wp_istore {i : Nat} {x : Int} (hd : decode (mB y) pc = .ok (.istore i, 2)) (hp : pvL ls i) (hn : i < mL y) (k : WP G δ mc ms y (pc + 2) (ls.set i (vi x)) st σ Q) : WP G δ mc ms y pc ls (vi x :: st) σ Q :=
  fun p e R s m args below meth c H locs cells slots lsa Qf C hH hS hl hst hc hs hf hlo hr =>
    lv_istore C.exec C.bytes hd hl.1 hn rfl (fun lsa' h' => k p e R s m args below meth c H locs cells slots lsa' Qf C hH hS (hl.set1 (ok_h hst) hp h') (ok_t hst) hc hs hf hlo hr)
theorem wp_lstore_n {n : Fin 4} {i : Nat} {x : Int} (hd : decode (mB y) pc = .ok (.lstore_n n, 1)) (hi : (n : Nat) = i) (hp : pvL ls i) (hn : i + 1 < mL y) (k : WP G δ mc ms y (pc + 1) ((ls.set i (vl x)).set (i + 1) vn) st σ Q) : WP G δ mc ms y pc ls (vl x :: st) σ Q :=
  fun p e R s m args below meth c H locs cells slots lsa Qf C hH hS hl hst hc hs hf hlo hr =>
    lv_lstore_n C.exec C.bytes hd hi hl.1 hn rfl (fun lsa' h' => k p e R s m args below meth c H locs cells slots lsa' Qf C hH hS (hl.set2 (ok_h hst) hp h') (ok_t hst) hc hs hf hlo hr)
theorem wp_lstore {i : Nat} {x : Int} (hd : decode (mB y) pc = .ok (.lstore i, 2)) (hp : pvL ls i) (hn : i + 1 < mL y) (k : WP G δ mc ms y (pc + 2) ((ls.set i (vl x)).set (i + 1) vn) st σ Q) : WP G δ mc ms y pc ls (vl x :: st) σ Q :=
  fun p e R s m args below meth c H locs cells slots lsa Qf C hH hS hl hst hc hs hf hlo hr =>
    lv_lstore C.exec C.bytes hd hl.1 hn rfl (fun lsa' h' => k p e R s m args below meth c H locs cells slots lsa' Qf C hH hS (hl.set2 (ok_h hst) hp h') (ok_t hst) hc hs hf hlo hr)
theorem wp_astore_n {n : Fin 4} {i : Nat} {x : Nat} (hd : decode (mB y) pc = .ok (.astore_n n, 1)) (hi : (n : Nat) = i) (hp : pvL ls i) (hn : i < mL y) (k : WP G δ mc ms y (pc + 1) (ls.set i (vr x)) st σ Q) : WP G δ mc ms y pc ls (vr x :: st) σ Q :=
  fun p e R s m args below meth c H locs cells slots lsa Qf C hH hS hl hst hc hs hf hlo hr =>
    lv_astore_n C.exec C.bytes hd hi hl.1 hn rfl (fun lsa' h' => k p e R s m args below meth c H locs cells slots lsa' Qf C hH hS (hl.set1 (ok_h hst) hp h') (ok_t hst) hc hs hf hlo hr)
theorem wp_astore {i : Nat} {x : Nat} (hd : decode (mB y) pc = .ok (.astore i, 2)) (hp : pvL ls i) (hn : i < mL y) (k : WP G δ mc ms y (pc + 2) (ls.set i (vr x)) st σ Q) : WP G δ mc ms y pc ls (vr x :: st) σ Q :=
  fun p e R s m args below meth c H locs cells slots lsa Qf C hH hS hl hst hc hs hf hlo hr =>
    lv_astore C.exec C.bytes hd hl.1 hn rfl (fun lsa' h' => k p e R s m args below meth c H locs cells slots lsa' Qf C hH hS (hl.set1 (ok_h hst) hp h') (ok_t hst) hc hs hf hlo hr)
theorem wp_iinc {i : Nat} {n x : Int} (hd : decode (mB y) pc = .ok (.iinc i n, 3)) (hx : ls[i]? = some (vi x)) (hn : R32 n) (hr : R32 (x + n)) (hp : pvL ls i) (hi : i < mL y) (k : WP G δ mc ms y (pc + 3) (ls.set i (vi (x + n))) st σ Q) : WP G δ mc ms y pc ls st σ Q :=
  fun p e R s m args below meth c H locs cells slots lsa Qf C hH hS hl hst hc hs hf hlo hr2 => by
    have h1 : (i, vv G (vi x)) ∈ lvl G ls := lvl_mem.mpr ⟨_, hx, (fun h => by cases h), rfl⟩
    obtain ⟨j, hj⟩ := List.mem_iff_getElem?.mp h1
    have hxo : R32 x := hl.2.2 _ (List.mem_of_getElem? hx)
    exact lv_iinc C.exec C.bytes hd hl.1 hj (v := Int32.ofInt (x + n)) (i32_add hxo hn hr) hi rfl (fun lsa' h' => k p e R s m args below meth c H locs cells slots lsa' Qf C hH hS (hl.set1 (v := vi (x + n)) hr hp h') hst hc hs hf hlo hr2)
theorem wp_iadd {a b : Int} (hd : decode (mB y) pc = .ok (.iadd, 1)) (hr : R32 (a + b)) (k : WP G δ mc ms y (pc + 1) ls (vi (a + b) :: st) σ Q) : WP G δ mc ms y pc ls (vi b :: vi a :: st) σ Q :=
  wp_st (fun h => ok_c (v := vi (a + b)) hr (ok_t (ok_t h))) (fun C _ h w => lv_iadd C.exec C.bytes hd (by rw [i32_add (ok_2 h) (ok_h h) hr]; exact w)) k
theorem wp_ladd {a b : Int} (hd : decode (mB y) pc = .ok (.ladd, 1)) (hr : R64 (a + b)) (k : WP G δ mc ms y (pc + 1) ls (vl (a + b) :: st) σ Q) : WP G δ mc ms y pc ls (vl b :: vl a :: st) σ Q :=
  wp_st (fun h => ok_c (v := vl (a + b)) hr (ok_t (ok_t h))) (fun C _ h w => lv_ladd C.exec C.bytes hd (by rw [i64_add (ok_2 h) (ok_h h) hr]; exact w)) k
theorem wp_isub {a b : Int} (hd : decode (mB y) pc = .ok (.isub, 1)) (hr : R32 (a - b)) (k : WP G δ mc ms y (pc + 1) ls (vi (a - b) :: st) σ Q) : WP G δ mc ms y pc ls (vi b :: vi a :: st) σ Q :=
  wp_st (fun h => ok_c (v := vi (a - b)) hr (ok_t (ok_t h))) (fun C _ h w => lv_isub C.exec C.bytes hd (by rw [i32_sub (ok_2 h) (ok_h h) hr]; exact w)) k
theorem wp_lsub {a b : Int} (hd : decode (mB y) pc = .ok (.lsub, 1)) (hr : R64 (a - b)) (k : WP G δ mc ms y (pc + 1) ls (vl (a - b) :: st) σ Q) : WP G δ mc ms y pc ls (vl b :: vl a :: st) σ Q :=
  wp_st (fun h => ok_c (v := vl (a - b)) hr (ok_t (ok_t h))) (fun C _ h w => lv_lsub C.exec C.bytes hd (by rw [i64_sub (ok_2 h) (ok_h h) hr]; exact w)) k
theorem wp_imul {a b : Int} (hd : decode (mB y) pc = .ok (.imul, 1)) (hr : R32 (a * b)) (k : WP G δ mc ms y (pc + 1) ls (vi (a * b) :: st) σ Q) : WP G δ mc ms y pc ls (vi b :: vi a :: st) σ Q :=
  wp_st (fun h => ok_c (v := vi (a * b)) hr (ok_t (ok_t h))) (fun C _ h w => lv_imul C.exec C.bytes hd (by rw [i32_mul (ok_2 h) (ok_h h) hr]; exact w)) k
theorem wp_lmul {a b : Int} (hd : decode (mB y) pc = .ok (.lmul, 1)) (hr : R64 (a * b)) (k : WP G δ mc ms y (pc + 1) ls (vl (a * b) :: st) σ Q) : WP G δ mc ms y pc ls (vl b :: vl a :: st) σ Q :=
  wp_st (fun h => ok_c (v := vl (a * b)) hr (ok_t (ok_t h))) (fun C _ h w => lv_lmul C.exec C.bytes hd (by rw [i64_mul (ok_2 h) (ok_h h) hr]; exact w)) k
theorem wp_ineg {a : Int} (hd : decode (mB y) pc = .ok (.ineg, 1)) (hr : R32 (-a)) (k : WP G δ mc ms y (pc + 1) ls (vi (-a) :: st) σ Q) : WP G δ mc ms y pc ls (vi a :: st) σ Q :=
  wp_st (fun h => ok_c (v := vi (-a)) hr (ok_t h)) (fun C _ h w => lv_ineg C.exec C.bytes hd (by rw [i32_neg (ok_h h) hr]; exact w)) k
theorem wp_idiv {a b : Int} (hd : decode (mB y) pc = .ok (.idiv, 1)) (hb : b ≠ 0) (hr : R32 (a.tdiv b)) (k : WP G δ mc ms y (pc + 1) ls (vi (a.tdiv b) :: st) σ Q) : WP G δ mc ms y pc ls (vi b :: vi a :: st) σ Q :=
  wp_st (fun h => ok_c (v := vi (a.tdiv b)) hr (ok_t (ok_t h))) (fun C _ h w => lv_idiv C.exec C.bytes hd (i32_nz (ok_h h) hb) (by rw [i32_div (ok_2 h) (ok_h h) hr]; exact w)) k
theorem rem32 {a b : Int} (ha : R32 a) (hb : R32 b) (h1 : R32 (a.tdiv b)) (h2 : R32 (a.tdiv b * b)) (h3 : R32 (a.tmod b)) : Int32.ofInt a - Int32.ofInt a / Int32.ofInt b * Int32.ofInt b = Int32.ofInt (a.tmod b) := by
  have e : a - a.tdiv b * b = a.tmod b := by have := Int.mul_tdiv_add_tmod a b; rw [Int.mul_comm] at this; omega
  rw [i32_div ha hb h1, i32_mul h1 hb h2, i32_sub ha h2 (by rw [e]; exact h3), e]
theorem wp_idivN {a b : Int} (hd : decode (mB y) pc = .ok (.idiv, 1)) (ha : 0 ≤ a) (hb : 0 < b) (k : WP G δ mc ms y (pc + 1) ls (vi (a / b) :: st) σ Q) : WP G δ mc ms y pc ls (vi b :: vi a :: st) σ Q :=
  wp_ls (fun hs _ => by
    have e : a.tdiv b = a / b := Int.tdiv_eq_ediv_of_nonneg ha
    have h1 : a / b ≤ a := Int.ediv_le_self b ha
    have h2 : 0 ≤ a / b := Int.ediv_nonneg ha (by omega)
    have h3 : R32 a := ok_2 hs
    exact wp_idiv hd (by omega) (by rw [e]; exact ⟨by have := h3.1; omega, by have := h3.2; omega⟩) (by rw [e]; exact k))
theorem wp_iremN {a b : Int} (hd : decode (mB y) pc = .ok (.irem, 1)) (ha : 0 ≤ a) (hb : 0 < b) (k : WP G δ mc ms y (pc + 1) ls (vi (a % b) :: st) σ Q) : WP G δ mc ms y pc ls (vi b :: vi a :: st) σ Q :=
  wp_ls (fun hs _ => by
    have e : a.tdiv b = a / b := Int.tdiv_eq_ediv_of_nonneg ha
    have em : a.tmod b = a % b := Int.tmod_eq_emod_of_nonneg ha
    have h1 : a / b ≤ a := Int.ediv_le_self b ha
    have h2 : 0 ≤ a / b := Int.ediv_nonneg ha (by omega)
    have h3 : R32 a := ok_2 hs
    have h4 : R32 b := ok_h hs
    have h5 : 0 ≤ a % b := Int.emod_nonneg a (by omega)
    have h6 : a % b < b := Int.emod_lt_of_pos a hb
    have h7 : a / b * b + a % b = a := by have := Int.mul_ediv_add_emod a b; rw [Int.mul_comm] at this; omega
    have h8 : 0 ≤ a / b * b := Int.mul_nonneg h2 (by omega)
    have h9 := h3.2
    have h10 := h4.2
    refine wp_st (fun h => ok_c (v := vi (a % b)) (show R32 _ from ⟨by omega, by omega⟩) (ok_t (ok_t h))) (fun C _ h w => lv_irem C.exec C.bytes hd (i32_nz h4 (by omega)) (by
      rw [rem32 h3 h4 (by rw [e]; exact ⟨by omega, by omega⟩) (by rw [e]; exact ⟨by omega, by omega⟩) (by rw [em]; exact ⟨by omega, by omega⟩), em]; exact w)) k)
theorem wp_lneg {a : Int} (hd : decode (mB y) pc = .ok (.lneg, 1)) (hr : R64 (-a)) (k : WP G δ mc ms y (pc + 1) ls (vl (-a) :: st) σ Q) : WP G δ mc ms y pc ls (vl a :: st) σ Q :=
  wp_st (fun h => ok_c (v := vl (-a)) hr (ok_t h)) (fun C _ h w => lv_lneg C.exec C.bytes hd (by rw [i64_neg (ok_h h) hr]; exact w)) k
theorem wp_ldiv {a b : Int} (hd : decode (mB y) pc = .ok (.ldiv, 1)) (hb : b ≠ 0) (hr : R64 (a.tdiv b)) (k : WP G δ mc ms y (pc + 1) ls (vl (a.tdiv b) :: st) σ Q) : WP G δ mc ms y pc ls (vl b :: vl a :: st) σ Q :=
  wp_st (fun h => ok_c (v := vl (a.tdiv b)) hr (ok_t (ok_t h))) (fun C _ h w => lv_ldiv C.exec C.bytes hd (i64_nz (ok_h h) hb) (by rw [i64_div (ok_2 h) (ok_h h) hr]; exact w)) k
theorem rem64 {a b : Int} (ha : R64 a) (hb : R64 b) (h1 : R64 (a.tdiv b)) (h2 : R64 (a.tdiv b * b)) (h3 : R64 (a.tmod b)) : Int64.ofInt a - Int64.ofInt a / Int64.ofInt b * Int64.ofInt b = Int64.ofInt (a.tmod b) := by
  have e : a - a.tdiv b * b = a.tmod b := by have := Int.mul_tdiv_add_tmod a b; rw [Int.mul_comm] at this; omega
  rw [i64_div ha hb h1, i64_mul h1 hb h2, i64_sub ha h2 (by rw [e]; exact h3), e]
theorem wp_ldivN {a b : Int} (hd : decode (mB y) pc = .ok (.ldiv, 1)) (ha : 0 ≤ a) (hb : 0 < b) (k : WP G δ mc ms y (pc + 1) ls (vl (a / b) :: st) σ Q) : WP G δ mc ms y pc ls (vl b :: vl a :: st) σ Q :=
  wp_ls (fun hs _ => by
    have e : a.tdiv b = a / b := Int.tdiv_eq_ediv_of_nonneg ha
    have h1 : a / b ≤ a := Int.ediv_le_self b ha
    have h2 : 0 ≤ a / b := Int.ediv_nonneg ha (by omega)
    have h3 : R64 a := ok_2 hs
    exact wp_ldiv hd (by omega) (by rw [e]; exact ⟨by have := h3.1; omega, by have := h3.2; omega⟩) (by rw [e]; exact k))
theorem wp_lremN {a b : Int} (hd : decode (mB y) pc = .ok (.lrem, 1)) (ha : 0 ≤ a) (hb : 0 < b) (k : WP G δ mc ms y (pc + 1) ls (vl (a % b) :: st) σ Q) : WP G δ mc ms y pc ls (vl b :: vl a :: st) σ Q :=
  wp_ls (fun hs _ => by
    have e : a.tdiv b = a / b := Int.tdiv_eq_ediv_of_nonneg ha
    have em : a.tmod b = a % b := Int.tmod_eq_emod_of_nonneg ha
    have h1 : a / b ≤ a := Int.ediv_le_self b ha
    have h2 : 0 ≤ a / b := Int.ediv_nonneg ha (by omega)
    have h3 : R64 a := ok_2 hs
    have h4 : R64 b := ok_h hs
    have h5 : 0 ≤ a % b := Int.emod_nonneg a (by omega)
    have h6 : a % b < b := Int.emod_lt_of_pos a hb
    have h7 : a / b * b + a % b = a := by have := Int.mul_ediv_add_emod a b; rw [Int.mul_comm] at this; omega
    have h8 : 0 ≤ a / b * b := Int.mul_nonneg h2 (by omega)
    have h9 := h3.2
    have h10 := h4.2
    refine wp_st (fun h => ok_c (v := vl (a % b)) (show R64 _ from ⟨by omega, by omega⟩) (ok_t (ok_t h))) (fun C _ h w => lv_lrem C.exec C.bytes hd (i64_nz h4 (by omega)) (by
      rw [rem64 h3 h4 (by rw [e]; exact ⟨by omega, by omega⟩) (by rw [e]; exact ⟨by omega, by omega⟩) (by rw [em]; exact ⟨by omega, by omega⟩), em]; exact w)) k)
theorem wp_iand {a b : Int} (hd : decode (mB y) pc = .ok (.iand, 1)) (k : WP G δ mc ms y (pc + 1) ls (vi (band a b) :: st) σ Q) : WP G δ mc ms y pc ls (vi b :: vi a :: st) σ Q :=
  wp_st (fun h => ok_c (v := vi (band a b)) (i32_R _) (ok_t (ok_t h))) (fun C _ h w => lv_iand C.exec C.bytes hd (by rw [i32_of (v := Int32.ofInt a &&& Int32.ofInt b) (c := band a b) rfl]; exact w)) k
theorem wp_ior {a b : Int} (hd : decode (mB y) pc = .ok (.ior, 1)) (k : WP G δ mc ms y (pc + 1) ls (vi (bor a b) :: st) σ Q) : WP G δ mc ms y pc ls (vi b :: vi a :: st) σ Q :=
  wp_st (fun h => ok_c (v := vi (bor a b)) (i32_R _) (ok_t (ok_t h))) (fun C _ h w => lv_ior C.exec C.bytes hd (by rw [i32_of (v := Int32.ofInt a ||| Int32.ofInt b) (c := bor a b) rfl]; exact w)) k
theorem wp_ixor {a b : Int} (hd : decode (mB y) pc = .ok (.ixor, 1)) (k : WP G δ mc ms y (pc + 1) ls (vi (bxor a b) :: st) σ Q) : WP G δ mc ms y pc ls (vi b :: vi a :: st) σ Q :=
  wp_st (fun h => ok_c (v := vi (bxor a b)) (i32_R _) (ok_t (ok_t h))) (fun C _ h w => lv_ixor C.exec C.bytes hd (by rw [i32_of (v := Int32.ofInt a ^^^ Int32.ofInt b) (c := bxor a b) rfl]; exact w)) k
theorem wp_lor {a b : Int} (hd : decode (mB y) pc = .ok (.lor, 1)) (k : WP G δ mc ms y (pc + 1) ls (vl (lbor a b) :: st) σ Q) : WP G δ mc ms y pc ls (vl b :: vl a :: st) σ Q :=
  wp_st (fun h => ok_c (v := vl (lbor a b)) (i64_R _) (ok_t (ok_t h))) (fun C _ h w => lv_lor C.exec C.bytes hd (by rw [i64_of (v := Int64.ofInt a ||| Int64.ofInt b) (c := lbor a b) rfl]; exact w)) k
theorem wp_ishl {a b : Int} (hd : decode (mB y) pc = .ok (.ishl, 1)) (k : WP G δ mc ms y (pc + 1) ls (vi (shl a b) :: st) σ Q) : WP G δ mc ms y pc ls (vi b :: vi a :: st) σ Q :=
  wp_st (fun h => ok_c (v := vi (shl a b)) (i32_R _) (ok_t (ok_t h))) (fun C _ h w => lv_ishl C.exec C.bytes hd (by rw [i32_of (v := Int32.ofInt a <<< (Int32.ofInt b &&& 31)) (c := shl a b) rfl]; exact w)) k
theorem wp_ishr {a b : Int} (hd : decode (mB y) pc = .ok (.ishr, 1)) (k : WP G δ mc ms y (pc + 1) ls (vi (shr a b) :: st) σ Q) : WP G δ mc ms y pc ls (vi b :: vi a :: st) σ Q :=
  wp_st (fun h => ok_c (v := vi (shr a b)) (i32_R _) (ok_t (ok_t h))) (fun C _ h w => lv_ishr C.exec C.bytes hd (by rw [i32_of (v := Int32.ofInt a >>> (Int32.ofInt b &&& 31)) (c := shr a b) rfl]; exact w)) k
theorem wp_iushr {a b : Int} (hd : decode (mB y) pc = .ok (.iushr, 1)) (k : WP G δ mc ms y (pc + 1) ls (vi (ushr a b) :: st) σ Q) : WP G δ mc ms y pc ls (vi b :: vi a :: st) σ Q :=
  wp_st (fun h => ok_c (v := vi (ushr a b)) (i32_R _) (ok_t (ok_t h))) (fun C _ h w => lv_iushr C.exec C.bytes hd (v := Int32.ofInt (ushr a b)) (i32_of rfl) w) k
theorem wp_lshl {a b : Int} (hd : decode (mB y) pc = .ok (.lshl, 1)) (k : WP G δ mc ms y (pc + 1) ls (vl (lshl a b) :: st) σ Q) : WP G δ mc ms y pc ls (vi b :: vl a :: st) σ Q :=
  wp_st (fun h => ok_c (v := vl (lshl a b)) (i64_R _) (ok_t (ok_t h))) (fun C _ h w => lv_lshl C.exec C.bytes hd (v := Int64.ofInt (lshl a b)) (i64_of rfl) w) k
theorem wp_lshr {a b : Int} (hd : decode (mB y) pc = .ok (.lshr, 1)) (k : WP G δ mc ms y (pc + 1) ls (vl (lshr a b) :: st) σ Q) : WP G δ mc ms y pc ls (vi b :: vl a :: st) σ Q :=
  wp_st (fun h => ok_c (v := vl (lshr a b)) (i64_R _) (ok_t (ok_t h))) (fun C _ h w => lv_lshr C.exec C.bytes hd (v := Int64.ofInt (lshr a b)) (i64_of rfl) w) k
theorem wp_i2l {a : Int} (hd : decode (mB y) pc = .ok (.i2l, 1)) (k : WP G δ mc ms y (pc + 1) ls (vl a :: st) σ Q) : WP G δ mc ms y pc ls (vi a :: st) σ Q :=
  wp_st (fun h => ok_c (v := vl a) (R32_64 (ok_h h)) (ok_t h)) (fun C _ h w => lv_i2l C.exec C.bytes hd (v := Int64.ofInt a) (i64_of (by rw [Int32.toInt_toInt64]; exact i32_to (ok_h h))) w) k
theorem wp_l2iw {a : Int} (hd : decode (mB y) pc = .ok (.l2i, 1)) (k : WP G δ mc ms y (pc + 1) ls (vi (l2i a) :: st) σ Q) : WP G δ mc ms y pc ls (vl a :: st) σ Q :=
  wp_st (fun h => ok_c (v := vi (l2i a)) (i32_R _) (ok_t h)) (fun C _ h w => lv_l2i C.exec C.bytes hd (v := Int32.ofInt (l2i a)) (i32_of rfl) w) k
theorem l2i_id {a : Int} (h : R32 a) : l2i a = a := by
  unfold l2i
  rw [← Int32.ofInt_int64ToInt, i64_to (R32_64 h), i32_to h]
theorem wp_l2i {a : Int} (hd : decode (mB y) pc = .ok (.l2i, 1)) (hr : R32 a) (k : WP G δ mc ms y (pc + 1) ls (vi a :: st) σ Q) : WP G δ mc ms y pc ls (vl a :: st) σ Q :=
  wp_l2iw hd (by rw [l2i_id hr]; exact k)
theorem wp_lcmp {a b : Int} (hd : decode (mB y) pc = .ok (.lcmp, 1)) (k : WP G δ mc ms y (pc + 1) ls (vi (lcmp a b) :: st) σ Q) : WP G δ mc ms y pc ls (vl b :: vl a :: st) σ Q :=
  wp_st (fun h => ok_c (v := vi (lcmp a b)) (lcmp_R _ _) (ok_t (ok_t h))) (fun C _ h w => W.lcmp C.exec C.bytes hd (by rw [lcmp_eq (ok_2 h) (ok_h h)]; exact w)) k
theorem nl_cat {v : V} (h : isL v = false) : (vv G v).category = 1 := by
  rcases lv_cat (vv G v) with q | q
  · exact q
  · rw [cat_isL, h] at q; cases q
theorem wp_dup {a : V} (hd : decode (mB y) pc = .ok (.dup, 1)) (hl : isL a = false) (k : WP G δ mc ms y (pc + 1) ls (a :: a :: st) σ Q) : WP G δ mc ms y pc ls (a :: st) σ Q :=
  wp_st (fun h => ok_c (ok_h h) h) (fun C _ _ w => lv_dup C.exec C.bytes hd (nl_cat hl) w) k
theorem wp_pop {a : V} (hd : decode (mB y) pc = .ok (.pop, 1)) (hl : isL a = false) (k : WP G δ mc ms y (pc + 1) ls st σ Q) : WP G δ mc ms y pc ls (a :: st) σ Q :=
  wp_st ok_t (fun C _ _ w => lv_pop C.exec C.bytes hd (nl_cat hl) w) k
theorem wp_dup2 {a b : V} (hd : decode (mB y) pc = .ok (.dup2, 1)) (hl : isL a = false) (hb : isL b = false) (k : WP G δ mc ms y (pc + 1) ls (a :: b :: a :: b :: st) σ Q) : WP G δ mc ms y pc ls (a :: b :: st) σ Q :=
  wp_st (fun h => ok_c (ok_h h) (ok_c (ok_2 h) h)) (fun C _ _ w => lv_dup2_11 C.exec C.bytes hd (nl_cat hl) (nl_cat hb) w) k
theorem wp_dup2L {a : Int} (hd : decode (mB y) pc = .ok (.dup2, 1)) (k : WP G δ mc ms y (pc + 1) ls (vl a :: vl a :: st) σ Q) : WP G δ mc ms y pc ls (vl a :: st) σ Q :=
  wp_st (fun h => ok_c (ok_h h) h) (fun C _ _ w => lv_dup2_2 C.exec C.bytes hd rfl w) k
theorem wp_goto {off : Int} (tgt : Nat) (hd : decode (mB y) pc = .ok (.goto off, 3)) (ht : (pc : Int) + off = (tgt : Int)) (k : WP G δ mc ms y tgt ls st σ Q) : WP G δ mc ms y pc ls st σ Q :=
  wp_st id (fun C _ _ w => lv_goto C.exec C.bytes hd ht w) k
theorem wp_icmp_eq {a b : Int} {off : Int} (tgt : Nat) (hd : decode (mB y) pc = .ok (.if_icmp .eq off, 3)) (ht : (pc : Int) + off = (tgt : Int)) (kt : a = b → WP G δ mc ms y tgt ls st σ Q) (kf : ¬ (a = b) → WP G δ mc ms y (pc + 3) ls st σ Q) : WP G δ mc ms y pc ls (vi b :: vi a :: st) σ Q :=
  fun p e R s m args below meth c H locs cells slots lsa Qf C hH hS hl hst hc hs hf hlo hr =>
    lv_icmp_eq C.exec C.bytes hd ht (fun q => kt ((i32_eq (ok_2 hst) (ok_h hst)).mp q) p e R s m args below meth c H locs cells slots lsa Qf C hH hS hl (ok_t (ok_t hst)) hc hs hf hlo hr) (fun q => kf (fun z => q ((i32_eq (ok_2 hst) (ok_h hst)).mpr z)) p e R s m args below meth c H locs cells slots lsa Qf C hH hS hl (ok_t (ok_t hst)) hc hs hf hlo hr)
theorem wp_icmp_lt {a b : Int} {off : Int} (tgt : Nat) (hd : decode (mB y) pc = .ok (.if_icmp .lt off, 3)) (ht : (pc : Int) + off = (tgt : Int)) (kt : a < b → WP G δ mc ms y tgt ls st σ Q) (kf : ¬ (a < b) → WP G δ mc ms y (pc + 3) ls st σ Q) : WP G δ mc ms y pc ls (vi b :: vi a :: st) σ Q :=
  fun p e R s m args below meth c H locs cells slots lsa Qf C hH hS hl hst hc hs hf hlo hr =>
    lv_icmp_lt C.exec C.bytes hd ht (fun q => kt ((i32_lt (ok_2 hst) (ok_h hst)).mp q) p e R s m args below meth c H locs cells slots lsa Qf C hH hS hl (ok_t (ok_t hst)) hc hs hf hlo hr) (fun q => kf (fun z => q ((i32_lt (ok_2 hst) (ok_h hst)).mpr z)) p e R s m args below meth c H locs cells slots lsa Qf C hH hS hl (ok_t (ok_t hst)) hc hs hf hlo hr)
theorem wp_icmp_le {a b : Int} {off : Int} (tgt : Nat) (hd : decode (mB y) pc = .ok (.if_icmp .le off, 3)) (ht : (pc : Int) + off = (tgt : Int)) (kt : a ≤ b → WP G δ mc ms y tgt ls st σ Q) (kf : ¬ (a ≤ b) → WP G δ mc ms y (pc + 3) ls st σ Q) : WP G δ mc ms y pc ls (vi b :: vi a :: st) σ Q :=
  fun p e R s m args below meth c H locs cells slots lsa Qf C hH hS hl hst hc hs hf hlo hr =>
    lv_icmp_le C.exec C.bytes hd ht (fun q => kt ((i32_le (ok_2 hst) (ok_h hst)).mp q) p e R s m args below meth c H locs cells slots lsa Qf C hH hS hl (ok_t (ok_t hst)) hc hs hf hlo hr) (fun q => kf (fun z => q ((i32_le (ok_2 hst) (ok_h hst)).mpr z)) p e R s m args below meth c H locs cells slots lsa Qf C hH hS hl (ok_t (ok_t hst)) hc hs hf hlo hr)
theorem wp_icmp_ge {a b : Int} {off : Int} (tgt : Nat) (hd : decode (mB y) pc = .ok (.if_icmp .ge off, 3)) (ht : (pc : Int) + off = (tgt : Int)) (kt : b ≤ a → WP G δ mc ms y tgt ls st σ Q) (kf : ¬ (b ≤ a) → WP G δ mc ms y (pc + 3) ls st σ Q) : WP G δ mc ms y pc ls (vi b :: vi a :: st) σ Q :=
  fun p e R s m args below meth c H locs cells slots lsa Qf C hH hS hl hst hc hs hf hlo hr =>
    lv_icmp_ge C.exec C.bytes hd ht (fun q => kt ((i32_le (ok_h hst) (ok_2 hst)).mp q) p e R s m args below meth c H locs cells slots lsa Qf C hH hS hl (ok_t (ok_t hst)) hc hs hf hlo hr) (fun q => kf (fun z => q ((i32_le (ok_h hst) (ok_2 hst)).mpr z)) p e R s m args below meth c H locs cells slots lsa Qf C hH hS hl (ok_t (ok_t hst)) hc hs hf hlo hr)
theorem wp_icmp_gt {a b : Int} {off : Int} (tgt : Nat) (hd : decode (mB y) pc = .ok (.if_icmp .gt off, 3)) (ht : (pc : Int) + off = (tgt : Int)) (kt : b < a → WP G δ mc ms y tgt ls st σ Q) (kf : ¬ (b < a) → WP G δ mc ms y (pc + 3) ls st σ Q) : WP G δ mc ms y pc ls (vi b :: vi a :: st) σ Q :=
  fun p e R s m args below meth c H locs cells slots lsa Qf C hH hS hl hst hc hs hf hlo hr =>
    lv_icmp_gt C.exec C.bytes hd ht (fun q => kt ((i32_lt (ok_h hst) (ok_2 hst)).mp q) p e R s m args below meth c H locs cells slots lsa Qf C hH hS hl (ok_t (ok_t hst)) hc hs hf hlo hr) (fun q => kf (fun z => q ((i32_lt (ok_h hst) (ok_2 hst)).mpr z)) p e R s m args below meth c H locs cells slots lsa Qf C hH hS hl (ok_t (ok_t hst)) hc hs hf hlo hr)
theorem wp_icmp_ne {a b : Int} {off : Int} (tgt : Nat) (hd : decode (mB y) pc = .ok (.if_icmp .ne off, 3)) (ht : (pc : Int) + off = (tgt : Int)) (kt : ¬ (a = b) → WP G δ mc ms y tgt ls st σ Q) (kf : a = b → WP G δ mc ms y (pc + 3) ls st σ Q) : WP G δ mc ms y pc ls (vi b :: vi a :: st) σ Q :=
  fun p e R s m args below meth c H locs cells slots lsa Qf C hH hS hl hst hc hs hf hlo hr =>
    lv_icmp_ne C.exec C.bytes hd ht (fun q => kt (fun z => q ((i32_eq (ok_2 hst) (ok_h hst)).mpr z)) p e R s m args below meth c H locs cells slots lsa Qf C hH hS hl (ok_t (ok_t hst)) hc hs hf hlo hr) (fun q => kf ((i32_eq (ok_2 hst) (ok_h hst)).mp q) p e R s m args below meth c H locs cells slots lsa Qf C hH hS hl (ok_t (ok_t hst)) hc hs hf hlo hr)
theorem wp_if_eq {a : Int} {off : Int} (tgt : Nat) (hd : decode (mB y) pc = .ok (.ifCond .eq off, 3)) (ht : (pc : Int) + off = (tgt : Int)) (kt : a = 0 → WP G δ mc ms y tgt ls st σ Q) (kf : ¬ (a = 0) → WP G δ mc ms y (pc + 3) ls st σ Q) : WP G δ mc ms y pc ls (vi a :: st) σ Q :=
  fun p e R s m args below meth c H locs cells slots lsa Qf C hH hS hl hst hc hs hf hlo hr =>
    lv_if_eq C.exec C.bytes hd ht (fun q => kt ((i32_eq (ok_h hst) R32_0).mp q) p e R s m args below meth c H locs cells slots lsa Qf C hH hS hl (ok_t hst) hc hs hf hlo hr) (fun q => kf (fun z => q ((i32_eq (ok_h hst) R32_0).mpr z)) p e R s m args below meth c H locs cells slots lsa Qf C hH hS hl (ok_t hst) hc hs hf hlo hr)
theorem wp_if_ne {a : Int} {off : Int} (tgt : Nat) (hd : decode (mB y) pc = .ok (.ifCond .ne off, 3)) (ht : (pc : Int) + off = (tgt : Int)) (kt : ¬ (a = 0) → WP G δ mc ms y tgt ls st σ Q) (kf : a = 0 → WP G δ mc ms y (pc + 3) ls st σ Q) : WP G δ mc ms y pc ls (vi a :: st) σ Q :=
  fun p e R s m args below meth c H locs cells slots lsa Qf C hH hS hl hst hc hs hf hlo hr =>
    lv_if_ne C.exec C.bytes hd ht (fun q => kt (fun z => q ((i32_eq (ok_h hst) R32_0).mpr z)) p e R s m args below meth c H locs cells slots lsa Qf C hH hS hl (ok_t hst) hc hs hf hlo hr) (fun q => kf ((i32_eq (ok_h hst) R32_0).mp q) p e R s m args below meth c H locs cells slots lsa Qf C hH hS hl (ok_t hst) hc hs hf hlo hr)
theorem wp_if_lt {a : Int} {off : Int} (tgt : Nat) (hd : decode (mB y) pc = .ok (.ifCond .lt off, 3)) (ht : (pc : Int) + off = (tgt : Int)) (kt : a < 0 → WP G δ mc ms y tgt ls st σ Q) (kf : ¬ (a < 0) → WP G δ mc ms y (pc + 3) ls st σ Q) : WP G δ mc ms y pc ls (vi a :: st) σ Q :=
  fun p e R s m args below meth c H locs cells slots lsa Qf C hH hS hl hst hc hs hf hlo hr =>
    lv_if_lt C.exec C.bytes hd ht (fun q => kt ((i32_lt (ok_h hst) R32_0).mp q) p e R s m args below meth c H locs cells slots lsa Qf C hH hS hl (ok_t hst) hc hs hf hlo hr) (fun q => kf (fun z => q ((i32_lt (ok_h hst) R32_0).mpr z)) p e R s m args below meth c H locs cells slots lsa Qf C hH hS hl (ok_t hst) hc hs hf hlo hr)
theorem wp_if_le {a : Int} {off : Int} (tgt : Nat) (hd : decode (mB y) pc = .ok (.ifCond .le off, 3)) (ht : (pc : Int) + off = (tgt : Int)) (kt : a ≤ 0 → WP G δ mc ms y tgt ls st σ Q) (kf : ¬ (a ≤ 0) → WP G δ mc ms y (pc + 3) ls st σ Q) : WP G δ mc ms y pc ls (vi a :: st) σ Q :=
  fun p e R s m args below meth c H locs cells slots lsa Qf C hH hS hl hst hc hs hf hlo hr =>
    lv_if_le C.exec C.bytes hd ht (fun q => kt ((i32_le (ok_h hst) R32_0).mp q) p e R s m args below meth c H locs cells slots lsa Qf C hH hS hl (ok_t hst) hc hs hf hlo hr) (fun q => kf (fun z => q ((i32_le (ok_h hst) R32_0).mpr z)) p e R s m args below meth c H locs cells slots lsa Qf C hH hS hl (ok_t hst) hc hs hf hlo hr)
theorem wp_if_ge {a : Int} {off : Int} (tgt : Nat) (hd : decode (mB y) pc = .ok (.ifCond .ge off, 3)) (ht : (pc : Int) + off = (tgt : Int)) (kt : 0 ≤ a → WP G δ mc ms y tgt ls st σ Q) (kf : ¬ (0 ≤ a) → WP G δ mc ms y (pc + 3) ls st σ Q) : WP G δ mc ms y pc ls (vi a :: st) σ Q :=
  fun p e R s m args below meth c H locs cells slots lsa Qf C hH hS hl hst hc hs hf hlo hr =>
    lv_if_ge C.exec C.bytes hd ht (fun q => kt ((i32_le R32_0 (ok_h hst)).mp q) p e R s m args below meth c H locs cells slots lsa Qf C hH hS hl (ok_t hst) hc hs hf hlo hr) (fun q => kf (fun z => q ((i32_le R32_0 (ok_h hst)).mpr z)) p e R s m args below meth c H locs cells slots lsa Qf C hH hS hl (ok_t hst) hc hs hf hlo hr)
theorem wp_if_gt {a : Int} {off : Int} (tgt : Nat) (hd : decode (mB y) pc = .ok (.ifCond .gt off, 3)) (ht : (pc : Int) + off = (tgt : Int)) (kt : 0 < a → WP G δ mc ms y tgt ls st σ Q) (kf : ¬ (0 < a) → WP G δ mc ms y (pc + 3) ls st σ Q) : WP G δ mc ms y pc ls (vi a :: st) σ Q :=
  fun p e R s m args below meth c H locs cells slots lsa Qf C hH hS hl hst hc hs hf hlo hr =>
    lv_if_gt C.exec C.bytes hd ht (fun q => kt ((i32_lt R32_0 (ok_h hst)).mp q) p e R s m args below meth c H locs cells slots lsa Qf C hH hS hl (ok_t hst) hc hs hf hlo hr) (fun q => kf (fun z => q ((i32_lt R32_0 (ok_h hst)).mpr z)) p e R s m args below meth c H locs cells slots lsa Qf C hH hS hl (ok_t hst) hc hs hf hlo hr)
theorem wp_tsw {dflt lo hi : Int} {offs : Array Int} {len : Nat} {a : Int} (tgt : Nat) (hd : decode (mB y) pc = .ok (.tableswitch dflt lo hi offs, len)) (h1 : lo ≤ a) (h2 : a ≤ hi) (off : Int) (ho : offs[(a - lo).toNat]? = some off) (ht : (pc : Int) + off = (tgt : Int)) (k : WP G δ mc ms y tgt ls st σ Q) : WP G δ mc ms y pc ls (vi a :: st) σ Q :=
  wp_st ok_t (fun C _ h w => by
    have e := i32_to (ok_h h)
    exact lv_tableIn C.exec C.bytes hd (by rw [e]; omega) (by rw [e]; omega) (by rw [e]; exact ho) ht w) k
theorem wp_tswD {dflt lo hi : Int} {offs : Array Int} {len : Nat} {a : Int} (tgt : Nat) (hd : decode (mB y) pc = .ok (.tableswitch dflt lo hi offs, len)) (h : a < lo ∨ hi < a) (ht : (pc : Int) + dflt = (tgt : Int)) (k : WP G δ mc ms y tgt ls st σ Q) : WP G δ mc ms y pc ls (vi a :: st) σ Q :=
  wp_st ok_t (fun C _ h' w => lv_tableOut C.exec C.bytes hd (by rw [i32_to (ok_h h')]; exact h) ht w) k
theorem wp_lsw {dflt : Int} {ps : Array (Int × Int)} {len : Nat} {a : Int} (tgt : Nat) (off : Int) (hd : decode (mB y) pc = .ok (.lookupswitch dflt ps, len)) (hp : (ps.toList.zip (ps.toList.drop 1)).all (fun (a, next) => a.1 < next.1) = true) (ho : Op.lookupswitch.offset ps.toList dflt a = off) (ht : (pc : Int) + off = (tgt : Int)) (k : WP G δ mc ms y tgt ls st σ Q) : WP G δ mc ms y pc ls (vi a :: st) σ Q :=
  wp_st ok_t (fun C _ h w => lv_lookup C.exec C.bytes hd hp (by rw [i32_to (ok_h h)]; exact ho) ht w) k
/-- the end of a method -/
theorem wp_ret {v : V} (hv : st = (match v with | none => [] | some x => [some x])) (hd : rOK y pc v) (h : Q v σ) : WP G δ mc ms y pc ls st σ Q :=
  fun p e R s m args below meth c H locs cells slots lsa Qf C hH hS hl hst hc hs hf hlo hr => by
    subst hv
    have h1 : vOK v := by
      cases v with
      | none => exact trivial
      | some x => exact hst _ List.mem_cons_self
    have h2 := hr pc v σ H locs cells slots lsa h hH hS (Nat.le_add_right _ _) (Nat.le_add_right _ _) h1 hd
    cases v with
    | none => exact h2
    | some x => exact h2
theorem wp_ireti {a : Int} (hd : decode (mB y) pc = .ok (.ireturn, 1)) (hR : mR y = some .int) (h : Q (vi a) σ) : WP G δ mc ms y pc ls [vi a] σ Q := wp_ret (v := vi a) rfl ⟨hd, _, hR, vp_nar_int _⟩ h
theorem wp_iretz {a : Int} (hd : decode (mB y) pc = .ok (.ireturn, 1)) (hR : mR y = some .boolean) (ha : a = 0 ∨ a = 1) (h : Q (vi a) σ) : WP G δ mc ms y pc ls [vi a] σ Q := wp_ret (v := vi a) rfl ⟨hd, _, hR, by rcases ha with rfl | rfl <;> rfl⟩ h
theorem wp_lret {a : Int} (hd : decode (mB y) pc = .ok (.lreturn, 1)) (hR : mR y = some .long) (h : Q (vl a) σ) : WP G δ mc ms y pc ls [vl a] σ Q := wp_ret (v := vl a) rfl ⟨hR, hd⟩ h
theorem wp_vret (hd : decode (mB y) pc = .ok (.return_, 1)) (hR : mR y = none) (h : Q vn σ) : WP G δ mc ms y pc ls [] σ Q := wp_ret (v := vn) rfl ⟨hR, hd⟩ h
theorem wp_aret {a : Nat} {n : String} (hd : decode (mB y) pc = .ok (.areturn, 1)) (hR : mR y = some (.object n)) (h : Q (vr a) σ) : WP G δ mc ms y pc ls [vr a] σ Q := wp_ret (v := vr a) rfl ⟨hd, _, hR, Or.inl ⟨_, rfl⟩⟩ h
end ROWS
