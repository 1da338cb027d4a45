/-! the words' text, by the machine's own methods -/
theorem fw_v : Cond.fieldLink "java/lang/String" 9 "java/lang/String" "value" "[B" ∈ LW := lw_m (tin8 140 rfl) rfl
theorem fw_c : Cond.fieldLink "java/lang/String" 15 "java/lang/String" "coder" "B" ∈ LW := lw_m (tin8 141 rfl) rfl
theorem fw_s : Cond.fieldLink "java/lang/String" 38 "java/lang/String" "COMPACT_STRINGS" "Z" ∈ LW := lw_m (tin2 156 rfl) rfl
theorem fw_o : Cond.fieldLink "java/lang/String" 1053 "jdk/internal/util/Preconditions" "SIOOBE_FORMATTER" "Ljava/util/function/BiFunction;" ∈ LW := lw_m (tin2 172 rfl) rfl
def chI (i : Int) : Int := (byW.getD i.toNat 0).toInt
theorem chI_of (i : Int) : Int32.ofInt (chI i) = byW.getD i.toNat 0 := by unfold chI; rw [Int32.ofInt_toInt]
section STRS
variable {G : GT} {δ mc ms : Nat} {y : Md} {pc : Nat} {ls st : List V} {σ : Hp} {Q : V → Hp → Prop}
theorem wp_strV (hy : mO y = "java/lang/String") (hd : decode (mB y) pc = .ok (.getfield 9, 3)) (k : WP G δ mc ms y (pc + 3) ls (vs 2 :: st) σ Q) : WP G δ mc ms y pc ls (vs 0 :: st) σ Q :=
  fun p e R s m args below meth c H locs cells slots lsa Qf C hH hS hL hst hcs hss hf hlo hr => by
    obtain ⟨o1, o2, o3, o4, o5, -⟩ := C.2.2.2.2.2.2.2.2.1
    have w := k p e R s m args below meth c H locs cells slots lsa Qf C hH hS hL (ok_c (v := vs 2) trivial (ok_t hst)) hcs hss hf hlo hr
    exact vk_getf C.exec C.bytes (o5.1 0 (by decide)).2.2.1 hS (by rw [← hy]; exact C.2.2.2.1) (C.2.2.2.2.1 _ fw_v) (fun _ h => h) hd w
theorem wp_strC (hy : mO y = "java/lang/String") (hd : decode (mB y) pc = .ok (.getfield 15, 3)) (k : WP G δ mc ms y (pc + 3) ls (vi 0 :: st) σ Q) : WP G δ mc ms y pc ls (vs 0 :: st) σ Q :=
  fun p e R s m args below meth c H locs cells slots lsa Qf C hH hS hL hst hcs hss hf hlo hr => by
    obtain ⟨o1, o2, o3, o4, o5, -⟩ := C.2.2.2.2.2.2.2.2.1
    have w := k p e R s m args below meth c H locs cells slots lsa Qf C hH hS hL (ok_c (v := vi 0) (show R32 0 from ⟨by decide, by decide⟩) (ok_t hst)) hcs hss hf hlo hr
    exact vk_getf C.exec C.bytes (o5.1 0 (by decide)).2.1 hS (by rw [← hy]; exact C.2.2.2.1) (C.2.2.2.2.1 _ fw_c) (fun _ h => h) hd w
theorem wp_strS (hy : mO y = "java/lang/String") (hd : decode (mB y) pc = .ok (.getstatic 38, 3)) (k : WP G δ mc ms y (pc + 3) ls (vi 1 :: st) σ Q) : WP G δ mc ms y pc ls st σ Q :=
  fun p e R s m args below meth c H locs cells slots lsa Qf C hH hS hL hst hcs hss hf hlo hr => by
    obtain ⟨o1, o2, o3, o4, o5, o6, o7, o8⟩ := C.2.2.2.2.2.2.2.2.1
    have w := k p e R s m args below meth c H locs cells slots lsa Qf C hH hS hL (ok_c (v := vi 1) (show R32 1 from ⟨by decide, by decide⟩) hst) hcs hss hf hlo hr
    exact va_gets C.exec C.bytes o7 hS (by rw [← hy]; exact C.2.2.2.1) (C.2.2.2.2.1 _ fw_s) (fun _ h => h) hd w
theorem wp_strO (hy : mO y = "java/lang/String") (hd : decode (mB y) pc = .ok (.getstatic 1053, 3)) (k : WP G δ mc ms y (pc + 3) ls (vs 3 :: st) σ Q) : WP G δ mc ms y pc ls st σ Q :=
  fun p e R s m args below meth c H locs cells slots lsa Qf C hH hS hL hst hcs hss hf hlo hr => by
    obtain ⟨o1, o2, o3, o4, o5, o6, o7, o8⟩ := C.2.2.2.2.2.2.2.2.1
    have w := k p e R s m args below meth c H locs cells slots lsa Qf C hH hS hL (ok_c (v := vs 3) trivial hst) hcs hss hf hlo hr
    exact va_gets C.exec C.bytes o8 hS (by rw [← hy]; exact C.2.2.2.1) (C.2.2.2.2.1 _ fw_o) (fun _ h => h) hd w
theorem wp_strL (hd : decode (mB y) pc = .ok (.arraylength, 1)) (k : WP G δ mc ms y (pc + 1) ls (vi 146 :: st) σ Q) : WP G δ mc ms y pc ls (vs 2 :: st) σ Q :=
  fun p e R s m args below meth c H locs cells slots lsa Qf C hH hS hL hst hcs hss hf hlo hr => by
    obtain ⟨o1, o2, o3, o4, o5, -⟩ := C.2.2.2.2.2.2.2.2.1
    have w := k p e R s m args below meth c H locs cells slots lsa Qf C hH hS hL (ok_c (v := vi 146) (show R32 146 from ⟨by decide, by decide⟩) (ok_t hst)) hcs hss hf hlo hr
    exact va_tlen C.exec C.bytes (o5.1 0 (by decide)).2.2.2 hS (v := Int32.ofInt 146) (by decide) hd w
theorem wp_strA {i : Int} (h0 : 0 ≤ i) (h1 : i < 146) (hd : decode (mB y) pc = .ok (.baload, 1)) (k : WP G δ mc ms y (pc + 1) ls (vi (chI i) :: st) σ Q) : WP G δ mc ms y pc ls (vi i :: vs 2 :: st) σ Q :=
  fun p e R s m args below meth c H locs cells slots lsa Qf C hH hS hL hst hcs hss hf hlo hr => by
    obtain ⟨o1, o2, o3, o4, o5, -⟩ := C.2.2.2.2.2.2.2.2.1
    have hi : R32 i := ok_h hst
    have w := k p e R s m args below meth c H locs cells slots lsa Qf C hH hS hL (ok_c (v := vi (chI i)) (i32_R _) (ok_t (ok_t hst))) hcs hss hf hlo hr
    refine va_tb C.exec C.bytes (o5.1 0 (by decide)).2.2.2 hS (i := Int32.ofInt i) (vin_of hi h0 (by exact_mod_cast h1)) (v := .int (Int32.ofInt (chI i))) ?_ hd w
    rw [cl_of hi, chI_of]
    simp only [List.getD_cons_zero]
theorem wp_i2cS {a : Int} (h : (Int32.ofInt a).toUInt32 % 65536 = (Int32.ofInt a).toUInt32) (hd : decode (mB y) pc = .ok (.i2c, 1)) (k : WP G δ mc ms y (pc + 1) ls (vi a :: st) σ Q) : WP G δ mc ms y pc ls (vi a :: st) σ Q :=
  wp_st (fun h => h) (fun C _ _ w => lv_i2c C.exec C.bytes hd (v := Int32.ofInt a) (by rw [h]; rfl) w) k
theorem wp_callVS {As rest ls0 : List V} {y' : Md} {n idx : Nat} (hd : decode (mB y) pc = .ok (.invokevirtual idx, 3)) (hM : MOK y' n) (hl : Cond.methodLink (mO y) idx (mN y') ∈ LW) (hs : Cond.instanceMethod (mN y') ∈ LW ∧ Cond.selects (mO y') (mN y') (mN y') ∈ LW) (hy' : mO y' = "java/lang/String") (hst : st = As.reverse ++ vs 0 :: rest) (hn : As.length = n) (he : entryL (mL y') (vs 0 :: As) = ls0) (hle : (lsOf (vs 0 :: As)).length ≤ mL y') (hc : catS rest ≤ 8) (hδ : δ < 2000)
    (k : WP G (δ + 1) 0 0 y' 0 ls0 [] σ (fun v σ' => WP G δ 0 0 y (pc + 3) ls (pushV v rest) σ' Q)) : WP G δ 0 0 y pc ls st σ Q :=
  fun p e R s m args below meth c H locs cells slots lsa Qf C hH hS hL hok hcs hss hf hlo hr => by
    subst hst he
    have hA : ∀ v ∈ vs 0 :: As, vOK v := ok_c trivial fun v hv => hok v (List.mem_append_left _ (List.mem_reverse.mpr hv))
    have hRest : ∀ v ∈ rest, vOK v := fun v hv => hok v (List.mem_append_right _ (List.mem_cons_of_mem _ hv))
    have hts := C.2.2.2.2.1
    have hmt := met_of hM hδ hA hle k
    obtain ⟨o1, o2, o3, o4, o5, -⟩ := C.2.2.2.2.2.2.2.2.1
    have hrec := vk_recv (i := 0) o5 (by decide) hS
    rw [← hy'] at hrec
    have hpre : PreV s H (mO y') (gq G) (PP G σ (vs 0 :: As)) (As.map (vv G)) := ⟨PP_blind, hrec, fun U hU hW => ⟨rfl, FX.go C hS hU hW, by rw [hU]; exact hH⟩⟩
    have hstk : (As.reverse ++ vs 0 :: rest).map (vv G) = (As.map (vv G)).reverse ++ .ref (gq G) :: rest.map (vv G) := by rw [List.map_append, List.map_reverse]; rfl
    have hlen : ∀ sig, parseMethodDescriptor (mN y').desc = some sig → n = sig.parameters.length := fun sig hsg => by
      have h2 := hM.2.2.2.2.2.2
      rw [hsg] at h2
      exact (Option.some.inj h2).symm
    have hcls := hM.2.2.2.1
    have hrun : va_Run p (gl G) e R s m args below meth c H locs cells slots 0 0 (F0 m pc lsa ((As.reverse ++ vs 0 :: rest).map (vv G))) (rest.map (vv G)) (QQ G (fun v σ' => WP G δ 0 0 y (pc + 3) ls (pushV v rest) σ' Q) (Value.ref (gq G) :: As.map (vv G)).toArray) (AG G) :=
      va_runV (Ts := LW) (own := mO y) (C := mO y') ⟨C.exec, C.bytes, C.2.2.1, C.2.2.2.1, hts⟩ hmt ⟨⟨rfl, rfl, by show 2048 - (δ + 1) + 1 ≤ R.frames; omega, by show 8 + (mL y' + 11) + (84000 - 40 * (δ + 1)) ≤ R.locals; have := hM.2.2.2.2.1; omega, pay_LW hts hM, List.mem_cons_self, hts _ hM.1, by rw [hcls]; exact hts _ hM.2.1, by rw [hcls]; exact hM.2.2.2.2.2.1, hlen, hts _ hl⟩, hts _ hs.1, hts _ hs.2⟩ hpre rfl (by rw [List.length_map]; exact hn) hL.1.1 hstk (lv_room (by rw [catS_le]; exact hc)) hd ⟨by omega, by omega⟩
    refine call_go hrun hS fun v σ' H1 locs1 q hH1 hv hS1 => ?_
    rw [push_map]
    exact q p e R s m args below meth c H1 locs1 (cells + 0) (slots + 0) lsa Qf C hH1 hS1 hL (push_ok hv hRest) (by omega) (by omega) hf hlo (fun pcr v σ' H' locs' cells' slots' lsa' a1 a2 a3 a4 a5 => hr pcr v σ' H' locs' cells' slots' lsa' a1 a2 a3 (by omega) (by omega))
theorem wp_iretN {a : Int} (t : FieldType) (hd : decode (mB y) pc = .ok (.ireturn, 1)) (hR : mR y = some t) (hn : narrow t (.int (Int32.ofInt a)) = .int (Int32.ofInt a)) (h : Q (vi a) σ) : WP G δ mc ms y pc ls [vi a] σ Q := wp_ret (v := vi a) rfl ⟨hd, _, hR, hn⟩ h
theorem byW_get : ∀ i : Nat, i < 146 → 32 ≤ (byW.getD i 0).toInt ∧ (byW.getD i 0).toInt ≤ 122 := by decide +kernel
theorem chI_R {i : Int} (h0 : 0 ≤ i) (h1 : i < 146) : 32 ≤ chI i ∧ chI i ≤ 122 := byW_get i.toNat (by omega)
theorem ch_nar : ∀ n : Nat, n < 256 → (Int32.ofInt (n : Int)).toUInt32.toUInt16.toUInt32.toInt32 = Int32.ofInt n ∧ (Int32.ofInt (n : Int)).toUInt32 % 65536 = (Int32.ofInt (n : Int)).toUInt32 ∧ band n 255 = n := by decide +kernel
theorem ch_n {a : Int} (h0 : 0 ≤ a) (h1 : a < 256) : narrow .char (.int (Int32.ofInt a)) = .int (Int32.ofInt a) ∧ (Int32.ofInt a).toUInt32 % 65536 = (Int32.ofInt a).toUInt32 ∧ band a 255 = a := by
  obtain ⟨k, hk, rfl⟩ := nat_of (n := 256) h0 h1
  obtain ⟨x, z, w⟩ := ch_nar k hk
  exact ⟨by show Value.int _ = _; rw [x], z, w⟩
theorem wJ0_coder (hQ : Q (vi 0) σ) : WP G δ 0 0 MJ0_coder_7d493 0 [vs 0] [] σ Q := by
  refine wp_strS rfl dJ0_coder_7d493_0 ?_
  refine wp_if_eq 13 dJ0_coder_7d493_3 rfl (fun c => absurd c (by decide)) (fun _ => ?_)
  refine wp_sload0_n dJ0_coder_7d493_6 rfl rfl ?_
  refine wp_strC rfl dJ0_coder_7d493_7 ?_
  refine wp_goto 14 dJ0_coder_7d493_10 rfl ?_
  exact wp_iretN .byte dJ0_coder_7d493_14 rfl rfl hQ
theorem wJ0_isLatin1 (hQ : Q (vi 1) σ) : WP G δ 0 0 MJ0_isLatin1_aae02 0 [vs 0] [] σ Q := by
  refine wp_strS rfl dJ0_isLatin1_aae02_0 ?_
  refine wp_if_eq 17 dJ0_isLatin1_aae02_3 rfl (fun c => absurd c (by decide)) (fun _ => ?_)
  refine wp_sload0_n dJ0_isLatin1_aae02_6 rfl rfl ?_
  refine wp_strC rfl dJ0_isLatin1_aae02_7 ?_
  refine wp_if_ne 17 dJ0_isLatin1_aae02_10 rfl (fun c => absurd rfl c) (fun _ => ?_)
  refine ic_1 dJ0_isLatin1_aae02_13 ?_
  refine wp_goto 18 dJ0_isLatin1_aae02_14 rfl ?_
  exact wp_iretz dJ0_isLatin1_aae02_18 rfl (by omega) hQ
theorem wJ0_length (hδ : δ < 1999) (hQ : Q (vi 146) σ) : WP G δ 0 0 MJ0_length_8abf5 0 [vs 0] [] σ Q := by
  refine wp_sload0_n dJ0_length_8abf5_0 rfl rfl ?_
  refine wp_strV rfl dJ0_length_8abf5_1 ?_
  refine wp_strL dJ0_length_8abf5_4 ?_
  refine wp_sload0_n dJ0_length_8abf5_5 rfl rfl ?_
  refine wp_callVS (As := []) (rest := [vi 146]) dJ0_length_8abf5_6 kJ0_coder_7d493 ml_J0_335 vJ0_coder_7d493 rfl rfl rfl rfl (Nat.le_of_ble_eq_true rfl) (Nat.le_of_ble_eq_true rfl) (by omega) ?_
  refine wJ0_coder ?_
  refine pv_i ?_
  refine wp_ishr dJ0_length_8abf5_9 ?_
  rw [show shr 146 0 = 146 by decide]
  exact wp_ireti dJ0_length_8abf5_10 rfl hQ
theorem wJ3_check {i : Int} (h0 : 0 ≤ i) (h1 : i < 146) (hQ : Q (vi i) σ) : WP G δ 0 0 MJ3_checkIndex_8e157 0 [vi i, vi 146, vs 3] [] σ Q := by
  refine il_0 dJ3_checkIndex_8e157_0 ?_
  refine wp_if_lt 9 dJ3_checkIndex_8e157_1 rfl (fun c => absurd c (by omega)) (fun _ => ?_)
  refine il_0 dJ3_checkIndex_8e157_4 ?_
  refine il_1 dJ3_checkIndex_8e157_5 ?_
  refine wp_icmp_lt 16 dJ3_checkIndex_8e157_6 rfl (fun _ => ?_) (fun c => absurd c (by omega))
  refine il_0 dJ3_checkIndex_8e157_16 ?_
  exact wp_ireti dJ3_checkIndex_8e157_17 rfl hQ
theorem wJ0_check {i : Int} (hδ : δ < 1999) (h0 : 0 ≤ i) (h1 : i < 146) (hQ : Q vn σ) : WP G δ 0 0 MJ0_checkIndex_df160 0 [vi i, vi 146] [] σ Q := by
  refine il_0 dJ0_checkIndex_df160_0 ?_
  refine il_1 dJ0_checkIndex_df160_1 ?_
  refine wp_strO rfl dJ0_checkIndex_df160_2 ?_
  refine wp_callS (As := [vi i, vi 146, vs 3]) (rest := []) (mc1 := 0) (ms1 := 0) (mc := 0) (ms := 0) dJ0_checkIndex_df160_5 kJ3_checkIndex_8e157 (Or.inl ml_J0_1059) sJ3_checkIndex_8e157 rfl rfl rfl (Nat.le_of_ble_eq_true rfl) (Nat.le_of_ble_eq_true rfl) (by omega) ?_
  refine wJ3_check h0 h1 ?_
  refine pv_i ?_
  refine wp_pop dJ0_checkIndex_df160_8 rfl ?_
  exact wp_vret dJ0_checkIndex_df160_9 rfl hQ
theorem wJ1_charAt {i : Int} (hδ : δ < 1998) (h0 : 0 ≤ i) (h1 : i < 146) (hQ : Q (vi (chI i)) σ) : WP G δ 0 0 MJ1_charAt_3b067 0 [vs 2, vi i] [] σ Q := by
  have hc := chI_R h0 h1
  obtain ⟨n1, n2, n3⟩ := ch_n (a := chI i) (by omega) (by omega)
  refine il_1 dJ1_charAt_3b067_0 ?_
  refine wp_sload2_n dJ1_charAt_3b067_1 rfl rfl ?_
  refine wp_strL dJ1_charAt_3b067_2 ?_
  refine wp_callS (As := [vi i, vi 146]) (rest := []) (mc1 := 0) (ms1 := 0) (mc := 0) (ms := 0) dJ1_charAt_3b067_3 kJ0_checkIndex_df160 (Or.inl ml_J1_9) sJ0_checkIndex_df160 rfl rfl rfl (Nat.le_of_ble_eq_true rfl) (Nat.le_of_ble_eq_true rfl) (by omega) ?_
  refine wJ0_check (by omega) h0 h1 ?_
  refine pv_n ?_
  refine wp_sload2_n dJ1_charAt_3b067_6 rfl rfl ?_
  refine il_1 dJ1_charAt_3b067_7 ?_
  refine wp_strA h0 h1 dJ1_charAt_3b067_8 ?_
  refine si_255 dJ1_charAt_3b067_9 ?_
  refine wp_iand dJ1_charAt_3b067_12 ?_
  rw [n3]
  refine wp_i2cS n2 dJ1_charAt_3b067_13 ?_
  exact wp_iretN .char dJ1_charAt_3b067_14 rfl n1 hQ
theorem wJ0_charAt {i : Int} (hδ : δ < 1997) (h0 : 0 ≤ i) (h1 : i < 146) (hQ : Q (vi (chI i)) σ) : WP G δ 0 0 MJ0_charAt_5068e 0 [vs 0, vi i] [] σ Q := by
  have hc := chI_R h0 h1
  obtain ⟨n1, n2, n3⟩ := ch_n (a := chI i) (by omega) (by omega)
  refine wp_sload0_n dJ0_charAt_5068e_0 rfl rfl ?_
  refine wp_callVS (As := []) (rest := []) dJ0_charAt_5068e_1 kJ0_isLatin1_aae02 ml_J0_492 vJ0_isLatin1_aae02 rfl rfl rfl rfl (Nat.le_of_ble_eq_true rfl) (Nat.le_of_ble_eq_true rfl) (by omega) ?_
  refine wJ0_isLatin1 ?_
  refine pv_i ?_
  refine wp_if_eq 16 dJ0_charAt_5068e_4 rfl (fun c => absurd c (by decide)) (fun _ => ?_)
  refine wp_sload0_n dJ0_charAt_5068e_7 rfl rfl ?_
  refine wp_strV rfl dJ0_charAt_5068e_8 ?_
  refine il_1 dJ0_charAt_5068e_11 ?_
  refine wp_callS (As := [vs 2, vi i]) (rest := []) (mc1 := 0) (ms1 := 0) (mc := 0) (ms := 0) dJ0_charAt_5068e_12 kJ1_charAt_3b067 (Or.inl ml_J0_495) sJ1_charAt_3b067 rfl rfl rfl (Nat.le_of_ble_eq_true rfl) (Nat.le_of_ble_eq_true rfl) (by omega) ?_
  refine wJ1_charAt (by omega) h0 h1 ?_
  refine pv_i ?_
  exact wp_iretN .char dJ0_charAt_5068e_15 rfl n1 hQ
theorem c_X2_99 (hd : decode (mB y) pc = .ok (.invokevirtual 99, 3)) (hy : mO y = RX2) (hc : catS st ≤ 8) (hδ : δ < 1990) (k : WP G δ 0 0 y (pc + 3) ls (vi 146 :: st) σ Q) : WP G δ 0 0 y pc ls (vs 0 :: st) σ Q := by
  refine wp_callVS (As := []) (rest := st) hd kJ0_length_8abf5 (by rw [hy]; exact ml_X2_99) vJ0_length_8abf5 rfl rfl rfl rfl (Nat.le_of_ble_eq_true rfl) hc (by omega) ?_
  exact wJ0_length (by omega) k
theorem c_X2_105 {i : Int} (h0 : 0 ≤ i) (h1 : i < 146) (hd : decode (mB y) pc = .ok (.invokevirtual 105, 3)) (hy : mO y = RX2) (hc : catS st ≤ 8) (hδ : δ < 1990) (k : WP G δ 0 0 y (pc + 3) ls (vi (chI i) :: st) σ Q) : WP G δ 0 0 y pc ls (vi i :: vs 0 :: st) σ Q := by
  refine wp_callVS (As := [vi i]) (rest := st) hd kJ0_charAt_5068e (by rw [hy]; exact ml_X2_105) vJ0_charAt_5068e rfl rfl rfl rfl (Nat.le_of_ble_eq_true rfl) hc (by omega) ?_
  exact wJ0_charAt (by omega) h0 h1 k
end STRS
