/-! the law's own rows -/
def bz (x : Int) : Int := if x = 0 then 0 else 1
theorem bz_01 {x : Int} : bz x = 0 ∨ bz x = 1 := by unfold bz; split; exact Or.inl rfl; exact Or.inr rfl
section LAWROW
variable {G : GT} {δ mc ms pc : Nat} {ls st : List V} {σ : Hp} {Q : V → Hp → Prop} {x : Int}
theorem wp_gL {y : Md} (k : (gL G : Int) < 2147483648 → WP G δ mc ms y pc ls st σ Q) : WP G δ mc ms y pc ls st σ Q :=
  fun p e R s m args below meth c H locs cells slots lsa Qf C hH hS hL hst hcs hss hf hlo hr => by
    obtain ⟨o1, o2, o3, o4, -⟩ := C.2.2.2.2.2.2.2.2.1
    exact k (by omega) p e R s m args below meth c H locs cells slots lsa Qf C hH hS hL hst hcs hss hf hlo hr
theorem wp_bz {y : Md} (d1 : decode (mB y) pc = .ok (.ifCond .eq 7, 3)) (d2 : decode (mB y) (pc + 3) = .ok (.iconst 1, 1)) (d3 : decode (mB y) (pc + 4) = .ok (.goto 4, 3)) (d4 : decode (mB y) (pc + 7) = .ok (.iconst 0, 1)) (k : WP G δ mc ms y (pc + 8) ls (vi (bz x) :: st) σ Q) : WP G δ mc ms y pc ls (vi x :: st) σ Q := by
  refine wp_if_eq (pc + 7) d1 (by omega) (fun c => ?_) (fun c => ?_)
  · refine ic_0 d4 ?_
    rw [show bz x = 0 from if_pos c] at k
    exact k
  · refine ic_1 d2 ?_
    refine wp_goto (pc + 8) d3 (by omega) ?_
    rw [show bz x = 1 from if_neg c] at k
    exact k
end LAWROW
/-! no call but text changes how many texts there are -/
section TWO
variable {R R' : Int → Int} {L : Laws} {T : Int → Int} {v w u : Int}
theorem k2_kp (V : RV R) (e : nowEq (rKeep R) R') : R' 2 = R 2 := (e 2 (by omega)).trans (rKeep_o V (by decide) (by decide))
theorem k2_per (V : RV R) : rPer R v w 2 = R 2 := by
  have n := V.n
  unfold rPer; split
  · rw [rPerson_at n.1.1, if_neg (by decide), if_neg (by omega), if_neg (by omega), if_neg (by omega), if_neg (by omega)]
  · rfl
theorem k2_dis (V : RV R) : rDis R v 2 = R 2 := by
  have n := V.n
  unfold rDis; split
  · rw [rDisp_at, if_neg (by decide), if_neg (by omega)]
  · rfl
theorem k2_by (V : RV R) : rBy R v 2 = R 2 := by unfold rBy; split; exact ur_n (by decide); rfl
theorem k2_arg (V : RV R) : rArgue L R v w u 2 = R 2 ∧ RV (rArgue L R v w u) := by
  unfold rArgue
  split
  · rename_i c
    have k0 : rKeep R 0 = R 0 := rKeep_o V (by decide) (by decide)
    have k1 : rKeep R 1 = R 1 := rKeep_o V (by decide) (by decide)
    have z := (rArg_ok (L := L) (w := true) (rKeep_V V) c.1.1 (by rw [k1]; exact c.1.2) c.2.1.1 (by rw [k0]; exact c.2.1.2) c.2.2.1.1 (by rw [k0]; exact c.2.2.1.2))
    exact ⟨k2_kp V z.2.1, (rKeep_V V).nw z.2.1 z.1⟩
  · exact ⟨rfl, V⟩
theorem k2_pour (V : RV R) : rPourH R v w 2 = R 2 ∧ RV (rPourH R v w) := by
  unfold rPourH
  split
  · rename_i c
    have n := V.n
    have k0 : rKeep R 0 = R 0 := rKeep_o V (by decide) (by decide)
    have kp : rKeep R (13 + 2 * v) = R (13 + 2 * v) := rKeep_o V (by omega) (by omega)
    have e : nowEq (rKeep R) (rPour (rKeep R) v w) := nowEq.rf.ur (by omega)
    refine ⟨k2_kp V e, (rKeep_V V).nw e (rPour_V (rKeep_V V).2.1 ?_)⟩
    unfold canPr; rw [k0, kp]; exact c.1
  · exact ⟨rfl, V⟩
theorem k2_snuff (V : RV R) : rSnuffH R v 2 = R 2 ∧ RV (rSnuffH R v) := by
  unfold rSnuffH
  split
  · rename_i c
    exact ⟨k2_kp V rSnuff_N, (rKeep_V V).nw rSnuff_N (rSnuff_V (rKeep_V V).2.1 c.1.1 c.1.2)⟩
  · exact ⟨rfl, V⟩
theorem k2_nts {z : Bool} : ∀ (n : Nat) (R : Int → Int), RV R → rNts L true z n R 2 = R 2
  | 0, R, _ => rfl
  | n + 1, R, V => by
    by_cases e : R 8 < 9999
    · have q := rNts_t (L := L) (s := true) (w := z) (n := n) e
      rw [if_pos rfl] at q
      rw [q]
      have k8 : rKeep R 8 = R 8 := rKeep_o V (by decide) (by decide)
      have p := rPass_ok (L := L) (w := z) (rKeep_V V) (by omega)
      exact (k2_nts n _ ((rKeep_V V).nw p.2.1 p.1)).trans (k2_kp V p.2.1)
    · rw [rNts_f e]
theorem k2_yrs : ∀ (n : Nat) (R : Int → Int), RV R → rYrs L true n R 2 = R 2
  | 0, R, _ => rfl
  | n + 1, R, V => by
    have y := rYear_ok (L := L) (w := true) V
    exact (k2_yrs n _ (V.nw y.2 y.1)).trans (y.2 2 (by omega))
theorem k2_years (V : RV R) : rYears L R v w 2 = R 2 := by
  unfold rYears
  split
  · have K := rKeep_V V
    have Ex : nowEq (rKeep R) (ur (rKeep R) 9 (v * 2 + 367)) := nowEq.rf.ur (by omega)
    exact (k2_yrs _ _ (K.nw Ex (K.2.1.xx (by omega) (by omega)))).trans (k2_kp V Ex)
  · rfl
theorem k2_night (V : RV R) : rNight L R v 2 = R 2 := by unfold rNight; split; exact k2_nts _ _ V; rfl
theorem k2_undo (V : RV R) : rUndo R 2 = R 2 := by
  unfold rUndo
  split
  · rfl
  · exact rBack_o (by decide) (by omega)
theorem k2_tl (e : tlEq R R') : R' 2 = R 2 := e 2 (by omega) (by omega) (by omega) (by omega) (by omega)
theorem k2_str (V : RV R) : rStreet R v 2 = R 2 := by
  unfold rStreet; split
  · exact k2_tl e_s0
  · split
    · exact k2_tl (e_s V (by omega))
    · rfl
theorem k2_ver (V : RV R) : rVerd R v w 2 = R 2 := by
  unfold rVerd; split
  · exact k2_tl e_v0
  · split
    · exact k2_tl (e_v V (by omega))
    · rfl
theorem k2_sai (V : RV R) : rSaid R v w u 2 = R 2 := by
  unfold rSaid; split
  · exact k2_tl e_t0
  · split
    · exact k2_tl (e_t V (by omega))
    · rfl
theorem v_per (V : RV R) : RV (rPer R v w) := by unfold rPer; split; exact rPerson_V V (by omega) (by omega) (by omega) (by omega) (by omega); exact V
theorem v_dis (V : RV R) : RV (rDis R v) := by unfold rDis; split; exact rDisp_V V (by omega) (by omega) (by omega); exact V
theorem k2_cl {s x y : Int} (V : RV R) : rCl L R s v w u 2 = R 2 ∧ RV (rCl L R s v w u) := by
  unfold rCl
  split
  · exact ⟨k2_per V, v_per V⟩
  · split
    · exact ⟨k2_dis V, v_dis V⟩
    · split
      · exact k2_arg V
      · split
        · exact k2_pour V
        · split
          · exact k2_snuff V
          · split
            · exact ⟨k2_nts _ _ V, rNts_ok _ _ V⟩
            · exact ⟨rfl, V⟩
theorem k2_pl {i : Int} : ∀ (m : Nat) (k : Int) (R : Int → Int), TC R → RV R → plR L T i m k R 2 = R 2 ∧ TC (plR L T i m k R)
  | 0, k, R, t, V => ⟨rfl, t⟩
  | m + 1, k, R, t, V => by
    have z := k2_cl (L := L) (R := R) (s := T (705 * i + 1 + 4 * k)) (v := T (705 * i + 1 + 4 * k + 1)) (w := T (705 * i + 1 + 4 * k + 2)) (u := T (705 * i + 1 + 4 * k + 3)) (x := 0) (y := 0) V
    have tz : TC (cT L T i k R) := T_cl t V
    unfold plR
    split
    · exact ⟨z.1, tz⟩
    · have q := k2_pl (i := i) m (k + 1) (cT L T i k R) tz z.2
      exact ⟨q.1.trans z.1, q.2⟩
theorem k2_played (t : TC R) (V : RV R) : rPlayed L T R v 2 = R 2 ∧ TC (rPlayed L T R v) := by
  unfold rPlayed; split
  · exact k2_pl _ _ _ t V
  · exact ⟨rfl, t⟩
end TWO
/-! the law's loop: what a call leaves -/
section INV2
variable {h h' h1 : Nat → Int → Int} {R R' I : Int → Int} {L : Laws} {n : Int}
theorem CT.o (C : CT h R L) (e : ∀ o : Nat, (2 ≤ o ∧ o ≤ 157) → (o < 19 ∨ 21 < o) → h' o = h o) : CT h' R L := ⟨C.1.c (fun o a c d => e o (by omega) (by omega)), C.2.1, C.2.2.c C.2.1.n.2.2.1.2 (fun o a c => e o (by omega) (by omega))⟩
theorem INV.M (V : INV h R I L) : MT h R L := ⟨V.1, V.2.1.2.1, V.2.2.2.2.1.2⟩
theorem INV.V (V : INV h R I L) : RV R := V.2.1.2.1
theorem INV.z0 (V : INV h R I L) : h 324 0 = 0 := V.2.2.2.2.2.2.1
theorem INV.w1 (V : INV h R I L) : h 336 23 = 1 := V.2.2.2.2.2.2.2
theorem MT.o (M : MT h R L) (e : h' 337 = h 337) (c : h' 339 = h 339) : MT h' R L := ⟨e.trans M.1, M.2.1, by rw [c]; exact M.2.2⟩
/-- a call that looks -/
theorem INV.lk (V : INV h R I L) (e : ∀ o : Nat, (2 ≤ o ∧ o < 19) ∨ (21 < o ∧ o < 316) ∨ (336 ≤ o ∧ o ≤ 340) → h' o = h o) (s : h' 324 0 = 0) : INV h' R I L :=
  ⟨(e 337 (by omega)).trans V.1, V.2.1.o (fun o a c => e o (by omega)), V.2.2.1, V.2.2.2.c V.V.n.2.2.1.2 (fun o a => e o (by omega)) (fun k _ => by rw [e 336 (by omega)]) s⟩
/-- a call that does -/
theorem INV.st (V : INV h R I L) (C : CT h1 R' L) (M : h' 337 = R') (t : TC R') (k2 : R' 2 = R 2) (E : eqT h h1) (E2 : ∀ o : Nat, o ∉ [336, 337, 342, 344] → h' o = h1 o) (c : ∀ k : Int, k ≠ 24 → h' 336 k = h1 336 k) : INV h' R' I L := by
  refine ⟨M, C.o (fun o a _ => E2 o (by simp; omega)), t, ?_⟩
  rw [k2]
  refine V.2.2.2.c V.V.n.2.2.1.2 (fun o a => (E2 o (by simp; omega)).trans (E o (by omega))) (fun k a => ?_) ?_
  · rw [c k (by omega), E 336 (by omega)]
  · rw [E2 324 (by decide), E 324 (by omega)]; exact V.z0
end INV2
