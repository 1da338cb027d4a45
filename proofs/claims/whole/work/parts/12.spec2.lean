theorem cpy_o {h : Nat → Int → Int} {a0 a q : Nat} {sp dp n j : Int} (e : q ≠ a) : cpy h a0 sp a dp n q j = h q j := by unfold cpy; rw [if_neg (fun z => e z.1)]
/-- sums over 0 .. n - 1 -/
def sumN (f : Int → Int) : Nat → Int
  | 0 => 0
  | n + 1 => sumN f n + f n
theorem sumN_s {f : Int → Int} {p : Int} (h : 0 ≤ p) : sumN f (p + 1).toNat = sumN f p.toNat + f p := by
  obtain ⟨n, rfl⟩ := Int.eq_ofNat_of_zero_le h
  rfl
theorem sumN_R {f : Int → Int} {c : Int} : ∀ n : Nat, (∀ i : Int, 0 ≤ i → i < n → 0 ≤ f i ∧ f i ≤ c) → 0 ≤ sumN f n ∧ sumN f n ≤ c * n
  | 0, _ => by simp [sumN]
  | n + 1, h => by
    have ih := sumN_R (f := f) (c := c) n (fun i h0 h1 => h i h0 (by omega))
    have h2 := h n (by omega) (by omega)
    have e : c * ((n + 1 : Nat) : Int) = c * n + c := by rw [Int.natCast_add, Int.mul_add]; simp
    rw [e]
    unfold sumN
    omega
theorem sumN_c {f g : Int → Int} : ∀ n : Nat, (∀ i : Int, 0 ≤ i → i < n → f i = g i) → sumN f n = sumN g n
  | 0, _ => rfl
  | n + 1, h => by
    unfold sumN
    rw [sumN_c n (fun i h0 h1 => h i h0 (by omega)), h n (by omega) (by omega)]
/-- a line is written into the book at object o + 3 of the state o -/
def bookW (h : Nat → Int → Int) (o : Nat) (v : Int) : Nat → Int → Int := if 25 ≤ h o 5 then up (up (up (cpy h (o + 3) 1 (o + 3) 0 24) o 5 24) (o + 3) 24 v) o 5 25 else up (up h (o + 3) (h o 5) v) o 5 (h o 5 + 1)
def lineV (h : Nat → Int → Int) (o : Nat) (d l : Int) : Int := ((h o 3 * 8 + d) * 4 + l) * 1024 + h o 1
theorem qh {Q : V → Hp → Prop} {v : V} {h h' hl : Nat → Int → Int} {b : Bool × Bool} (hQ : Q v (HS h' hl b)) (e : h = h') : Q v (HS h hl b) := e ▸ hQ
theorem wph {G : GT} {δ mc ms : Nat} {y : Md} {pc : Nat} {ls st : List V} {h h' hl : Nat → Int → Int} {b : Bool × Bool} {Q : V → Hp → Prop} (k : WP G δ mc ms y pc ls st (HS h' hl b) Q) (e : h = h') : WP G δ mc ms y pc ls st (HS h hl b) Q := e ▸ k
/-- a state's restoring out of another, so many people -/
def stL (h : Nat → Int → Int) (o q : Nat) (p : Int) : Nat → Int → Int := fun x k => if x = o + 1 ∧ 0 ≤ k ∧ k < p then h (q + 1) k else if x = o + 2 ∧ 0 ≤ k ∧ k < p then h (q + 2) k else h x k
def stR (h : Nat → Int → Int) (o q : Nat) (p : Int) : Nat → Int → Int := fun x k => if x = o ∧ 1 ≤ k ∧ k ≤ 5 then h q k else if x = o + 1 ∧ 0 ≤ k ∧ k < p then h (q + 1) k else if x = o + 2 ∧ 0 ≤ k ∧ k < p then h (q + 2) k else if x = o + 3 ∧ 0 ≤ k ∧ k < 25 then h (q + 3) k else h x k
theorem st_ap {o q : Nat} (ho : ty TT o = some (.inl 5)) (hq : ty TT q = some (.inl 5)) (hn : o ≠ q) : q ≠ o ∧ q ≠ o + 1 ∧ q ≠ o + 2 ∧ q ≠ o + 3 ∧ q + 1 ≠ o ∧ q + 1 ≠ o + 1 ∧ q + 1 ≠ o + 2 ∧ q + 1 ≠ o + 3 ∧ q + 2 ≠ o ∧ q + 2 ≠ o + 1 ∧ q + 2 ≠ o + 2 ∧ q + 2 ≠ o + 3 ∧ q + 3 ≠ o ∧ q + 3 ≠ o + 1 ∧ q + 3 ≠ o + 2 ∧ q + 3 ≠ o + 3 := by
  have a1 := pt5_1 o (tt_lt ho) ho
  have a2 := pt5_2 o (tt_lt ho) ho
  have a3 := pt5_3 o (tt_lt ho) ho
  have b1 := pt5_1 q (tt_lt hq) hq
  have b2 := pt5_2 q (tt_lt hq) hq
  have b3 := pt5_3 q (tt_lt hq) hq
  have n1 : q ≠ o + 1 := fun e => by rw [← e, hq] at a1; cases a1
  have n2 : q ≠ o + 2 := fun e => by rw [← e, hq] at a2; cases a2
  have n3 : q ≠ o + 3 := fun e => by rw [← e, hq] at a3; cases a3
  have m1 : q + 1 ≠ o := fun e => by rw [e, ho] at b1; cases b1
  have m2 : q + 2 ≠ o := fun e => by rw [e, ho] at b2; cases b2
  have m3 : q + 3 ≠ o := fun e => by rw [e, ho] at b3; cases b3
  omega

theorem wX5_draw {G : GT} {δ : Nat} {h hl : Nat → Int → Int} {b : Bool × Bool} {Q : V → Hp → Prop} {by_ : Int} (hδ : δ ≤ 1700) (hb : 0 < by_) (hx : 0 ≤ h 3 4 ∧ h 3 4 < 30869) (hQ : Q (vi (h 3 4 % by_)) (HS (up h 3 4 ((h 3 4 * 617 + 491) % 30869)) hl b)) : WP G δ 0 0 MX5_draw 0 [vr (3), vi by_, vn] [] (HS h hl b) Q := by
  refine il_1 dX5_draw_0 ?_
  refine wp_if_le 13 dX5_draw_1 rfl (fun c1 => ?_) (fun c1 => ?_)
  · omega
  · refine al_0 dX5_draw_4 ?_
    refine g_X5_9 dX5_draw_5 rfl tt3 ?_
    refine il_1 dX5_draw_8 ?_
    refine wp_iremN dX5_draw_9 (by omega) (by omega) ?_
    refine wp_goto 14 dX5_draw_10 rfl ?_
    refine is_2 dX5_draw_14 rfl (by decide) ?_
    refine al_0 dX5_draw_15 ?_
    refine al_0 dX5_draw_16 ?_
    refine g_X5_9 dX5_draw_17 rfl tt3 ?_
    refine si_617 dX5_draw_20 ?_
    refine wp_imul dX5_draw_23 (r32 (by omega) (by omega)) ?_
    refine si_491 dX5_draw_24 ?_
    refine wp_iadd dX5_draw_27 (r32 (by omega) (by omega)) ?_
    refine si_30869 dX5_draw_28 ?_
    refine wp_iremN dX5_draw_31 (by omega) (by omega) ?_
    refine p_X5_9 dX5_draw_32 rfl tt3 ?_
    refine il_2 dX5_draw_35 ?_
    refine wp_ireti dX5_draw_36 rfl ?_
    exact hQ

theorem wX5_oilOfAll_4 {G : GT} {δ : Nat} {h hl : Nat → Int → Int} {b : Bool × Bool} {Q : V → Hp → Prop}  (hδ : δ ≤ 1700) (n0 : 0 ≤ h 3 0) (n4 : h 3 0 ≤ 4) (ho : ∀ i : Int, 0 ≤ i → i < h 3 0 → 0 ≤ h 4 i ∧ h 4 i ≤ 99) : ∀ (n : Nat) (p : Int) (sum : Int), ((h 3 0 - p).toNat) < n → (0 ≤ p) → (p ≤ h 3 0) → (sum = sumN (h 4) p.toNat) → (Q (vi (sumN (h 4) (h 3 0).toNat)) (HS h hl b)) → WP G δ 0 0 MX5_oilOfAll 4 [vr (3), vi sum, vi p] [] (HS h hl b) Q := by
  intro n
  induction n with
  | zero => intro p sum hlt; exact absurd hlt (Nat.not_lt_zero _)
  | succ n ih =>
    intro p sum hlt p0 p1 hs hQ
    refine il_2 dX5_oilOfAll_4 ?_
    refine al_0 dX5_oilOfAll_5 ?_
    refine g_X5_25 dX5_oilOfAll_6 rfl tt3 ?_
    refine wp_icmp_ge 32 dX5_oilOfAll_9 rfl (fun c9 => ?_) (fun c9 => ?_)
    · have e : p = h 3 0 := by omega
      subst e
      refine il_1 dX5_oilOfAll_32 ?_
      refine wp_ireti dX5_oilOfAll_33 rfl ?_
      exact qv hQ hs.symm
    · have hr := sumN_R (f := h 4) (c := 99) p.toNat (fun i i0 i1 => ho i i0 (by omega))
      have hf := ho p p0 (by omega)
      refine il_2 dX5_oilOfAll_12 ?_
      refine ic_4 dX5_oilOfAll_13 ?_
      refine wp_icmp_ge 32 dX5_oilOfAll_14 rfl (fun c14 => ?_) (fun c14 => ?_)
      · omega
      · refine il_1 dX5_oilOfAll_17 ?_
        refine al_0 dX5_oilOfAll_18 ?_
        refine g_X5_15 (4) dX5_oilOfAll_19 rfl tt3 (rr5_6 tt3) (by omega) ?_
        refine il_2 dX5_oilOfAll_22 ?_
        refine wp_iaload dX5_oilOfAll_23 tt4 (by omega) (by omega) ?_
        refine wp_iadd dX5_oilOfAll_24 (r32 (by omega) (by omega)) ?_
        refine is_1 dX5_oilOfAll_25 rfl (by decide) ?_
        refine ii_2 dX5_oilOfAll_26 rfl (by decide) ⟨by decide, by decide⟩ (r32 (by omega) (by omega)) ?_
        refine wp_goto 4 dX5_oilOfAll_29 rfl ?_
        exact ih (p + 1) _ (by omega) (by omega) (by omega) (by rw [sumN_s p0, hs]) hQ

theorem wX5_oilOfAll {G : GT} {δ : Nat} {h hl : Nat → Int → Int} {b : Bool × Bool} {Q : V → Hp → Prop}  (hδ : δ ≤ 1700) (n0 : 0 ≤ h 3 0) (n4 : h 3 0 ≤ 4) (ho : ∀ i : Int, 0 ≤ i → i < h 3 0 → 0 ≤ h 4 i ∧ h 4 i ≤ 99) (hQ : Q (vi (sumN (h 4) (h 3 0).toNat)) (HS h hl b)) : WP G δ 0 0 MX5_oilOfAll 0 [vr (3), vn, vn] [] (HS h hl b) Q := by
  refine ic_0 dX5_oilOfAll_0 ?_
  refine is_1 dX5_oilOfAll_1 rfl (by decide) ?_
  refine ic_0 dX5_oilOfAll_2 ?_
  refine is_2 dX5_oilOfAll_3 rfl (by decide) ?_
  exact wX5_oilOfAll_4 hδ n0 n4 ho _ 0 0 (Nat.lt_succ_self _) (by omega) n0 rfl hQ

theorem wX5_write {G : GT} {δ : Nat} {h hl : Nat → Int → Int} {b : Bool × Bool} {Q : V → Hp → Prop} {d l : Int} (hδ : δ ≤ 1700) (n0 : 0 ≤ h 3 3) (n1 : h 3 3 ≤ 9999) (d0 : 0 ≤ d) (d1 : d < 8) (l0 : 0 ≤ l) (l1 : l < 4) (t0 : 0 ≤ h 3 1) (t1 : h 3 1 < 1024) (k0 : 0 ≤ h 3 5) (k1 : h 3 5 ≤ 25) (hQ : Q vn (HS (bookW h 3 (lineV h 3 d l)) hl b)) : WP G δ 0 0 MX5_write 0 [vr (3), vi d, vi l] [] (HS h hl b) Q := by
  refine al_0 dX5_write_0 ?_
  refine g_X5_41 dX5_write_1 rfl tt3 ?_
  refine bi_25 dX5_write_4 ?_
  refine wp_icmp_lt 30 dX5_write_6 rfl (fun c6 => ?_) (fun c6 => ?_)
  · refine al_0 dX5_write_30 ?_
    refine g_X5_22 (6) dX5_write_31 rfl tt3 (rr5_8 tt3) (by omega) ?_
    refine al_0 dX5_write_34 ?_
    refine g_X5_41 dX5_write_35 rfl tt3 ?_
    refine al_0 dX5_write_38 ?_
    refine g_X5_38 dX5_write_39 rfl tt3 ?_
    refine bi_8 dX5_write_42 ?_
    refine wp_imul dX5_write_44 (r32 (by omega) (by omega)) ?_
    refine il_1 dX5_write_45 ?_
    refine wp_iadd dX5_write_46 (r32 (by omega) (by omega)) ?_
    refine ic_4 dX5_write_47 ?_
    refine wp_imul dX5_write_48 (r32 (by omega) (by omega)) ?_
    refine il_2 dX5_write_49 ?_
    refine wp_iadd dX5_write_50 (r32 (by omega) (by omega)) ?_
    refine si_1024 dX5_write_51 ?_
    refine wp_imul dX5_write_54 (r32 (by omega) (by omega)) ?_
    refine al_0 dX5_write_55 ?_
    refine g_X5_32 dX5_write_56 rfl tt3 ?_
    refine wp_iadd dX5_write_59 (r32 (by omega) (by omega)) ?_
    refine wp_iastore dX5_write_60 tt6 (by omega) (by omega) ?_
    refine al_0 dX5_write_61 ?_
    refine wp_dup dX5_write_62 rfl ?_
    refine g_X5_41 dX5_write_63 rfl tt3 ?_
    rw [up_o (o := 6) (q := 3) (by decide)]
    refine ic_1 dX5_write_66 ?_
    refine wp_iadd dX5_write_67 (r32 (by omega) (by omega)) ?_
    refine p_X5_41 dX5_write_68 rfl tt3 ?_
    refine wp_vret dX5_write_71 rfl ?_
    refine qh hQ ?_
    unfold bookW lineV
    first | (rw [if_pos (by omega)]; rfl) | (rw [if_neg (by omega)]; done)
  · refine al_0 dX5_write_9 ?_
    refine g_X5_22 (6) dX5_write_10 rfl tt3 (rr5_8 tt3) (by omega) ?_
    refine ic_1 dX5_write_13 ?_
    refine al_0 dX5_write_14 ?_
    refine g_X5_22 (6) dX5_write_15 rfl tt3 (rr5_8 tt3) (by omega) ?_
    refine ic_0 dX5_write_18 ?_
    refine bi_24 dX5_write_19 ?_
    refine c_X5_44 dX5_write_21 rfl tt6 tt6 (by omega) (by omega) (by omega) (by omega) (by omega) (by simp) (by omega) ?_
    refine al_0 dX5_write_24 ?_
    refine bi_24 dX5_write_25 ?_
    refine p_X5_41 dX5_write_27 rfl tt3 ?_
    refine al_0 dX5_write_30 ?_
    refine g_X5_22 (6) dX5_write_31 rfl tt3 (rr5_8 tt3) (by omega) ?_
    refine al_0 dX5_write_34 ?_
    refine g_X5_41 dX5_write_35 rfl tt3 ?_
    rw [up_s]
    refine al_0 dX5_write_38 ?_
    refine g_X5_38 dX5_write_39 rfl tt3 ?_
    rw [up_k (o := 3) (q := 3) (k := 5) (j := 3) (by decide)]
    rw [cpy_o (a := 6) (q := 3) (by decide)]
    refine bi_8 dX5_write_42 ?_
    refine wp_imul dX5_write_44 (r32 (by omega) (by omega)) ?_
    refine il_1 dX5_write_45 ?_
    refine wp_iadd dX5_write_46 (r32 (by omega) (by omega)) ?_
    refine ic_4 dX5_write_47 ?_
    refine wp_imul dX5_write_48 (r32 (by omega) (by omega)) ?_
    refine il_2 dX5_write_49 ?_
    refine wp_iadd dX5_write_50 (r32 (by omega) (by omega)) ?_
    refine si_1024 dX5_write_51 ?_
    refine wp_imul dX5_write_54 (r32 (by omega) (by omega)) ?_
    refine al_0 dX5_write_55 ?_
    refine g_X5_32 dX5_write_56 rfl tt3 ?_
    rw [up_k (o := 3) (q := 3) (k := 5) (j := 1) (by decide)]
    rw [cpy_o (a := 6) (q := 3) (by decide)]
    refine wp_iadd dX5_write_59 (r32 (by omega) (by omega)) ?_
    refine wp_iastore dX5_write_60 tt6 (by omega) (by omega) ?_
    refine al_0 dX5_write_61 ?_
    refine wp_dup dX5_write_62 rfl ?_
    refine g_X5_41 dX5_write_63 rfl tt3 ?_
    rw [up_o (o := 6) (q := 3) (by decide)]
    rw [up_s]
    refine ic_1 dX5_write_66 ?_
    refine wp_iadd dX5_write_67 (r32 (by omega) (by omega)) ?_
    refine p_X5_41 dX5_write_68 rfl tt3 ?_
    refine wp_vret dX5_write_71 rfl ?_
    refine qh hQ ?_
    unfold bookW lineV
    first | (rw [if_pos (by omega)]; rfl) | (rw [if_neg (by omega)]; done)

def rdB (h : Nat → Int → Int) (i w : Int) : Int := if 0 ≤ i ∧ i < h 3 5 then (if w = 0 then h 6 i / 1024 / 32 else if w = 1 then h 6 i / 1024 / 4 % 8 else if w = 2 then h 6 i / 1024 % 4 else if w = 3 then h 6 i % 1024 else -2) else -2

theorem wX5_restore_2 {G : GT} {δ : Nat} {h hl : Nat → Int → Int} {b : Bool × Bool} {Q : V → Hp → Prop} {o q : Nat} (hδ : δ ≤ 1700) (ho : ty TT o = some (.inl 5)) (hq : ty TT q = some (.inl 5)) (hn : o ≠ q) (n0 : 0 ≤ h q 0) (n4 : h q 0 ≤ 4) : ∀ (n : Nat) (p : Int), ((h q 0 - p).toNat) < n → (0 ≤ p) → (p ≤ h q 0) → (Q vn (HS (stR h o q (h q 0)) hl b)) → WP G δ 0 0 MX5_restore 2 [vr (o), vr (q), vi p] [] (HS (stL h o q p) hl b) Q := by
  intro n
  induction n with
  | zero => intro p hlt; exact absurd hlt (Nat.not_lt_zero _)
  | succ n ih =>
    intro p hlt p0 p1 hQ
    obtain ⟨m1, m2, m3, m4, m5, m6, m7, m8, m9, m10, m11, m12, m13, m14, m15, m16⟩ := st_ap ho hq hn
    have e0 : stL h o q p q 0 = h q 0 := by unfold stL; rw [if_neg (fun z => m2 z.1), if_neg (fun z => m3 z.1)]
    refine il_2 dX5_restore_2 ?_
    refine al_1 dX5_restore_3 ?_
    refine g_X5_25 dX5_restore_4 rfl hq ?_
    rw [e0]
    refine wp_icmp_ge 45 dX5_restore_7 rfl (fun c7 => ?_) (fun c7 => ?_)
    · refine al_0 dX5_restore_45 ?_
      refine al_1 dX5_restore_46 ?_
      refine g_X5_32 dX5_restore_47 rfl hq ?_
      refine p_X5_32 dX5_restore_50 rfl ho ?_
      refine al_0 dX5_restore_53 ?_
      refine al_1 dX5_restore_54 ?_
      refine g_X5_35 dX5_restore_55 rfl hq ?_
      refine p_X5_35 dX5_restore_58 rfl ho ?_
      refine al_0 dX5_restore_61 ?_
      refine al_1 dX5_restore_62 ?_
      refine g_X5_38 dX5_restore_63 rfl hq ?_
      refine p_X5_38 dX5_restore_66 rfl ho ?_
      refine al_0 dX5_restore_69 ?_
      refine al_1 dX5_restore_70 ?_
      refine g_X5_9 dX5_restore_71 rfl hq ?_
      refine p_X5_9 dX5_restore_74 rfl ho ?_
      refine al_0 dX5_restore_77 ?_
      refine al_1 dX5_restore_78 ?_
      refine g_X5_41 dX5_restore_79 rfl hq ?_
      refine p_X5_41 dX5_restore_82 rfl ho ?_
      refine al_1 dX5_restore_85 ?_
      refine g_X5_22 (q + 3) dX5_restore_86 rfl hq (rr5_8 hq) (by omega) ?_
      refine ic_0 dX5_restore_89 ?_
      refine al_0 dX5_restore_90 ?_
      refine g_X5_22 (o + 3) dX5_restore_91 rfl ho (rr5_8 ho) (by omega) ?_
      refine ic_0 dX5_restore_94 ?_
      refine bi_25 dX5_restore_95 ?_
      refine c_X5_44 dX5_restore_97 rfl (pt5_3 _ (tt_lt hq) hq) (pt5_3 _ (tt_lt ho) ho) (by omega) (by omega) (by omega) (by omega) (by omega) (by simp) (by omega) ?_
      refine wp_vret dX5_restore_100 rfl ?_
      refine qh hQ ?_
      clear ih hQ
      funext x k
      grind (splits := 40) [up, stL, stR, cpy]
    · refine il_2 dX5_restore_10 ?_
      refine ic_4 dX5_restore_11 ?_
      refine wp_icmp_ge 45 dX5_restore_12 rfl (fun c12 => ?_) (fun c12 => ?_)
      · omega
      · refine al_0 dX5_restore_15 ?_
        refine g_X5_15 (o + 1) dX5_restore_16 rfl ho (rr5_6 ho) (by omega) ?_
        refine il_2 dX5_restore_19 ?_
        refine al_1 dX5_restore_20 ?_
        refine g_X5_15 (q + 1) dX5_restore_21 rfl hq (rr5_6 hq) (by omega) ?_
        refine il_2 dX5_restore_24 ?_
        refine wp_iaload dX5_restore_25 (pt5_1 _ (tt_lt hq) hq) (by omega) (by omega) ?_
        refine wp_iastore dX5_restore_26 (pt5_1 _ (tt_lt ho) ho) (by omega) (by omega) ?_
        refine al_0 dX5_restore_27 ?_
        refine g_X5_19 (o + 2) dX5_restore_28 rfl ho (rr5_7 ho) (by omega) ?_
        refine il_2 dX5_restore_31 ?_
        refine al_1 dX5_restore_32 ?_
        refine g_X5_19 (q + 2) dX5_restore_33 rfl hq (rr5_7 hq) (by omega) ?_
        refine il_2 dX5_restore_36 ?_
        refine wp_iaload dX5_restore_37 (pt5_2 _ (tt_lt hq) hq) (by omega) (by omega) ?_
        refine wp_iastore dX5_restore_38 (pt5_2 _ (tt_lt ho) ho) (by omega) (by omega) ?_
        refine ii_2 dX5_restore_39 rfl (by decide) ⟨by decide, by decide⟩ (r32 (by omega) (by omega)) ?_
        refine wp_goto 2 dX5_restore_42 rfl ?_
        refine wph (ih (p + 1) (by omega) (by omega) (by omega) hQ) ?_
        funext x k
        grind [up, stL]

theorem wX5_restore {G : GT} {δ : Nat} {h hl : Nat → Int → Int} {b : Bool × Bool} {Q : V → Hp → Prop} {o q : Nat} (hδ : δ ≤ 1700) (ho : ty TT o = some (.inl 5)) (hq : ty TT q = some (.inl 5)) (hn : o ≠ q) (n0 : 0 ≤ h q 0) (n4 : h q 0 ≤ 4) (hQ : Q vn (HS (stR h o q (h q 0)) hl b)) : WP G δ 0 0 MX5_restore 0 [vr (o), vr (q), vn] [] (HS h hl b) Q := by
  refine ic_0 dX5_restore_0 ?_
  refine is_2 dX5_restore_1 rfl (by decide) ?_
  refine wph (wX5_restore_2 hδ ho hq hn n0 n4 _ 0 (Nat.lt_succ_self _) (by omega) n0 hQ) ?_
  funext x k
  grind [stL]

def stC (h : Nat → Int → Int) (o q : Nat) : Nat → Int → Int := fun x k => if x = o ∧ k = 0 then h q 0 else stR h o q (h q 0) x k

theorem wX5_copy {G : GT} {δ : Nat} {h hl : Nat → Int → Int} {b : Bool × Bool} {Q : V → Hp → Prop} {o q : Nat} (hδ : δ ≤ 1680) (ho : ty TT o = some (.inl 5)) (hq : ty TT q = some (.inl 5)) (hn : o ≠ q) (n0 : 0 ≤ h q 0) (n4 : h q 0 ≤ 4) (hQ : Q vn (HS (stC h o q) hl b)) : WP G δ 0 0 MX5_copy 0 [vr (o), vr (q)] [] (HS h hl b) Q := by
  refine al_0 dX5_copy_0 ?_
  refine al_1 dX5_copy_1 ?_
  refine g_X5_25 dX5_copy_2 rfl hq ?_
  refine p_X5_25 dX5_copy_5 rfl ho ?_
  refine al_0 dX5_copy_8 ?_
  refine al_1 dX5_copy_9 ?_
  refine c_X5_28 dX5_copy_10 rfl ho (Nat.le_of_ble_eq_true rfl) (by omega) ?_
  have m1 := (st_ap ho hq hn).1
  have e0 : up h o 0 (h q 0) q 0 = h q 0 := up_o m1
  refine wX5_restore (by omega) ho hq hn (by rw [e0]; exact n0) (by rw [e0]; exact n4) ?_
  refine pv_n ?_
  refine wp_vret dX5_copy_13 rfl ?_
  obtain ⟨m1, m2, m3, m4, m5, m6, m7, m8, m9, m10, m11, m12, m13, m14, m15, m16⟩ := st_ap ho hq hn
  refine qh hQ ?_
  clear hQ
  funext x k
  grind (splits := 40) [up, stR, stC]

theorem wX5_read {G : GT} {δ : Nat} {h hl : Nat → Int → Int} {b : Bool × Bool} {Q : V → Hp → Prop} {i w : Int} (hδ : δ ≤ 1700) (k1 : h 3 5 ≤ 25) (hb : ∀ i : Int, 0 ≤ i → i < h 3 5 → 0 ≤ h 6 i) (hQ : Q (vi (rdB h i w)) (HS h hl b)) : WP G δ 0 0 MX5_read 0 [vr (3), vi i, vi w, vn, vn] [] (HS h hl b) Q := by
  refine il_1 dX5_read_0 ?_
  refine wp_if_lt 18 dX5_read_1 rfl (fun c1 => ?_) (fun c1 => ?_)
  · refine bi_m2 dX5_read_18 ?_
    refine wp_ireti dX5_read_20 rfl ?_
    refine qv hQ ?_
    unfold rdB
    first | rw [if_neg (by omega)] | (rw [if_pos (by omega)]; first | rw [if_pos (by omega)] | (rw [if_neg (by omega)]; first | rw [if_pos (by omega)] | (rw [if_neg (by omega)]; first | rw [if_pos (by omega)] | (rw [if_neg (by omega)]; first | rw [if_pos (by omega)] | rw [if_neg (by omega)]))))
  · refine il_1 dX5_read_4 ?_
    refine al_0 dX5_read_5 ?_
    refine g_X5_41 dX5_read_6 rfl tt3 ?_
    refine wp_icmp_ge 18 dX5_read_9 rfl (fun c9 => ?_) (fun c9 => ?_)
    · refine bi_m2 dX5_read_18 ?_
      refine wp_ireti dX5_read_20 rfl ?_
      refine qv hQ ?_
      unfold rdB
      first | rw [if_neg (by omega)] | (rw [if_pos (by omega)]; first | rw [if_pos (by omega)] | (rw [if_neg (by omega)]; first | rw [if_pos (by omega)] | (rw [if_neg (by omega)]; first | rw [if_pos (by omega)] | (rw [if_neg (by omega)]; first | rw [if_pos (by omega)] | rw [if_neg (by omega)]))))
    · refine il_1 dX5_read_12 ?_
      refine bi_25 dX5_read_13 ?_
      refine wp_icmp_lt 21 dX5_read_15 rfl (fun c15 => ?_) (fun c15 => ?_)
      · refine al_0 dX5_read_21 ?_
        refine g_X5_22 (6) dX5_read_22 rfl tt3 (rr5_8 tt3) (by omega) ?_
        refine il_1 dX5_read_25 ?_
        refine wp_iaload dX5_read_26 tt6 (by omega) (by omega) ?_
        refine is_3 dX5_read_27 rfl (by decide) ?_
        refine il_3 dX5_read_28 ?_
        have hp := hb i (by omega) (by omega)
        refine si_1024 dX5_read_29 ?_
        refine wp_idivN dX5_read_32 (by omega) (by omega) ?_
        refine is_4 dX5_read_33 rfl (by decide) ?_
        refine il_2 dX5_read_35 ?_
        rcases (show ((w) < 0 ∨ 3 < (w)) ∨ ((w) = 0) ∨ ((w) = 1) ∨ ((w) = 2) ∨ ((w) = 3) by omega) with c36 | c36 | c36 | c36 | c36
        · refine wp_tswD 93 dX5_read_36 (by omega) rfl ?_
          refine bi_m2 dX5_read_93 ?_
          refine wp_ireti dX5_read_95 rfl ?_
          refine qv hQ ?_
          unfold rdB
          first | rw [if_neg (by omega)] | (rw [if_pos (by omega)]; first | rw [if_pos (by omega)] | (rw [if_neg (by omega)]; first | rw [if_pos (by omega)] | (rw [if_neg (by omega)]; first | rw [if_pos (by omega)] | (rw [if_neg (by omega)]; first | rw [if_pos (by omega)] | rw [if_neg (by omega)]))))
        · refine wp_tsw 68 dX5_read_36 (by omega) (by omega) (32) (by rw [c36]; rfl) rfl ?_
          refine il_4 dX5_read_68 ?_
          refine bi_32 dX5_read_70 ?_
          refine wp_idivN dX5_read_72 (by omega) (by omega) ?_
          refine wp_ireti dX5_read_73 rfl ?_
          refine qv hQ ?_
          unfold rdB
          first | rw [if_neg (by omega)] | (rw [if_pos (by omega)]; first | rw [if_pos (by omega)] | (rw [if_neg (by omega)]; first | rw [if_pos (by omega)] | (rw [if_neg (by omega)]; first | rw [if_pos (by omega)] | (rw [if_neg (by omega)]; first | rw [if_pos (by omega)] | rw [if_neg (by omega)]))))
        · refine wp_tsw 74 dX5_read_36 (by omega) (by omega) (38) (by rw [c36]; rfl) rfl ?_
          refine il_4 dX5_read_74 ?_
          refine ic_4 dX5_read_76 ?_
          refine wp_idivN dX5_read_77 (by omega) (by omega) ?_
          refine bi_8 dX5_read_78 ?_
          refine wp_iremN dX5_read_80 (by omega) (by omega) ?_
          refine wp_ireti dX5_read_81 rfl ?_
          refine qv hQ ?_
          unfold rdB
          first | rw [if_neg (by omega)] | (rw [if_pos (by omega)]; first | rw [if_pos (by omega)] | (rw [if_neg (by omega)]; first | rw [if_pos (by omega)] | (rw [if_neg (by omega)]; first | rw [if_pos (by omega)] | (rw [if_neg (by omega)]; first | rw [if_pos (by omega)] | rw [if_neg (by omega)]))))
        · refine wp_tsw 82 dX5_read_36 (by omega) (by omega) (46) (by rw [c36]; rfl) rfl ?_
          refine il_4 dX5_read_82 ?_
          refine ic_4 dX5_read_84 ?_
          refine wp_iremN dX5_read_85 (by omega) (by omega) ?_
          refine wp_ireti dX5_read_86 rfl ?_
          refine qv hQ ?_
          unfold rdB
          first | rw [if_neg (by omega)] | (rw [if_pos (by omega)]; first | rw [if_pos (by omega)] | (rw [if_neg (by omega)]; first | rw [if_pos (by omega)] | (rw [if_neg (by omega)]; first | rw [if_pos (by omega)] | (rw [if_neg (by omega)]; first | rw [if_pos (by omega)] | rw [if_neg (by omega)]))))
        · refine wp_tsw 87 dX5_read_36 (by omega) (by omega) (51) (by rw [c36]; rfl) rfl ?_
          refine il_3 dX5_read_87 ?_
          refine si_1024 dX5_read_88 ?_
          refine wp_iremN dX5_read_91 (by omega) (by omega) ?_
          refine wp_ireti dX5_read_92 rfl ?_
          refine qv hQ ?_
          unfold rdB
          first | rw [if_neg (by omega)] | (rw [if_pos (by omega)]; first | rw [if_pos (by omega)] | (rw [if_neg (by omega)]; first | rw [if_pos (by omega)] | (rw [if_neg (by omega)]; first | rw [if_pos (by omega)] | (rw [if_neg (by omega)]; first | rw [if_pos (by omega)] | rw [if_neg (by omega)]))))
      · omega

def cntN (P : Int → Bool) : Nat → Int
  | 0 => 0
  | n + 1 => cntN P n + if P n then 1 else 0
theorem cntN_s {P : Int → Bool} {p : Int} (h : 0 ≤ p) : cntN P (p + 1).toNat = cntN P p.toNat + if P p then 1 else 0 := by
  obtain ⟨n, rfl⟩ := Int.eq_ofNat_of_zero_le h
  rfl
theorem cntN_R {P : Int → Bool} : ∀ n : Nat, 0 ≤ cntN P n ∧ cntN P n ≤ n
  | 0 => by simp [cntN]
  | n + 1 => by
    have := cntN_R (P := P) n
    unfold cntN
    split <;> omega
theorem cntN_c {P P' : Int → Bool} : ∀ n : Nat, (∀ i : Int, 0 ≤ i → i < n → P i = P' i) → cntN P n = cntN P' n
  | 0, _ => rfl
  | n + 1, h => by
    unfold cntN
    rw [cntN_c n (fun i h0 h1 => h i h0 (by omega)), h n (by omega) (by omega)]

theorem wX5_linesOf_4 {G : GT} {δ : Nat} {h hl : Nat → Int → Int} {b : Bool × Bool} {Q : V → Hp → Prop} {l : Int} (hδ : δ ≤ 1680) (k0 : 0 ≤ h 3 5) (k1 : h 3 5 ≤ 25) (hb : ∀ i : Int, 0 ≤ i → i < h 3 5 → 0 ≤ h 6 i) : ∀ (n : Nat) (c : Int) (i : Int), ((h 3 5 - i).toNat) < n → (0 ≤ i) → (i ≤ h 3 5) → (c = cntN (fun j => rdB h j 2 == l) i.toNat) → (Q (vi (cntN (fun j => rdB h j 2 == l) (h 3 5).toNat)) (HS h hl b)) → WP G δ 0 0 MX5_linesOf 4 [vr (3), vi l, vi c, vi i] [] (HS h hl b) Q := by
  intro n
  induction n with
  | zero => intro c i hlt; exact absurd hlt (Nat.not_lt_zero _)
  | succ n ih =>
    intro c i hlt i0 i1 hc hQ
    refine il_3 dX5_linesOf_4 ?_
    refine al_0 dX5_linesOf_5 ?_
    refine g_X5_41 dX5_linesOf_6 rfl tt3 ?_
    refine wp_icmp_ge 31 dX5_linesOf_9 rfl (fun c9 => ?_) (fun c9 => ?_)
    · have e : i = h 3 5 := by omega
      subst e
      refine il_2 dX5_linesOf_31 ?_
      refine wp_ireti dX5_linesOf_32 rfl ?_
      exact qv hQ hc.symm
    · have hr := cntN_R (P := fun j => rdB h j 2 == l) i.toNat
      refine al_0 dX5_linesOf_12 ?_
      refine il_3 dX5_linesOf_13 ?_
      refine ic_2 dX5_linesOf_14 ?_
      refine c_X5_50 dX5_linesOf_15 rfl tt3 (Nat.le_of_ble_eq_true rfl) (by omega) ?_
      refine wX5_read (by omega) k1 hb ?_
      refine pv_i ?_
      refine il_1 dX5_linesOf_18 ?_
      refine wp_icmp_ne 25 dX5_linesOf_19 rfl (fun c19 => ?_) (fun c19 => ?_)
      · refine ii_3 dX5_linesOf_25 rfl (by decide) ⟨by decide, by decide⟩ (r32 (by omega) (by omega)) ?_
        refine wp_goto 4 dX5_linesOf_28 rfl ?_
        exact ih _ (i + 1) (by omega) (by omega) (by omega) (by rw [cntN_s i0, hc]; simp [c19]) hQ
      · refine ii_2 dX5_linesOf_22 rfl (by decide) ⟨by decide, by decide⟩ (r32 (by omega) (by omega)) ?_
        refine ii_3 dX5_linesOf_25 rfl (by decide) ⟨by decide, by decide⟩ (r32 (by omega) (by omega)) ?_
        refine wp_goto 4 dX5_linesOf_28 rfl ?_
        exact ih _ (i + 1) (by omega) (by omega) (by omega) (by rw [cntN_s i0, hc]; simp [c19]) hQ

theorem wX5_linesOf {G : GT} {δ : Nat} {h hl : Nat → Int → Int} {b : Bool × Bool} {Q : V → Hp → Prop} {l : Int} (hδ : δ ≤ 1680) (k0 : 0 ≤ h 3 5) (k1 : h 3 5 ≤ 25) (hb : ∀ i : Int, 0 ≤ i → i < h 3 5 → 0 ≤ h 6 i) (hQ : Q (vi (cntN (fun j => rdB h j 2 == l) (h 3 5).toNat)) (HS h hl b)) : WP G δ 0 0 MX5_linesOf 0 [vr (3), vi l, vn, vn] [] (HS h hl b) Q := by
  refine ic_0 dX5_linesOf_0 ?_
  refine is_2 dX5_linesOf_1 rfl (by decide) ?_
  refine ic_0 dX5_linesOf_2 ?_
  refine is_3 dX5_linesOf_3 rfl (by decide) ?_
  exact wX5_linesOf_4 hδ k0 k1 hb _ 0 0 (Nat.lt_succ_self _) (by omega) k0 rfl hQ
