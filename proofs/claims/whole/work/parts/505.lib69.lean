/-! the start -/
def R0 : Int → Int := fun k => if k = 3 then -1 else if k = 9 then 367 else 0
theorem R0_0 {k : Int} (a : k ≠ 3) (c : k ≠ 9) : R0 k = 0 := by unfold R0; rw [if_neg a, if_neg c]
theorem R0_3 : R0 3 = -1 := rfl
theorem R0_9 : R0 9 = 367 := rfl
theorem RV_0 : RV R0 := by
  have e0 : R0 0 = 0 := rfl
  have e1 : R0 1 = 0 := rfl
  have e4 : R0 4 = 0 := rfl
  have e5 : R0 5 = 0 := rfl
  have e6 : R0 6 = 0 := rfl
  have e7 : R0 7 = 0 := rfl
  have e12 : R0 12 = 0 := rfl
  refine ⟨⟨by decide, by decide, by decide, by decide, by decide, by decide, by decide, by decide⟩, ⟨by decide, by decide, by decide, by decide, by decide, by decide, by decide, by decide, by decide, by decide, by decide, by decide, fun p p0 p1 => ?_, fun p p0 p1 => ?_, fun k k0 k1 => ?_⟩, fun p p0 p1 => ?_, fun p p0 p1 => ?_, fun p p0 p1 => ?_, fun p p0 p1 => ?_, fun p p0 p1 => ?_, fun p p0 p1 => ?_, fun j j0 j1 => ?_⟩
  · rw [e0] at p1; omega
  · rw [e0] at p1; omega
  · rw [show (8 : Int) + 4 = 12 from rfl, e12] at k1; omega
  · rw [e0] at p1; omega
  · rw [e0] at p1; omega
  · rw [e1] at p1; omega
  · rw [e5] at p1; omega
  · rw [e6] at p1; omega
  · rw [e7] at p1; omega
  · rw [e4] at j1; omega
theorem TC_0 : TC R0 := fun j j0 j1 => by rw [show R0 4 = 0 from rfl] at j1; omega
theorem TP_0 {h : Nat → Int → Int} {t : Nat} (a : ∀ k : Int, h t k = if k = 8 then -1 else 0) (c : ∀ k : Int, h (t + 1) k = if k = 4 then 367 else 0) (d : ∀ q : Nat, t + 2 ≤ q → q ≤ t + 14 → ∀ k : Int, h q k = 0) : TPic h t R0 := by
  have td : ∀ (o : Nat) (n : Int) (f : Int → Int), t + 2 ≤ o → o ≤ t + 14 → n = 0 → TD h o n f := fun o n f o0 o1 e => ⟨by rw [d o o0 o1, e], fun k k0 k1 => by omega⟩
  refine ⟨⟨by rw [c]; rfl, by rw [c]; rfl, by rw [c]; rfl, by rw [c]; rfl, by rw [c]; rfl, by rw [c]; rfl, fun p p0 p1 => ?_, fun p p0 p1 => ?_, fun k k0 k1 => ?_⟩, td _ _ _ (by omega) (by omega) rfl, td _ _ _ (by omega) (by omega) rfl, td _ _ _ (by omega) (by omega) rfl, td _ _ _ (by omega) (by omega) rfl, td _ _ _ (by omega) (by omega) rfl, ⟨by rw [a]; rfl, by rw [a]; rfl, by rw [a]; rfl, by rw [a]; decide, by rw [a]; decide⟩, fun j j0 j1 => ?_⟩
  · rw [show R0 0 = 0 from rfl] at p1; omega
  · rw [show R0 0 = 0 from rfl] at p1; omega
  · rw [show R0 (8 + 4) = 0 from rfl] at k1; omega
  · rw [show R0 4 = 0 from rfl] at j1; omega
theorem INV_0 {h : Nat → Int → Int} (t : T8 h) (a4 : h 336 4 = 0) (a5 : h 336 5 = -1) (a6 : h 336 6 = -1) (a23 : h 336 23 = 1) (r : ∀ k : Int, h 337 k = if k = 3 then -1 else if k = 9 then 367 else 0) (e : eqR (h 337) (h 338)) : INV h R0 R0 (fun _ _ => none) := by
  obtain ⟨⟨b1, b2, b3⟩, ⟨c1, c2, c3⟩, d1, d2, d3⟩ := t
  have er : h 337 = R0 := funext r
  have e2 : R0 2 = 0 := rfl
  rw [er] at e
  refine ⟨er, ⟨TP_0 b1 b2 b3, RV_0, fun i i0 i1 => ?_⟩, TC_0, ⟨e, RV_0, TC_0, TP_0 c1 c2 c3, fun i i0 i1 => ?_, fun i i0 i1 => ?_, Int.le_refl _⟩, ⟨fun i i0 i1 => ?_, fun i i0 i1 => ?_⟩, ⟨⟨by rw [d1, a4], by rw [a4]; decide, by rw [a4]; decide, fun k k0 k1 => by rw [a4] at k1; omega⟩, ⟨fun _ => ⟨a5, a6⟩, fun q => absurd d2 q⟩⟩, d3, a23⟩
  all_goals (rw [e2] at i1; omega)
