def y_shr (μ : zS) (w1 : Int32) : Nat := zct (fun o => !decide (nI o = w1) && zany (fun i => decide (zA μ 55 0 i = w1) && y_shH μ (nI o) (nI i)) (zn μ 841)) (zn μ 840)
def f_X10_sharers (μ : zS) (w1 : Int32) : zS := zpI μ 838 0 (if y_has μ 840 w1 = true then 0 else 1)
def r_X10_sharers (μ : zS) (w1 : Int32) : Int32 := if y_has μ 840 w1 = true then nI (y_shr μ w1) else 0
theorem bsh2 {x y : Int32} {bb : Bool} {f : Nat → Bool} {i n : Nat} (hz : x = y → bb = false) (hb : ¬ x = y → bb = zany f i) (h : x = y ∨ i = n) : bb = (!decide (x = y) && zany f n) := by
  by_cases g : x = y
  · rw [hz g, decide_eq_true g]; rfl
  · rw [hb g, decide_eq_false g]
    rcases h with h | h
    · exact absurd h g
    · rw [h]; rfl