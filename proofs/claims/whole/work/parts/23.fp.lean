/-! no quotient of the two counts is NaN -/
def fpOK (a b : Nat) : Bool := decide (FP.ddiv (FP.i2d (nI a)) (FP.i2d (nI b)) &&& 0x7fffffffffffffff ≤ 0x7ff0000000000000)
set_option maxRecDepth 100000 in
theorem fp_a : ∀ b, b < 126 → ∀ a, a < b + 1 → b = 0 ∨ fpOK a b = true := by decide +kernel
set_option maxRecDepth 100000 in
theorem fp_b : ∀ b, b < 63 → ∀ a, a < 126 + b + 1 → fpOK a (126 + b) = true := by decide +kernel
set_option maxRecDepth 100000 in
theorem fp_c : ∀ b, b < 63 → ∀ a, a < 189 + b + 1 → fpOK a (189 + b) = true := by decide +kernel
theorem fp_ok {a b : Nat} (h : a ≤ b) (h0 : ¬ b = 0) (hb : b ≤ 250) : FP.ddiv (FP.i2d (nI a)) (FP.i2d (nI b)) &&& 0x7fffffffffffffff ≤ 0x7ff0000000000000 := by
  have e : fpOK a b = true := by
    by_cases q : b < 126
    · exact (fp_a b q a (by omega)).resolve_left h0
    · by_cases q2 : b < 189
      · have := fp_b (b - 126) (by omega) a (by omega)
        rw [show 126 + (b - 126) = b by omega] at this
        exact this
      · have := fp_c (b - 189) (by omega) a (by omega)
        rw [show 189 + (b - 189) = b by omega] at this
        exact this
  exact of_decide_eq_true e
