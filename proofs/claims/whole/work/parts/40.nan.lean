/-! a load by a capacity is a number -/
section NAN
def nanB (a b : Nat) : Bool := decide (FP.ddiv (FP.i2d (nI a - 513)) (FP.i2d (nI b)) &&& 0x7fffffffffffffff ≤ 0x7ff0000000000000)
theorem nan_1 : ∀ a, a < 1027 → nanB a 1 = true := by decide +kernel
theorem nan_2 : ∀ a, a < 1027 → nanB a 2 = true := by decide +kernel
theorem nan_3 : ∀ a, a < 1027 → nanB a 3 = true := by decide +kernel
theorem nan_4 : ∀ a, a < 1027 → nanB a 4 = true := by decide +kernel
theorem nan_5 : ∀ a, a < 1027 → nanB a 5 = true := by decide +kernel
theorem nan_6 : ∀ a, a < 1027 → nanB a 6 = true := by decide +kernel
theorem nan_7 : ∀ a, a < 1027 → nanB a 7 = true := by decide +kernel
theorem nan_8 : ∀ a, a < 1027 → nanB a 8 = true := by decide +kernel
theorem nan_9 : ∀ a, a < 1027 → nanB a 9 = true := by decide +kernel
theorem nan_10 : ∀ a, a < 1027 → nanB a 10 = true := by decide +kernel
theorem nan_11 : ∀ a, a < 1027 → nanB a 11 = true := by decide +kernel
theorem nan_12 : ∀ a, a < 1027 → nanB a 12 = true := by decide +kernel
theorem nan_13 : ∀ a, a < 1027 → nanB a 13 = true := by decide +kernel
theorem nan_14 : ∀ a, a < 1027 → nanB a 14 = true := by decide +kernel
theorem nan_15 : ∀ a, a < 1027 → nanB a 15 = true := by decide +kernel
theorem nan_16 : ∀ a, a < 1027 → nanB a 16 = true := by decide +kernel
theorem nan_17 : ∀ a, a < 1027 → nanB a 17 = true := by decide +kernel
theorem nan_18 : ∀ a, a < 1027 → nanB a 18 = true := by decide +kernel
theorem nan_19 : ∀ a, a < 1027 → nanB a 19 = true := by decide +kernel
theorem nan_20 : ∀ a, a < 1027 → nanB a 20 = true := by decide +kernel
end NAN
