/-! bits of a set of sets: how many -/
def ctN (n : Nat) : Nat → Nat
  | 0 => 0
  | i + 1 => ctN n i + (if n.testBit i = true then 1 else 0)
def ppN (n : Nat) : Nat :=
  let a := n - (n / 2 &&& 1431655765)
  let b := (a &&& 858993459) + (a / 4 &&& 858993459)
  let c := (b + b / 16) &&& 252645135
  let d := c + c / 256
  (d + d / 65536) &&& 63
theorem ppN_0 : ∀ a, a < 16 → ∀ u, u < 256 → ppN (256 * (0 + a) + u) = ctN (256 * (0 + a) + u) 16 := by decide +kernel
theorem ppN_1 : ∀ a, a < 16 → ∀ u, u < 256 → ppN (256 * (16 + a) + u) = ctN (256 * (16 + a) + u) 16 := by decide +kernel
theorem ppN_2 : ∀ a, a < 16 → ∀ u, u < 256 → ppN (256 * (32 + a) + u) = ctN (256 * (32 + a) + u) 16 := by decide +kernel
theorem ppN_3 : ∀ a, a < 16 → ∀ u, u < 256 → ppN (256 * (48 + a) + u) = ctN (256 * (48 + a) + u) 16 := by decide +kernel
theorem ppN_4 : ∀ a, a < 16 → ∀ u, u < 256 → ppN (256 * (64 + a) + u) = ctN (256 * (64 + a) + u) 16 := by decide +kernel
theorem ppN_5 : ∀ a, a < 16 → ∀ u, u < 256 → ppN (256 * (80 + a) + u) = ctN (256 * (80 + a) + u) 16 := by decide +kernel
theorem ppN_6 : ∀ a, a < 16 → ∀ u, u < 256 → ppN (256 * (96 + a) + u) = ctN (256 * (96 + a) + u) 16 := by decide +kernel
theorem ppN_7 : ∀ a, a < 16 → ∀ u, u < 256 → ppN (256 * (112 + a) + u) = ctN (256 * (112 + a) + u) 16 := by decide +kernel
theorem ppN_8 : ∀ a, a < 16 → ∀ u, u < 256 → ppN (256 * (128 + a) + u) = ctN (256 * (128 + a) + u) 16 := by decide +kernel
theorem ppN_9 : ∀ a, a < 16 → ∀ u, u < 256 → ppN (256 * (144 + a) + u) = ctN (256 * (144 + a) + u) 16 := by decide +kernel
theorem ppN_10 : ∀ a, a < 16 → ∀ u, u < 256 → ppN (256 * (160 + a) + u) = ctN (256 * (160 + a) + u) 16 := by decide +kernel
theorem ppN_11 : ∀ a, a < 16 → ∀ u, u < 256 → ppN (256 * (176 + a) + u) = ctN (256 * (176 + a) + u) 16 := by decide +kernel
theorem ppN_12 : ∀ a, a < 16 → ∀ u, u < 256 → ppN (256 * (192 + a) + u) = ctN (256 * (192 + a) + u) 16 := by decide +kernel
theorem ppN_13 : ∀ a, a < 16 → ∀ u, u < 256 → ppN (256 * (208 + a) + u) = ctN (256 * (208 + a) + u) 16 := by decide +kernel
theorem ppN_14 : ∀ a, a < 16 → ∀ u, u < 256 → ppN (256 * (224 + a) + u) = ctN (256 * (224 + a) + u) 16 := by decide +kernel
theorem ppN_15 : ∀ a, a < 16 → ∀ u, u < 256 → ppN (256 * (240 + a) + u) = ctN (256 * (240 + a) + u) 16 := by decide +kernel
