theorem bc16_0 : ∀ b, b < 64 → ∀ a, a < 256 → f_J6_bitCount_0f7a4 (nI (a + 256 * (b + 0))) = some (nI (cb (fun j => a.testBit j) 8 + cb (fun j => (b + 0).testBit j) 8)) := by decide +kernel
theorem bc16_1 : ∀ b, b < 64 → ∀ a, a < 256 → f_J6_bitCount_0f7a4 (nI (a + 256 * (b + 64))) = some (nI (cb (fun j => a.testBit j) 8 + cb (fun j => (b + 64).testBit j) 8)) := by decide +kernel
theorem bc16_2 : ∀ b, b < 64 → ∀ a, a < 256 → f_J6_bitCount_0f7a4 (nI (a + 256 * (b + 128))) = some (nI (cb (fun j => a.testBit j) 8 + cb (fun j => (b + 128).testBit j) 8)) := by decide +kernel
theorem bc16_3 : ∀ b, b < 64 → ∀ a, a < 256 → f_J6_bitCount_0f7a4 (nI (a + 256 * (b + 192))) = some (nI (cb (fun j => a.testBit j) 8 + cb (fun j => (b + 192).testBit j) 8)) := by decide +kernel
