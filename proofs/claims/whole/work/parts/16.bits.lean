/-! bits of small numbers, by the kernel -/
theorem zI_shl1 : ∀ i : Nat, i < 16 → zI 1 <<< (zI (i : Int) &&& 31) = zI ((2 ^ i : Nat) : Int) := by decide +kernel
theorem zI_shr1 : ∀ a : Nat, a < 1024 → ∀ c : Nat, c < 10 → zI (a : Int) >>> (zI (c : Int) &&& 31) = zI ((a / 2 ^ c : Nat) : Int) := by decide +kernel
theorem zI_and1 : ∀ a : Nat, a < 1024 → zI (a : Int) &&& zI 1 = zI ((a % 2 : Nat) : Int) := by decide +kernel
theorem zI_or1 : ∀ a : Nat, a < 1024 → ∀ c : Nat, c < 10 → zI (a : Int) ||| zI ((2 ^ c : Nat) : Int) = zI ((a ||| 2 ^ c : Nat) : Int) := by decide +kernel
theorem zI_or0 : ∀ a : Nat, a < 1024 → zI (a : Int) ||| zI 0 = zI (a : Int) := by decide +kernel
theorem or_lt : ∀ a : Nat, a < 1024 → ∀ c : Nat, c < 10 → a ||| 2 ^ c < 1024 := by decide +kernel
theorem or_lt8 : ∀ a : Nat, a < 256 → ∀ c : Nat, c < 8 → a ||| 2 ^ c < 256 := by decide +kernel
