/-! parts of heaps, number by number -/
theorem mz_hmc : ∀ h : Nat, h < 256 → ∀ c : Nat, c < 256 → (c &&& h = c → (nI h &&& (nI c ^^^ (-1))) &&& 255 = nI (h - c)) := by decide +kernel
