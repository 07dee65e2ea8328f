theorem end_ok : ∀ n, n ≤ 8 → endF n 4140 z9 = true := by decide +kernel
