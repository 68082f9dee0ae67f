/-! ===== the fraction: halving and the divisor ===== -/
theorem hv_gc : ∀ h, h < 11 → ∀ c, c < 2 ^ h + 1 → hvN c h h = (c / gcR 2000 c (2 ^ h), 2 ^ h / gcR 2000 c (2 ^ h)) := by decide +kernel
