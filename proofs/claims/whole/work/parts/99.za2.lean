/-! the law's instructions are those of its bytes: 8 -/
set_option maxRecDepth 100000 in
theorem okl_8 : ∀ q ∈ (k_lw_law.drop 432).take 54, decode (mB 132) q.1 = .ok (q.2.1, q.2.2.1) ∧ tgB q = true ∧ stB (mL 132) q = true := by decide +kernel
set_option maxRecDepth 100000 in
theorem okl_9 : ∀ q ∈ (k_lw_law.drop 486).take 54, decode (mB 132) q.1 = .ok (q.2.1, q.2.2.1) ∧ tgB q = true ∧ stB (mL 132) q = true := by decide +kernel
set_option maxRecDepth 100000 in
theorem okl_10 : ∀ q ∈ (k_lw_law.drop 540).take 54, decode (mB 132) q.1 = .ok (q.2.1, q.2.2.1) ∧ tgB q = true ∧ stB (mL 132) q = true := by decide +kernel
set_option maxRecDepth 100000 in
theorem okl_11 : ∀ q ∈ (k_lw_law.drop 594).take 54, decode (mB 132) q.1 = .ok (q.2.1, q.2.2.1) ∧ tgB q = true ∧ stB (mL 132) q = true := by decide +kernel
