/-! the law's instructions are those of its bytes: 0 -/
set_option maxRecDepth 100000 in
theorem okl_0 : ∀ q ∈ (k_lw_law.drop 0).take 54, decode (mB 132) q.1 = .ok (q.2.1, q.2.2.1) ∧ tgB q = true ∧ stB (mL 132) q = true := by decide +kernel
set_option maxRecDepth 100000 in
theorem okl_1 : ∀ q ∈ (k_lw_law.drop 54).take 54, decode (mB 132) q.1 = .ok (q.2.1, q.2.2.1) ∧ tgB q = true ∧ stB (mL 132) q = true := by decide +kernel
set_option maxRecDepth 100000 in
theorem okl_2 : ∀ q ∈ (k_lw_law.drop 108).take 54, decode (mB 132) q.1 = .ok (q.2.1, q.2.2.1) ∧ tgB q = true ∧ stB (mL 132) q = true := by decide +kernel
set_option maxRecDepth 100000 in
theorem okl_3 : ∀ q ∈ (k_lw_law.drop 162).take 54, decode (mB 132) q.1 = .ok (q.2.1, q.2.2.1) ∧ tgB q = true ∧ stB (mL 132) q = true := by decide +kernel
