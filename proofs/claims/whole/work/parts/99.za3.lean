/-! the law's instructions are those of its bytes: 12 -/
set_option maxRecDepth 100000 in
theorem okl_12 : ∀ q ∈ (k_lw_law.drop 648).take 54, decode (mB 132) q.1 = .ok (q.2.1, q.2.2.1) ∧ tgB q = true ∧ stB (mL 132) q = true := by decide +kernel
set_option maxRecDepth 100000 in
theorem okl_13 : ∀ q ∈ (k_lw_law.drop 702).take 54, decode (mB 132) q.1 = .ok (q.2.1, q.2.2.1) ∧ tgB q = true ∧ stB (mL 132) q = true := by decide +kernel
set_option maxRecDepth 100000 in
theorem okl_14 : ∀ q ∈ (k_lw_law.drop 756).take 54, decode (mB 132) q.1 = .ok (q.2.1, q.2.2.1) ∧ tgB q = true ∧ stB (mL 132) q = true := by decide +kernel
set_option maxRecDepth 100000 in
theorem okl_15 : ∀ q ∈ (k_lw_law.drop 810).take 54, decode (mB 132) q.1 = .ok (q.2.1, q.2.2.1) ∧ tgB q = true ∧ stB (mL 132) q = true := by decide +kernel
