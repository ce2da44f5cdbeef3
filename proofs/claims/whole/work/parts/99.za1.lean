/-! the law's instructions are those of its bytes: 4 -/
set_option maxRecDepth 100000 in
theorem okl_4 : ∀ q ∈ (k_lw_law.drop 216).take 54, decode (mB 132) q.1 = .ok (q.2.1, q.2.2.1) ∧ tgB q = true ∧ stB (mL 132) q = true := by decide +kernel
set_option maxRecDepth 100000 in
theorem okl_5 : ∀ q ∈ (k_lw_law.drop 270).take 54, decode (mB 132) q.1 = .ok (q.2.1, q.2.2.1) ∧ tgB q = true ∧ stB (mL 132) q = true := by decide +kernel
set_option maxRecDepth 100000 in
theorem okl_6 : ∀ q ∈ (k_lw_law.drop 324).take 54, decode (mB 132) q.1 = .ok (q.2.1, q.2.2.1) ∧ tgB q = true ∧ stB (mL 132) q = true := by decide +kernel
set_option maxRecDepth 100000 in
theorem okl_7 : ∀ q ∈ (k_lw_law.drop 378).take 54, decode (mB 132) q.1 = .ok (q.2.1, q.2.2.1) ∧ tgB q = true ∧ stB (mL 132) q = true := by decide +kernel
