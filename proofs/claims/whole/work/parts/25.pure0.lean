/-! pure facts: what the reference lays, by evaluation -/
set_option maxRecDepth 100000 in
theorem m_init : f_M_init = some mT := by decide +kernel
