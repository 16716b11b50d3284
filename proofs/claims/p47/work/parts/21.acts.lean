/-! ===== what the methods keep ===== -/
