theorem zLRun_ok : zLRun = some (zL0, zS0) := by decide +kernel
