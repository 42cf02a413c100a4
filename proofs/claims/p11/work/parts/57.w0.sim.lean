/-! loops side by side: in 47.z -/
