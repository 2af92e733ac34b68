theorem xlaw_true : xLaw := sorry
