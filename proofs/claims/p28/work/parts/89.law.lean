theorem xlaw_true : xLaw := xlaw_all
