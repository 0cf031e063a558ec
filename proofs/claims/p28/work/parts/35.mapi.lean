/-! ===== pure words of the class (out of the proof of whole, by wip/p28/gen/prune.py) ===== -/
abbrev hS (σ : XH) : XH := cpS σ 4 0 2 0 102
