/-! ===== written by program (wip/layer4) ===== -/
theorem r270_0 : Rw 270 0 1 1 14 0 0 0 := rw_of (by decide +kernel)
theorem r270_1 : Rw 270 1 4 3 80 12 0 125 := rw_of (by decide +kernel)
theorem r270_4 : Rw 270 4 5 1 74 0 0 0 := rw_of (by decide +kernel)
