/-! ===== written by program (wip/layer4) ===== -/

