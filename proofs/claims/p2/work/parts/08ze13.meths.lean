/-! ===== written by program (wip/layer3/model.py): contracts of methods ===== -/
