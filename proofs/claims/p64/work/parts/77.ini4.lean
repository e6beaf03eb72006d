/-! ===== constructors: the model ===== -/
/-- a new model -/
def md0 : MdV := (upd (fun _ => 0) 2 1, fun _ => 0, fun _ => 0, fun _ => 0, 0, 0, 0, 0, 0, 0, 0, 0, 0, 0, 0, -1, 0)
