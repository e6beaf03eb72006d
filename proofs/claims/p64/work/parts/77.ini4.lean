/-! ===== constructors: the model ===== -/
def yX4_init : MethodName := ⟨RX4, "<init>", "()V"⟩
theorem fq_X4_1 : FQ RX4 4 1 (.array .int) := ⟨RX4, TX4, 17, tyX4, rfl, tyX4_ok, nmX4, by decide +kernel, rfl, rfl⟩
theorem fq_X4_8 : FQ RX4 4 8 (.array .char) := ⟨RX4, TX4, 17, tyX4, rfl, tyX4_ok, nmX4, by decide +kernel, rfl, rfl⟩
theorem fq_X4_10 : FQ RX4 4 10 (.array .char) := ⟨RX4, TX4, 17, tyX4, rfl, tyX4_ok, nmX4, by decide +kernel, rfl, rfl⟩
theorem fq_X4_15 : FQ RX4 4 15 (.array .int) := ⟨RX4, TX4, 17, tyX4, rfl, tyX4_ok, nmX4, by decide +kernel, rfl, rfl⟩
/-- a new model -/
def md0 : MdV := (upd (fun _ => 0) 2 1, fun _ => 0, fun _ => 0, fun _ => 0, 0, 0, 0, 0, 0, 0, 0, 0, 0, 0, 0, -1, 0)
