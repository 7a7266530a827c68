/-! the constructor of the class: arrays of booleans -/
theorem tw_aZ : Cond.arrayClass (newarray.typeOf .boolean) ∈ TW := tw (i := 206) (by decide +kernel) (by decide)
