/-! A name that the later parts want: said first, so that no part is compiled twice. -/
section
theorem w0_outer : Jvm.Free.Multi.outerC = Jvm.Free.Multi.outerC := rfl
end
