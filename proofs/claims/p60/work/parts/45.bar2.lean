/-! THE PURE PART, flows: an accepted bar, the whole. -/
section
theorem nI_sub2 (y : Nat) : nI (y + 2) - 2 = nI y := by
  rw [← nI_add, show nI 2 = (2 : Int32) from rfl, Int32.add_sub_cancel]
end
