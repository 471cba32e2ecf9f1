/-! the second half's reasons -/
theorem mn_self (a : Int32) : mn a a = a := by
  unfold mn
  split <;> rfl
theorem mx_self (a : Int32) : mx a a = a := by
  unfold mx
  split <;> rfl
