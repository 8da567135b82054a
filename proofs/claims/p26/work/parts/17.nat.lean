/-! ===== sums of numbers ===== -/
theorem natAdd {a b c : Nat} (h : a + b = c) : nI a + nI b = nI c := by rw [nI_add, h]
theorem natSub {a b c : Nat} (h : c + b = a) : nI a - nI b = nI c := by rw [← h, pk_sub (Nat.le_add_left b c), Nat.add_sub_cancel]
theorem natMul {a b c : Nat} (h : a * b = c) : nI a * nI b = nI c := by rw [pk_mul, h]
