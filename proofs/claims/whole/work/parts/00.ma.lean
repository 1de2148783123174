/-! An array of arrays lies behind its outer row: the library's rows of it (with this the claim is read over the whole library). -/
theorem ma_old (s : State) (c comp : ClassId) (N M : Nat) (dv : Value) {a : Nat} (ha : a < s.heap.size) (i : Nat) : (Jvm.Free.Multi.fill s c comp N M dv i).heap[a]? = s.heap[a]? := Jvm.Free.Multi.fill_old s c comp N M dv ha i
