set_option maxRecDepth 40000 in
set_option maxHeartbeats 4000000 in
theorem XS_lt {E : zE} {q : Nat} {H : Heap} {mi : Nat → Option Nat} {ko : Option Nat} (h : XS E q mi ko H) : q + 93 ≤ H.size := by
  obtain ⟨S, V, h1, h2⟩ := h
  exact Nat.succ_le_of_lt (h2 92 _ rfl).lt
