set_option maxRecDepth 40000 in
set_option maxHeartbeats 4000000 in
theorem XS_kp {E : zE} {q : Nat} {H H1 : Heap} {mi : Nat → Option Nat} {ko : Option Nat} (h : XS E q mi ko H) (hk : ∀ z : Nat, z < H.size → q ≤ z → z < q + 93 → H1[z]? = H[z]?) : XS E q mi ko H1 := by
  obtain ⟨S, V, h1, h2⟩ := h
  exact ⟨S, V, h1, wx_kp h2 hk⟩
