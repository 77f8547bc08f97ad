/-! post, the model's side -/
theorem siz_ne {M : mM} {L : Nat} (h : RL M L) : ∀ k, k < L → ¬ sizS (M.2.1 7 k) 12 = 0 := fun k hk => by
  obtain ⟨⟨s, s0, s1, s2⟩, -⟩ := h.2.2 k hk
  rw [s2, ← (bits_eq s1).1]; exact (bits_eq s1).2 s0
theorem lM_eq {M : mM} {L : Nat} (h : RL M L) : lM M = L := by rw [lM, h.2.1]; exact nI_clamp (by have := h.1; omega)
theorem dr_in {M : mM} {nC nB : Nat} (h : R0 M nC nB) : ¬ M.1 2 = -1 → vp_in (M.1 2) 4 := fun q => by
  have := h.1
  obtain ⟨k, k1, k2⟩ := h.2.2.2.2.2.2.2.2.2.2.1 q
  rw [k2]; exact vp_in_nI (by omega) (by decide)
theorem dM_lt {M : mM} {nC nB : Nat} (h : R0 M nC nB) : dM M < 4 := by
  by_cases q : M.1 2 = -1
  · rw [dM, q]; decide
  · have := h.1
    obtain ⟨k, k1, k2⟩ := h.2.2.2.2.2.2.2.2.2.2.1 q
    rw [dM, k2, nI_clamp (by omega)]; omega
theorem s0M_ok {M : mM} {nC nB : Nat} (h : R0 M nC nB) : s0M M < 12 ∧ M.2.1 2 (dM M) = nI (s0M M) := by
  obtain ⟨n, n1, n2⟩ := h.2.2.2.2.2.1 (dM M) (dM_lt h)
  have e : s0M M = n := by rw [s0M, n2]; exact nI_clamp (by omega)
  rw [e]; exact ⟨n1, n2⟩
