/-! the model's calls over its whole object -/
theorem R0_cl {M : mM} {nC nB : Nat} (h : R0 M nC nB) : M.1 1 ≤ 4 := by
  have := h.1
  rw [h.2.2.1, show (4 : Int32) = nI 4 from rfl, nI_leI (by omega) (by decide)]; exact this
theorem R0_mem {M : mM} {nC nB : Nat} (h : R0 M nC nB) : ∀ j, j < 4 → M.2.1 1 j ≤ 12 := fun j hj => by
  obtain ⟨n, n1, n2⟩ := h.2.2.2.2.1 j hj
  rw [n2]; exact nI_le12 n1
theorem R0_nb {M : mM} {nC nB : Nat} (h : R0 M nC nB) : M.1 7 = nI (nbM M) := by rw [nbM_eq h]; exact h.2.2.2.1
theorem R0_64 {M : mM} {nC nB : Nat} (h : R0 M nC nB) : nbM M ≤ 64 := by rw [nbM_eq h]; exact h.2.1
theorem R0_bi {M : mM} {nC nB : Nat} (h : R0 M nC nB) : M.1 7 ≤ 64 := by
  have := h.2.1
  rw [h.2.2.2.1, show (64 : Int32) = nI 64 from rfl, nI_leI (by omega) (by decide)]; exact this
theorem R0_man {M : mM} {nC nB : Nat} (h : R0 M nC nB) : ∀ j, j < 4 → ∃ n, n ≤ 11 ∧ M.2.1 19 j = nI n := h.2.2.2.2.2.2.1
theorem R0_cof {M : mM} {nC nB : Nat} (h : R0 M nC nB) : ∀ b : Int32, ¬ b < 0 → ¬ M.1 7 ≤ b → vp_in (M.2.1 9 b.toNatClampNeg) 4 := fun b h1 h2 => by
  have hC := h.1
  have hB := h.2.1
  rw [h.2.2.2.1] at h2
  obtain ⟨j, hj, rfl⟩ := isMb_nat (c := b) (n := nB) (by omega) (by rw [isMb, decide_eq_false h1, decide_eq_false h2]; rfl)
  rw [nI_clamp (by omega)]
  obtain ⟨k, k1, k2⟩ := h.2.2.2.2.2.2.2.1 j hj
  rw [k2]; exact vp_in_nI (by omega) (by decide)
theorem R0_sd {M : mM} {nC nB : Nat} (h : R0 M nC nB) : ∀ j, vp_in (M.2.1 20 j) 12 := h.2.2.2.2.2.2.2.2.1
theorem R0_gt {M : mM} {nC nB : Nat} (h : R0 M nC nB) : ∀ j, vp_in (M.2.1 21 j) 12 := h.2.2.2.2.2.2.2.2.2.1
theorem t_M_club (l : Launch) (X : gX) (ad : Nat → Nat) (u : gW) (sz m : Nat) (M : mM) (nC nB : Nat)  (h : mW X ad m M u) (hR : R0 M nC nB) : gMet l (EE X) y_M_club c_M_club 1 (some .int) ({ frames := 0, cells := 0, slots := 0, locals := 0 }) [.ref (ad m)] ad u sz (postM X ad m (M_club M) (.int (a_club M)) u) := by
  refine gMet_mono (k_M_club l X ad u sz m (M.1 0) (M.1 1) (M.1 2) (M.1 3) (M.1 4) (M.1 5) (M.1 6) (M.1 7)   (mW_0 h)  ) fun v u' s ⟨e0, hh⟩ => ?_
  rcases hh with ⟨q, a, b⟩ | ⟨q, a, b⟩
  · rw [M_club, a_club, if_neg q, if_neg q]
    refine ⟨a, ⟨?_, ?_, ?_, ?_, ?_, ?_, ?_, ?_, ?_, ?_, ?_, ?_, ?_, ?_, ?_, ?_, ?_, ?_, ?_, ?_, ?_, ?_, ?_, ?_, ?_, ?_⟩, fun n hn => by rw [b, gup_ne (by omega)]⟩
    · rw [b, gup_self]; rfl
    · rw [b, gup_ne (by omega)]; exact (mW_1 (M := M) h)
    · rw [b, gup_ne (by omega)]; exact (mW_2 (M := M) h)
    · rw [b, gup_ne (by omega)]; exact (mW_3 (M := M) h)
    · rw [b, gup_ne (by omega)]; exact (mW_4 (M := M) h)
    · rw [b, gup_ne (by omega)]; exact (mW_5 (M := M) h)
    · rw [b, gup_ne (by omega)]; exact (mW_6 (M := M) h)
    · rw [b, gup_ne (by omega)]; exact (mW_7 (M := M) h)
    · rw [b, gup_ne (by omega)]; exact (mW_8 (M := M) h)
    · rw [b, gup_ne (by omega)]; exact (mW_9 (M := M) h)
    · rw [b, gup_ne (by omega)]; exact (mW_10 (M := M) h)
    · rw [b, gup_ne (by omega)]; exact (mW_11 (M := M) h)
    · rw [b, gup_ne (by omega)]; exact (mW_12 (M := M) h)
    · rw [b, gup_ne (by omega)]; exact (mW_13 (M := M) h)
    · rw [b, gup_ne (by omega)]; exact (mW_14 (M := M) h)
    · rw [b, gup_ne (by omega)]; exact (mW_15 (M := M) h)
    · rw [b, gup_ne (by omega)]; exact (mW_16 (M := M) h)
    · rw [b, gup_ne (by omega)]; exact (mW_17 (M := M) h)
    · rw [b, gup_ne (by omega)]; exact (mW_18 (M := M) h)
    · rw [b, gup_ne (by omega)]; exact (mW_19 (M := M) h)
    · rw [b, gup_ne (by omega)]; exact (mW_20 (M := M) h)
    · rw [b, gup_ne (by omega)]; exact (mW_21 (M := M) h)
    · rw [b, gup_ne (by omega)]; exact (mW_22 (M := M) h)
    · rw [b, gup_ne (by omega)]; exact (mW_23 (M := M) h)
    · rw [b, gup_ne (by omega)]; exact (mW_24 (M := M) h)
    · rw [b, gup_ne (by omega)]; exact (mW_25 (M := M) h)
  · rw [M_club, a_club, if_pos q, if_pos q]
    refine ⟨a, ⟨?_, ?_, ?_, ?_, ?_, ?_, ?_, ?_, ?_, ?_, ?_, ?_, ?_, ?_, ?_, ?_, ?_, ?_, ?_, ?_, ?_, ?_, ?_, ?_, ?_, ?_⟩, fun n hn => by rw [b, gup_ne (by omega)]⟩
    · rw [b, gup_self]; rfl
    · rw [b, gup_ne (by omega)]; exact (mW_1 (M := M) h)
    · rw [b, gup_ne (by omega)]; exact (mW_2 (M := M) h)
    · rw [b, gup_ne (by omega)]; exact (mW_3 (M := M) h)
    · rw [b, gup_ne (by omega)]; exact (mW_4 (M := M) h)
    · rw [b, gup_ne (by omega)]; exact (mW_5 (M := M) h)
    · rw [b, gup_ne (by omega)]; exact (mW_6 (M := M) h)
    · rw [b, gup_ne (by omega)]; exact (mW_7 (M := M) h)
    · rw [b, gup_ne (by omega)]; exact (mW_8 (M := M) h)
    · rw [b, gup_ne (by omega)]; exact (mW_9 (M := M) h)
    · rw [b, gup_ne (by omega)]; exact (mW_10 (M := M) h)
    · rw [b, gup_ne (by omega)]; exact (mW_11 (M := M) h)
    · rw [b, gup_ne (by omega)]; exact (mW_12 (M := M) h)
    · rw [b, gup_ne (by omega)]; exact (mW_13 (M := M) h)
    · rw [b, gup_ne (by omega)]; exact (mW_14 (M := M) h)
    · rw [b, gup_ne (by omega)]; exact (mW_15 (M := M) h)
    · rw [b, gup_ne (by omega)]; exact (mW_16 (M := M) h)
    · rw [b, gup_ne (by omega)]; exact (mW_17 (M := M) h)
    · rw [b, gup_ne (by omega)]; exact (mW_18 (M := M) h)
    · rw [b, gup_ne (by omega)]; exact (mW_19 (M := M) h)
    · rw [b, gup_ne (by omega)]; exact (mW_20 (M := M) h)
    · rw [b, gup_ne (by omega)]; exact (mW_21 (M := M) h)
    · rw [b, gup_ne (by omega)]; exact (mW_22 (M := M) h)
    · rw [b, gup_ne (by omega)]; exact (mW_23 (M := M) h)
    · rw [b, gup_ne (by omega)]; exact (mW_24 (M := M) h)
    · rw [b, gup_ne (by omega)]; exact (mW_25 (M := M) h)
theorem t_M_member (l : Launch) (X : gX) (ad : Nat → Nat) (u : gW) (sz m : Nat) (M : mM) (nC nB : Nat) (c : Int32) (h : mW X ad m M u) (hR : R0 M nC nB) : gMet l (EE X) y_M_member c_M_member 2 (some .int) ({ frames := 1, cells := 0, slots := 0, locals := 21 }) [.ref (ad m), .int c] ad u sz (postM X ad m (M_member M c) (.int (a_member M c)) u) := by
  refine gMet_mono (k_M_member l X ad u sz m (M.1 0) (M.1 1) (M.1 2) (M.1 3) (M.1 4) (M.1 5) (M.1 6) (M.1 7) (M.2.1 1) c (mW_0 h) (mW_1 h) (R0_cl hR)) fun v u' s ⟨e0, hh⟩ => ?_
  rcases hh with ⟨q, a, b⟩ | ⟨q, a, b⟩
  · rw [M_member, a_member, if_pos q, if_pos q]
    refine ⟨a, ⟨?_, ?_, ?_, ?_, ?_, ?_, ?_, ?_, ?_, ?_, ?_, ?_, ?_, ?_, ?_, ?_, ?_, ?_, ?_, ?_, ?_, ?_, ?_, ?_, ?_, ?_⟩, fun n hn => by rw [b, gup_ne (by omega), gup_ne (by omega)]⟩
    · rw [b, gup_ne (by omega), gup_self]; rfl
    · rw [b, gup_self]; rfl
    · rw [b, gup_ne (by omega), gup_ne (by omega)]; exact (mW_2 (M := M) h)
    · rw [b, gup_ne (by omega), gup_ne (by omega)]; exact (mW_3 (M := M) h)
    · rw [b, gup_ne (by omega), gup_ne (by omega)]; exact (mW_4 (M := M) h)
    · rw [b, gup_ne (by omega), gup_ne (by omega)]; exact (mW_5 (M := M) h)
    · rw [b, gup_ne (by omega), gup_ne (by omega)]; exact (mW_6 (M := M) h)
    · rw [b, gup_ne (by omega), gup_ne (by omega)]; exact (mW_7 (M := M) h)
    · rw [b, gup_ne (by omega), gup_ne (by omega)]; exact (mW_8 (M := M) h)
    · rw [b, gup_ne (by omega), gup_ne (by omega)]; exact (mW_9 (M := M) h)
    · rw [b, gup_ne (by omega), gup_ne (by omega)]; exact (mW_10 (M := M) h)
    · rw [b, gup_ne (by omega), gup_ne (by omega)]; exact (mW_11 (M := M) h)
    · rw [b, gup_ne (by omega), gup_ne (by omega)]; exact (mW_12 (M := M) h)
    · rw [b, gup_ne (by omega), gup_ne (by omega)]; exact (mW_13 (M := M) h)
    · rw [b, gup_ne (by omega), gup_ne (by omega)]; exact (mW_14 (M := M) h)
    · rw [b, gup_ne (by omega), gup_ne (by omega)]; exact (mW_15 (M := M) h)
    · rw [b, gup_ne (by omega), gup_ne (by omega)]; exact (mW_16 (M := M) h)
    · rw [b, gup_ne (by omega), gup_ne (by omega)]; exact (mW_17 (M := M) h)
    · rw [b, gup_ne (by omega), gup_ne (by omega)]; exact (mW_18 (M := M) h)
    · rw [b, gup_ne (by omega), gup_ne (by omega)]; exact (mW_19 (M := M) h)
    · rw [b, gup_ne (by omega), gup_ne (by omega)]; exact (mW_20 (M := M) h)
    · rw [b, gup_ne (by omega), gup_ne (by omega)]; exact (mW_21 (M := M) h)
    · rw [b, gup_ne (by omega), gup_ne (by omega)]; exact (mW_22 (M := M) h)
    · rw [b, gup_ne (by omega), gup_ne (by omega)]; exact (mW_23 (M := M) h)
    · rw [b, gup_ne (by omega), gup_ne (by omega)]; exact (mW_24 (M := M) h)
    · rw [b, gup_ne (by omega), gup_ne (by omega)]; exact (mW_25 (M := M) h)
  · rw [M_member, a_member, if_neg q, if_neg q]
    refine ⟨a, ⟨?_, ?_, ?_, ?_, ?_, ?_, ?_, ?_, ?_, ?_, ?_, ?_, ?_, ?_, ?_, ?_, ?_, ?_, ?_, ?_, ?_, ?_, ?_, ?_, ?_, ?_⟩, fun n hn => by rw [b, gup_ne (by omega)]⟩
    · rw [b, gup_self]; rfl
    · rw [b, gup_ne (by omega)]; exact (mW_1 (M := M) h)
    · rw [b, gup_ne (by omega)]; exact (mW_2 (M := M) h)
    · rw [b, gup_ne (by omega)]; exact (mW_3 (M := M) h)
    · rw [b, gup_ne (by omega)]; exact (mW_4 (M := M) h)
    · rw [b, gup_ne (by omega)]; exact (mW_5 (M := M) h)
    · rw [b, gup_ne (by omega)]; exact (mW_6 (M := M) h)
    · rw [b, gup_ne (by omega)]; exact (mW_7 (M := M) h)
    · rw [b, gup_ne (by omega)]; exact (mW_8 (M := M) h)
    · rw [b, gup_ne (by omega)]; exact (mW_9 (M := M) h)
    · rw [b, gup_ne (by omega)]; exact (mW_10 (M := M) h)
    · rw [b, gup_ne (by omega)]; exact (mW_11 (M := M) h)
    · rw [b, gup_ne (by omega)]; exact (mW_12 (M := M) h)
    · rw [b, gup_ne (by omega)]; exact (mW_13 (M := M) h)
    · rw [b, gup_ne (by omega)]; exact (mW_14 (M := M) h)
    · rw [b, gup_ne (by omega)]; exact (mW_15 (M := M) h)
    · rw [b, gup_ne (by omega)]; exact (mW_16 (M := M) h)
    · rw [b, gup_ne (by omega)]; exact (mW_17 (M := M) h)
    · rw [b, gup_ne (by omega)]; exact (mW_18 (M := M) h)
    · rw [b, gup_ne (by omega)]; exact (mW_19 (M := M) h)
    · rw [b, gup_ne (by omega)]; exact (mW_20 (M := M) h)
    · rw [b, gup_ne (by omega)]; exact (mW_21 (M := M) h)
    · rw [b, gup_ne (by omega)]; exact (mW_22 (M := M) h)
    · rw [b, gup_ne (by omega)]; exact (mW_23 (M := M) h)
    · rw [b, gup_ne (by omega)]; exact (mW_24 (M := M) h)
    · rw [b, gup_ne (by omega)]; exact (mW_25 (M := M) h)
theorem t_M_leave (l : Launch) (X : gX) (ad : Nat → Nat) (u : gW) (sz m : Nat) (M : mM) (nC nB : Nat) (c x : Int32) (h : mW X ad m M u) (hR : R0 M nC nB) : gMet l (EE X) y_M_leave c_M_leave 3 (some .boolean) ({ frames := 3, cells := 0, slots := 0, locals := 68 }) [.ref (ad m), .int c, .int x] ad u sz (postM X ad m (M_leave M c x) (.int (bI (q_leave M c x))) u) := by
  refine gMet_mono (k_M_leave l X ad u sz m (M.1 0) (M.1 1) (M.1 2) (M.1 3) (M.1 4) (M.1 5) (M.1 6) (M.1 7) (M.2.1 1) (M.2.1 3) (M.2.1 16) (M.2.1 9) (M.2.1 11) (M.2.2 15) (M.2.2 13) (M.2.2 12) c x (mW_0 h) (mW_1 h) (mW_3 h) (mW_16 h) (mW_9 h) (mW_11 h) (mW_15 h) (mW_13 h) (mW_12 h) (R0_cl hR) (R0_mem hR) (nbM M) (R0_nb hR) (R0_64 hR)) fun v u' s ⟨e0, hh⟩ => ?_
  rcases hh with ⟨q, a, b⟩ | ⟨q, a, b⟩
  · rw [M_leave, q_leave, if_pos q, q]
    refine ⟨a, ⟨?_, ?_, ?_, ?_, ?_, ?_, ?_, ?_, ?_, ?_, ?_, ?_, ?_, ?_, ?_, ?_, ?_, ?_, ?_, ?_, ?_, ?_, ?_, ?_, ?_, ?_⟩, fun n hn => by rw [b, gup_ne (by omega), gup_ne (by omega)]⟩
    · rw [b, gup_ne (by omega), gup_self]; rfl
    · rw [b, gup_ne (by omega), gup_ne (by omega)]; exact (mW_1 (M := M) h)
    · rw [b, gup_ne (by omega), gup_ne (by omega)]; exact (mW_2 (M := M) h)
    · rw [b, gup_self]; rfl
    · rw [b, gup_ne (by omega), gup_ne (by omega)]; exact (mW_4 (M := M) h)
    · rw [b, gup_ne (by omega), gup_ne (by omega)]; exact (mW_5 (M := M) h)
    · rw [b, gup_ne (by omega), gup_ne (by omega)]; exact (mW_6 (M := M) h)
    · rw [b, gup_ne (by omega), gup_ne (by omega)]; exact (mW_7 (M := M) h)
    · rw [b, gup_ne (by omega), gup_ne (by omega)]; exact (mW_8 (M := M) h)
    · rw [b, gup_ne (by omega), gup_ne (by omega)]; exact (mW_9 (M := M) h)
    · rw [b, gup_ne (by omega), gup_ne (by omega)]; exact (mW_10 (M := M) h)
    · rw [b, gup_ne (by omega), gup_ne (by omega)]; exact (mW_11 (M := M) h)
    · rw [b, gup_ne (by omega), gup_ne (by omega)]; exact (mW_12 (M := M) h)
    · rw [b, gup_ne (by omega), gup_ne (by omega)]; exact (mW_13 (M := M) h)
    · rw [b, gup_ne (by omega), gup_ne (by omega)]; exact (mW_14 (M := M) h)
    · rw [b, gup_ne (by omega), gup_ne (by omega)]; exact (mW_15 (M := M) h)
    · rw [b, gup_ne (by omega), gup_ne (by omega)]; exact (mW_16 (M := M) h)
    · rw [b, gup_ne (by omega), gup_ne (by omega)]; exact (mW_17 (M := M) h)
    · rw [b, gup_ne (by omega), gup_ne (by omega)]; exact (mW_18 (M := M) h)
    · rw [b, gup_ne (by omega), gup_ne (by omega)]; exact (mW_19 (M := M) h)
    · rw [b, gup_ne (by omega), gup_ne (by omega)]; exact (mW_20 (M := M) h)
    · rw [b, gup_ne (by omega), gup_ne (by omega)]; exact (mW_21 (M := M) h)
    · rw [b, gup_ne (by omega), gup_ne (by omega)]; exact (mW_22 (M := M) h)
    · rw [b, gup_ne (by omega), gup_ne (by omega)]; exact (mW_23 (M := M) h)
    · rw [b, gup_ne (by omega), gup_ne (by omega)]; exact (mW_24 (M := M) h)
    · rw [b, gup_ne (by omega), gup_ne (by omega)]; exact (mW_25 (M := M) h)
  · rw [M_leave, q_leave, if_neg (by rw [q]; decide), q]
    refine ⟨a, ⟨?_, ?_, ?_, ?_, ?_, ?_, ?_, ?_, ?_, ?_, ?_, ?_, ?_, ?_, ?_, ?_, ?_, ?_, ?_, ?_, ?_, ?_, ?_, ?_, ?_, ?_⟩, fun n hn => by rw [b, gup_ne (by omega)]⟩
    · rw [b, gup_self]; rfl
    · rw [b, gup_ne (by omega)]; exact (mW_1 (M := M) h)
    · rw [b, gup_ne (by omega)]; exact (mW_2 (M := M) h)
    · rw [b, gup_ne (by omega)]; exact (mW_3 (M := M) h)
    · rw [b, gup_ne (by omega)]; exact (mW_4 (M := M) h)
    · rw [b, gup_ne (by omega)]; exact (mW_5 (M := M) h)
    · rw [b, gup_ne (by omega)]; exact (mW_6 (M := M) h)
    · rw [b, gup_ne (by omega)]; exact (mW_7 (M := M) h)
    · rw [b, gup_ne (by omega)]; exact (mW_8 (M := M) h)
    · rw [b, gup_ne (by omega)]; exact (mW_9 (M := M) h)
    · rw [b, gup_ne (by omega)]; exact (mW_10 (M := M) h)
    · rw [b, gup_ne (by omega)]; exact (mW_11 (M := M) h)
    · rw [b, gup_ne (by omega)]; exact (mW_12 (M := M) h)
    · rw [b, gup_ne (by omega)]; exact (mW_13 (M := M) h)
    · rw [b, gup_ne (by omega)]; exact (mW_14 (M := M) h)
    · rw [b, gup_ne (by omega)]; exact (mW_15 (M := M) h)
    · rw [b, gup_ne (by omega)]; exact (mW_16 (M := M) h)
    · rw [b, gup_ne (by omega)]; exact (mW_17 (M := M) h)
    · rw [b, gup_ne (by omega)]; exact (mW_18 (M := M) h)
    · rw [b, gup_ne (by omega)]; exact (mW_19 (M := M) h)
    · rw [b, gup_ne (by omega)]; exact (mW_20 (M := M) h)
    · rw [b, gup_ne (by omega)]; exact (mW_21 (M := M) h)
    · rw [b, gup_ne (by omega)]; exact (mW_22 (M := M) h)
    · rw [b, gup_ne (by omega)]; exact (mW_23 (M := M) h)
    · rw [b, gup_ne (by omega)]; exact (mW_24 (M := M) h)
    · rw [b, gup_ne (by omega)]; exact (mW_25 (M := M) h)
theorem t_M_bill (l : Launch) (X : gX) (ad : Nat → Nat) (u : gW) (sz m : Nat) (M : mM) (nC nB : Nat) (c w n r : Int32) (h : mW X ad m M u) (hR : R0 M nC nB) : gMet l (EE X) y_M_bill c_M_bill 6 (some .boolean) ({ frames := 1, cells := 0, slots := 0, locals := 22 }) [.ref (ad m), .int c, .int w, .int n, .int r] ad u sz (postM X ad m (M_bill M c w n r) (.int (bI (q_bill M c w n r))) u) := by
  refine gMet_mono (k_M_bill l X ad u sz m (M.1 0) (M.1 1) (M.1 2) (M.1 3) (M.1 4) (M.1 5) (M.1 6) (M.1 7) (M.2.1 4) (M.2.1 5) c w n r (mW_0 h) (mW_4 h) (mW_5 h) ) fun v u' s ⟨e0, hh⟩ => ?_
  rcases hh with ⟨q, a, b⟩ | ⟨q, a, b⟩
  · rw [M_bill, q_bill, if_pos q, q]
    refine ⟨a, ⟨?_, ?_, ?_, ?_, ?_, ?_, ?_, ?_, ?_, ?_, ?_, ?_, ?_, ?_, ?_, ?_, ?_, ?_, ?_, ?_, ?_, ?_, ?_, ?_, ?_, ?_⟩, fun n hn => by rw [b, gup_ne (by omega), gup_ne (by omega), gup_ne (by omega)]⟩
    · rw [b, gup_ne (by omega), gup_ne (by omega), gup_self]; rfl
    · rw [b, gup_ne (by omega), gup_ne (by omega), gup_ne (by omega)]; exact (mW_1 (M := M) h)
    · rw [b, gup_ne (by omega), gup_ne (by omega), gup_ne (by omega)]; exact (mW_2 (M := M) h)
    · rw [b, gup_ne (by omega), gup_ne (by omega), gup_ne (by omega)]; exact (mW_3 (M := M) h)
    · rw [b, gup_ne (by omega), gup_self]; rfl
    · rw [b, gup_self]; rfl
    · rw [b, gup_ne (by omega), gup_ne (by omega), gup_ne (by omega)]; exact (mW_6 (M := M) h)
    · rw [b, gup_ne (by omega), gup_ne (by omega), gup_ne (by omega)]; exact (mW_7 (M := M) h)
    · rw [b, gup_ne (by omega), gup_ne (by omega), gup_ne (by omega)]; exact (mW_8 (M := M) h)
    · rw [b, gup_ne (by omega), gup_ne (by omega), gup_ne (by omega)]; exact (mW_9 (M := M) h)
    · rw [b, gup_ne (by omega), gup_ne (by omega), gup_ne (by omega)]; exact (mW_10 (M := M) h)
    · rw [b, gup_ne (by omega), gup_ne (by omega), gup_ne (by omega)]; exact (mW_11 (M := M) h)
    · rw [b, gup_ne (by omega), gup_ne (by omega), gup_ne (by omega)]; exact (mW_12 (M := M) h)
    · rw [b, gup_ne (by omega), gup_ne (by omega), gup_ne (by omega)]; exact (mW_13 (M := M) h)
    · rw [b, gup_ne (by omega), gup_ne (by omega), gup_ne (by omega)]; exact (mW_14 (M := M) h)
    · rw [b, gup_ne (by omega), gup_ne (by omega), gup_ne (by omega)]; exact (mW_15 (M := M) h)
    · rw [b, gup_ne (by omega), gup_ne (by omega), gup_ne (by omega)]; exact (mW_16 (M := M) h)
    · rw [b, gup_ne (by omega), gup_ne (by omega), gup_ne (by omega)]; exact (mW_17 (M := M) h)
    · rw [b, gup_ne (by omega), gup_ne (by omega), gup_ne (by omega)]; exact (mW_18 (M := M) h)
    · rw [b, gup_ne (by omega), gup_ne (by omega), gup_ne (by omega)]; exact (mW_19 (M := M) h)
    · rw [b, gup_ne (by omega), gup_ne (by omega), gup_ne (by omega)]; exact (mW_20 (M := M) h)
    · rw [b, gup_ne (by omega), gup_ne (by omega), gup_ne (by omega)]; exact (mW_21 (M := M) h)
    · rw [b, gup_ne (by omega), gup_ne (by omega), gup_ne (by omega)]; exact (mW_22 (M := M) h)
    · rw [b, gup_ne (by omega), gup_ne (by omega), gup_ne (by omega)]; exact (mW_23 (M := M) h)
    · rw [b, gup_ne (by omega), gup_ne (by omega), gup_ne (by omega)]; exact (mW_24 (M := M) h)
    · rw [b, gup_ne (by omega), gup_ne (by omega), gup_ne (by omega)]; exact (mW_25 (M := M) h)
  · rw [M_bill, q_bill, if_neg (by rw [q]; decide), q]
    refine ⟨a, ⟨?_, ?_, ?_, ?_, ?_, ?_, ?_, ?_, ?_, ?_, ?_, ?_, ?_, ?_, ?_, ?_, ?_, ?_, ?_, ?_, ?_, ?_, ?_, ?_, ?_, ?_⟩, fun n hn => by rw [b, gup_ne (by omega)]⟩
    · rw [b, gup_self]; rfl
    · rw [b, gup_ne (by omega)]; exact (mW_1 (M := M) h)
    · rw [b, gup_ne (by omega)]; exact (mW_2 (M := M) h)
    · rw [b, gup_ne (by omega)]; exact (mW_3 (M := M) h)
    · rw [b, gup_ne (by omega)]; exact (mW_4 (M := M) h)
    · rw [b, gup_ne (by omega)]; exact (mW_5 (M := M) h)
    · rw [b, gup_ne (by omega)]; exact (mW_6 (M := M) h)
    · rw [b, gup_ne (by omega)]; exact (mW_7 (M := M) h)
    · rw [b, gup_ne (by omega)]; exact (mW_8 (M := M) h)
    · rw [b, gup_ne (by omega)]; exact (mW_9 (M := M) h)
    · rw [b, gup_ne (by omega)]; exact (mW_10 (M := M) h)
    · rw [b, gup_ne (by omega)]; exact (mW_11 (M := M) h)
    · rw [b, gup_ne (by omega)]; exact (mW_12 (M := M) h)
    · rw [b, gup_ne (by omega)]; exact (mW_13 (M := M) h)
    · rw [b, gup_ne (by omega)]; exact (mW_14 (M := M) h)
    · rw [b, gup_ne (by omega)]; exact (mW_15 (M := M) h)
    · rw [b, gup_ne (by omega)]; exact (mW_16 (M := M) h)
    · rw [b, gup_ne (by omega)]; exact (mW_17 (M := M) h)
    · rw [b, gup_ne (by omega)]; exact (mW_18 (M := M) h)
    · rw [b, gup_ne (by omega)]; exact (mW_19 (M := M) h)
    · rw [b, gup_ne (by omega)]; exact (mW_20 (M := M) h)
    · rw [b, gup_ne (by omega)]; exact (mW_21 (M := M) h)
    · rw [b, gup_ne (by omega)]; exact (mW_22 (M := M) h)
    · rw [b, gup_ne (by omega)]; exact (mW_23 (M := M) h)
    · rw [b, gup_ne (by omega)]; exact (mW_24 (M := M) h)
    · rw [b, gup_ne (by omega)]; exact (mW_25 (M := M) h)
theorem t_M_payer (l : Launch) (X : gX) (ad : Nat → Nat) (u : gW) (sz m : Nat) (M : mM) (nC nB : Nat) (x n : Int32) (h : mW X ad m M u) (hR : R0 M nC nB) : gMet l (EE X) y_M_payer c_M_payer 3 (some .boolean) ({ frames := 3, cells := 0, slots := 0, locals := 64 }) [.ref (ad m), .int x, .int n] ad u sz (postM X ad m (M_payer M x n) (.int (bI (q_payer M x n))) u) := by
  refine gMet_mono (k_M_payer l X ad u sz m (M.1 0) (M.1 1) (M.1 2) (M.1 3) (M.1 4) (M.1 5) (M.1 6) (M.1 7) (M.2.1 1) (M.2.1 3) (M.2.1 4) x n (mW_0 h) (mW_1 h) (mW_3 h) (mW_4 h) (R0_cl hR) (R0_mem hR)) fun v u' s ⟨e0, hh⟩ => ?_
  rcases hh with ⟨q, a, b⟩ | ⟨q, a, b⟩
  · rw [M_payer, q_payer, if_pos q, q]
    refine ⟨a, ⟨?_, ?_, ?_, ?_, ?_, ?_, ?_, ?_, ?_, ?_, ?_, ?_, ?_, ?_, ?_, ?_, ?_, ?_, ?_, ?_, ?_, ?_, ?_, ?_, ?_, ?_⟩, fun n hn => by rw [b, gup_ne (by omega), gup_ne (by omega)]⟩
    · rw [b, gup_ne (by omega), gup_self]; rfl
    · rw [b, gup_ne (by omega), gup_ne (by omega)]; exact (mW_1 (M := M) h)
    · rw [b, gup_ne (by omega), gup_ne (by omega)]; exact (mW_2 (M := M) h)
    · rw [b, gup_ne (by omega), gup_ne (by omega)]; exact (mW_3 (M := M) h)
    · rw [b, gup_self]; rfl
    · rw [b, gup_ne (by omega), gup_ne (by omega)]; exact (mW_5 (M := M) h)
    · rw [b, gup_ne (by omega), gup_ne (by omega)]; exact (mW_6 (M := M) h)
    · rw [b, gup_ne (by omega), gup_ne (by omega)]; exact (mW_7 (M := M) h)
    · rw [b, gup_ne (by omega), gup_ne (by omega)]; exact (mW_8 (M := M) h)
    · rw [b, gup_ne (by omega), gup_ne (by omega)]; exact (mW_9 (M := M) h)
    · rw [b, gup_ne (by omega), gup_ne (by omega)]; exact (mW_10 (M := M) h)
    · rw [b, gup_ne (by omega), gup_ne (by omega)]; exact (mW_11 (M := M) h)
    · rw [b, gup_ne (by omega), gup_ne (by omega)]; exact (mW_12 (M := M) h)
    · rw [b, gup_ne (by omega), gup_ne (by omega)]; exact (mW_13 (M := M) h)
    · rw [b, gup_ne (by omega), gup_ne (by omega)]; exact (mW_14 (M := M) h)
    · rw [b, gup_ne (by omega), gup_ne (by omega)]; exact (mW_15 (M := M) h)
    · rw [b, gup_ne (by omega), gup_ne (by omega)]; exact (mW_16 (M := M) h)
    · rw [b, gup_ne (by omega), gup_ne (by omega)]; exact (mW_17 (M := M) h)
    · rw [b, gup_ne (by omega), gup_ne (by omega)]; exact (mW_18 (M := M) h)
    · rw [b, gup_ne (by omega), gup_ne (by omega)]; exact (mW_19 (M := M) h)
    · rw [b, gup_ne (by omega), gup_ne (by omega)]; exact (mW_20 (M := M) h)
    · rw [b, gup_ne (by omega), gup_ne (by omega)]; exact (mW_21 (M := M) h)
    · rw [b, gup_ne (by omega), gup_ne (by omega)]; exact (mW_22 (M := M) h)
    · rw [b, gup_ne (by omega), gup_ne (by omega)]; exact (mW_23 (M := M) h)
    · rw [b, gup_ne (by omega), gup_ne (by omega)]; exact (mW_24 (M := M) h)
    · rw [b, gup_ne (by omega), gup_ne (by omega)]; exact (mW_25 (M := M) h)
  · rw [M_payer, q_payer, if_neg (by rw [q]; decide), q]
    refine ⟨a, ⟨?_, ?_, ?_, ?_, ?_, ?_, ?_, ?_, ?_, ?_, ?_, ?_, ?_, ?_, ?_, ?_, ?_, ?_, ?_, ?_, ?_, ?_, ?_, ?_, ?_, ?_⟩, fun n hn => by rw [b, gup_ne (by omega)]⟩
    · rw [b, gup_self]; rfl
    · rw [b, gup_ne (by omega)]; exact (mW_1 (M := M) h)
    · rw [b, gup_ne (by omega)]; exact (mW_2 (M := M) h)
    · rw [b, gup_ne (by omega)]; exact (mW_3 (M := M) h)
    · rw [b, gup_ne (by omega)]; exact (mW_4 (M := M) h)
    · rw [b, gup_ne (by omega)]; exact (mW_5 (M := M) h)
    · rw [b, gup_ne (by omega)]; exact (mW_6 (M := M) h)
    · rw [b, gup_ne (by omega)]; exact (mW_7 (M := M) h)
    · rw [b, gup_ne (by omega)]; exact (mW_8 (M := M) h)
    · rw [b, gup_ne (by omega)]; exact (mW_9 (M := M) h)
    · rw [b, gup_ne (by omega)]; exact (mW_10 (M := M) h)
    · rw [b, gup_ne (by omega)]; exact (mW_11 (M := M) h)
    · rw [b, gup_ne (by omega)]; exact (mW_12 (M := M) h)
    · rw [b, gup_ne (by omega)]; exact (mW_13 (M := M) h)
    · rw [b, gup_ne (by omega)]; exact (mW_14 (M := M) h)
    · rw [b, gup_ne (by omega)]; exact (mW_15 (M := M) h)
    · rw [b, gup_ne (by omega)]; exact (mW_16 (M := M) h)
    · rw [b, gup_ne (by omega)]; exact (mW_17 (M := M) h)
    · rw [b, gup_ne (by omega)]; exact (mW_18 (M := M) h)
    · rw [b, gup_ne (by omega)]; exact (mW_19 (M := M) h)
    · rw [b, gup_ne (by omega)]; exact (mW_20 (M := M) h)
    · rw [b, gup_ne (by omega)]; exact (mW_21 (M := M) h)
    · rw [b, gup_ne (by omega)]; exact (mW_22 (M := M) h)
    · rw [b, gup_ne (by omega)]; exact (mW_23 (M := M) h)
    · rw [b, gup_ne (by omega)]; exact (mW_24 (M := M) h)
    · rw [b, gup_ne (by omega)]; exact (mW_25 (M := M) h)
theorem t_M_weight (l : Launch) (X : gX) (ad : Nat → Nat) (u : gW) (sz m : Nat) (M : mM) (nC nB : Nat) (x n : Int32) (h : mW X ad m M u) (hR : R0 M nC nB) : gMet l (EE X) y_M_weight c_M_weight 4 (some .boolean) ({ frames := 3, cells := 0, slots := 0, locals := 64 }) [.ref (ad m), .int x, .int n] ad u sz (postM X ad m (M_weight M x n) (.int (bI (q_weight M x n))) u) := by
  refine gMet_mono (k_M_weight l X ad u sz m (M.1 0) (M.1 1) (M.1 2) (M.1 3) (M.1 4) (M.1 5) (M.1 6) (M.1 7) (M.2.1 1) (M.2.1 3) (M.2.1 5) x n (mW_0 h) (mW_1 h) (mW_3 h) (mW_5 h) (R0_cl hR) (R0_mem hR)) fun v u' s ⟨e0, hh⟩ => ?_
  rcases hh with ⟨q, a, b⟩ | ⟨q, a, b⟩
  · rw [M_weight, q_weight, if_pos q, q]
    refine ⟨a, ⟨?_, ?_, ?_, ?_, ?_, ?_, ?_, ?_, ?_, ?_, ?_, ?_, ?_, ?_, ?_, ?_, ?_, ?_, ?_, ?_, ?_, ?_, ?_, ?_, ?_, ?_⟩, fun n hn => by rw [b, gup_ne (by omega), gup_ne (by omega)]⟩
    · rw [b, gup_ne (by omega), gup_self]; rfl
    · rw [b, gup_ne (by omega), gup_ne (by omega)]; exact (mW_1 (M := M) h)
    · rw [b, gup_ne (by omega), gup_ne (by omega)]; exact (mW_2 (M := M) h)
    · rw [b, gup_ne (by omega), gup_ne (by omega)]; exact (mW_3 (M := M) h)
    · rw [b, gup_ne (by omega), gup_ne (by omega)]; exact (mW_4 (M := M) h)
    · rw [b, gup_self]; rfl
    · rw [b, gup_ne (by omega), gup_ne (by omega)]; exact (mW_6 (M := M) h)
    · rw [b, gup_ne (by omega), gup_ne (by omega)]; exact (mW_7 (M := M) h)
    · rw [b, gup_ne (by omega), gup_ne (by omega)]; exact (mW_8 (M := M) h)
    · rw [b, gup_ne (by omega), gup_ne (by omega)]; exact (mW_9 (M := M) h)
    · rw [b, gup_ne (by omega), gup_ne (by omega)]; exact (mW_10 (M := M) h)
    · rw [b, gup_ne (by omega), gup_ne (by omega)]; exact (mW_11 (M := M) h)
    · rw [b, gup_ne (by omega), gup_ne (by omega)]; exact (mW_12 (M := M) h)
    · rw [b, gup_ne (by omega), gup_ne (by omega)]; exact (mW_13 (M := M) h)
    · rw [b, gup_ne (by omega), gup_ne (by omega)]; exact (mW_14 (M := M) h)
    · rw [b, gup_ne (by omega), gup_ne (by omega)]; exact (mW_15 (M := M) h)
    · rw [b, gup_ne (by omega), gup_ne (by omega)]; exact (mW_16 (M := M) h)
    · rw [b, gup_ne (by omega), gup_ne (by omega)]; exact (mW_17 (M := M) h)
    · rw [b, gup_ne (by omega), gup_ne (by omega)]; exact (mW_18 (M := M) h)
    · rw [b, gup_ne (by omega), gup_ne (by omega)]; exact (mW_19 (M := M) h)
    · rw [b, gup_ne (by omega), gup_ne (by omega)]; exact (mW_20 (M := M) h)
    · rw [b, gup_ne (by omega), gup_ne (by omega)]; exact (mW_21 (M := M) h)
    · rw [b, gup_ne (by omega), gup_ne (by omega)]; exact (mW_22 (M := M) h)
    · rw [b, gup_ne (by omega), gup_ne (by omega)]; exact (mW_23 (M := M) h)
    · rw [b, gup_ne (by omega), gup_ne (by omega)]; exact (mW_24 (M := M) h)
    · rw [b, gup_ne (by omega), gup_ne (by omega)]; exact (mW_25 (M := M) h)
  · rw [M_weight, q_weight, if_neg (by rw [q]; decide), q]
    refine ⟨a, ⟨?_, ?_, ?_, ?_, ?_, ?_, ?_, ?_, ?_, ?_, ?_, ?_, ?_, ?_, ?_, ?_, ?_, ?_, ?_, ?_, ?_, ?_, ?_, ?_, ?_, ?_⟩, fun n hn => by rw [b, gup_ne (by omega)]⟩
    · rw [b, gup_self]; rfl
    · rw [b, gup_ne (by omega)]; exact (mW_1 (M := M) h)
    · rw [b, gup_ne (by omega)]; exact (mW_2 (M := M) h)
    · rw [b, gup_ne (by omega)]; exact (mW_3 (M := M) h)
    · rw [b, gup_ne (by omega)]; exact (mW_4 (M := M) h)
    · rw [b, gup_ne (by omega)]; exact (mW_5 (M := M) h)
    · rw [b, gup_ne (by omega)]; exact (mW_6 (M := M) h)
    · rw [b, gup_ne (by omega)]; exact (mW_7 (M := M) h)
    · rw [b, gup_ne (by omega)]; exact (mW_8 (M := M) h)
    · rw [b, gup_ne (by omega)]; exact (mW_9 (M := M) h)
    · rw [b, gup_ne (by omega)]; exact (mW_10 (M := M) h)
    · rw [b, gup_ne (by omega)]; exact (mW_11 (M := M) h)
    · rw [b, gup_ne (by omega)]; exact (mW_12 (M := M) h)
    · rw [b, gup_ne (by omega)]; exact (mW_13 (M := M) h)
    · rw [b, gup_ne (by omega)]; exact (mW_14 (M := M) h)
    · rw [b, gup_ne (by omega)]; exact (mW_15 (M := M) h)
    · rw [b, gup_ne (by omega)]; exact (mW_16 (M := M) h)
    · rw [b, gup_ne (by omega)]; exact (mW_17 (M := M) h)
    · rw [b, gup_ne (by omega)]; exact (mW_18 (M := M) h)
    · rw [b, gup_ne (by omega)]; exact (mW_19 (M := M) h)
    · rw [b, gup_ne (by omega)]; exact (mW_20 (M := M) h)
    · rw [b, gup_ne (by omega)]; exact (mW_21 (M := M) h)
    · rw [b, gup_ne (by omega)]; exact (mW_22 (M := M) h)
    · rw [b, gup_ne (by omega)]; exact (mW_23 (M := M) h)
    · rw [b, gup_ne (by omega)]; exact (mW_24 (M := M) h)
    · rw [b, gup_ne (by omega)]; exact (mW_25 (M := M) h)
theorem t_M_line (l : Launch) (X : gX) (ad : Nat → Nat) (u : gW) (sz m : Nat) (M : mM) (nC nB : Nat) (n set : Int32) (h : mW X ad m M u) (hR : R0 M nC nB) (hl1 : M.1 6 = nI (lM M)) (hl2 : lM M ≤ 16) : gMet l (EE X) y_M_line c_M_line 4 (some .boolean) ({ frames := 3, cells := 0, slots := 0, locals := 64 }) [.ref (ad m), .int n, .int set] ad u sz (postM X ad m (M_line M n set) (.int (a_line M n set)) u) := by
  refine gMet_mono (k_M_line l X ad u sz m (M.1 0) (M.1 1) (M.1 2) (M.1 3) (M.1 4) (M.1 5) (M.1 6) (M.1 7) (M.2.1 1) (M.2.1 3) (M.2.1 6) (M.2.1 7) n set (mW_0 h) (mW_1 h) (mW_3 h) (mW_6 h) (mW_7 h) (R0_cl hR) (R0_mem hR) (lM M) hl1 hl2) fun v u' s ⟨e0, hh⟩ => ?_
  rcases hh with ⟨q, a, b⟩ | ⟨q, a, b⟩
  · rw [M_line, a_line, if_pos (show q_line M n set from q), if_pos (show q_line M n set from q)]
    refine ⟨a, ⟨?_, ?_, ?_, ?_, ?_, ?_, ?_, ?_, ?_, ?_, ?_, ?_, ?_, ?_, ?_, ?_, ?_, ?_, ?_, ?_, ?_, ?_, ?_, ?_, ?_, ?_⟩, fun n hn => by rw [b, gup_ne (by omega), gup_ne (by omega), gup_ne (by omega)]⟩
    · rw [b, gup_ne (by omega), gup_ne (by omega), gup_self]; rfl
    · rw [b, gup_ne (by omega), gup_ne (by omega), gup_ne (by omega)]; exact (mW_1 (M := M) h)
    · rw [b, gup_ne (by omega), gup_ne (by omega), gup_ne (by omega)]; exact (mW_2 (M := M) h)
    · rw [b, gup_ne (by omega), gup_ne (by omega), gup_ne (by omega)]; exact (mW_3 (M := M) h)
    · rw [b, gup_ne (by omega), gup_ne (by omega), gup_ne (by omega)]; exact (mW_4 (M := M) h)
    · rw [b, gup_ne (by omega), gup_ne (by omega), gup_ne (by omega)]; exact (mW_5 (M := M) h)
    · rw [b, gup_ne (by omega), gup_self]; rfl
    · rw [b, gup_self]; rfl
    · rw [b, gup_ne (by omega), gup_ne (by omega), gup_ne (by omega)]; exact (mW_8 (M := M) h)
    · rw [b, gup_ne (by omega), gup_ne (by omega), gup_ne (by omega)]; exact (mW_9 (M := M) h)
    · rw [b, gup_ne (by omega), gup_ne (by omega), gup_ne (by omega)]; exact (mW_10 (M := M) h)
    · rw [b, gup_ne (by omega), gup_ne (by omega), gup_ne (by omega)]; exact (mW_11 (M := M) h)
    · rw [b, gup_ne (by omega), gup_ne (by omega), gup_ne (by omega)]; exact (mW_12 (M := M) h)
    · rw [b, gup_ne (by omega), gup_ne (by omega), gup_ne (by omega)]; exact (mW_13 (M := M) h)
    · rw [b, gup_ne (by omega), gup_ne (by omega), gup_ne (by omega)]; exact (mW_14 (M := M) h)
    · rw [b, gup_ne (by omega), gup_ne (by omega), gup_ne (by omega)]; exact (mW_15 (M := M) h)
    · rw [b, gup_ne (by omega), gup_ne (by omega), gup_ne (by omega)]; exact (mW_16 (M := M) h)
    · rw [b, gup_ne (by omega), gup_ne (by omega), gup_ne (by omega)]; exact (mW_17 (M := M) h)
    · rw [b, gup_ne (by omega), gup_ne (by omega), gup_ne (by omega)]; exact (mW_18 (M := M) h)
    · rw [b, gup_ne (by omega), gup_ne (by omega), gup_ne (by omega)]; exact (mW_19 (M := M) h)
    · rw [b, gup_ne (by omega), gup_ne (by omega), gup_ne (by omega)]; exact (mW_20 (M := M) h)
    · rw [b, gup_ne (by omega), gup_ne (by omega), gup_ne (by omega)]; exact (mW_21 (M := M) h)
    · rw [b, gup_ne (by omega), gup_ne (by omega), gup_ne (by omega)]; exact (mW_22 (M := M) h)
    · rw [b, gup_ne (by omega), gup_ne (by omega), gup_ne (by omega)]; exact (mW_23 (M := M) h)
    · rw [b, gup_ne (by omega), gup_ne (by omega), gup_ne (by omega)]; exact (mW_24 (M := M) h)
    · rw [b, gup_ne (by omega), gup_ne (by omega), gup_ne (by omega)]; exact (mW_25 (M := M) h)
  · rw [M_line, a_line, if_neg (show ¬ q_line M n set from q), if_neg (show ¬ q_line M n set from q)]
    refine ⟨a, ⟨?_, ?_, ?_, ?_, ?_, ?_, ?_, ?_, ?_, ?_, ?_, ?_, ?_, ?_, ?_, ?_, ?_, ?_, ?_, ?_, ?_, ?_, ?_, ?_, ?_, ?_⟩, fun n hn => by rw [b, gup_ne (by omega)]⟩
    · rw [b, gup_self]; rfl
    · rw [b, gup_ne (by omega)]; exact (mW_1 (M := M) h)
    · rw [b, gup_ne (by omega)]; exact (mW_2 (M := M) h)
    · rw [b, gup_ne (by omega)]; exact (mW_3 (M := M) h)
    · rw [b, gup_ne (by omega)]; exact (mW_4 (M := M) h)
    · rw [b, gup_ne (by omega)]; exact (mW_5 (M := M) h)
    · rw [b, gup_ne (by omega)]; exact (mW_6 (M := M) h)
    · rw [b, gup_ne (by omega)]; exact (mW_7 (M := M) h)
    · rw [b, gup_ne (by omega)]; exact (mW_8 (M := M) h)
    · rw [b, gup_ne (by omega)]; exact (mW_9 (M := M) h)
    · rw [b, gup_ne (by omega)]; exact (mW_10 (M := M) h)
    · rw [b, gup_ne (by omega)]; exact (mW_11 (M := M) h)
    · rw [b, gup_ne (by omega)]; exact (mW_12 (M := M) h)
    · rw [b, gup_ne (by omega)]; exact (mW_13 (M := M) h)
    · rw [b, gup_ne (by omega)]; exact (mW_14 (M := M) h)
    · rw [b, gup_ne (by omega)]; exact (mW_15 (M := M) h)
    · rw [b, gup_ne (by omega)]; exact (mW_16 (M := M) h)
    · rw [b, gup_ne (by omega)]; exact (mW_17 (M := M) h)
    · rw [b, gup_ne (by omega)]; exact (mW_18 (M := M) h)
    · rw [b, gup_ne (by omega)]; exact (mW_19 (M := M) h)
    · rw [b, gup_ne (by omega)]; exact (mW_20 (M := M) h)
    · rw [b, gup_ne (by omega)]; exact (mW_21 (M := M) h)
    · rw [b, gup_ne (by omega)]; exact (mW_22 (M := M) h)
    · rw [b, gup_ne (by omega)]; exact (mW_23 (M := M) h)
    · rw [b, gup_ne (by omega)]; exact (mW_24 (M := M) h)
    · rw [b, gup_ne (by omega)]; exact (mW_25 (M := M) h)
theorem t_M_strike (l : Launch) (X : gX) (ad : Nat → Nat) (u : gW) (sz m : Nat) (M : mM) (nC nB : Nat) (b : Int32) (h : mW X ad m M u) (hR : R0 M nC nB) : gMet l (EE X) y_M_strike c_M_strike 2 (some .boolean) ({ frames := 0, cells := 0, slots := 0, locals := 0 }) [.ref (ad m), .int b] ad u sz (postM X ad m (M_strike M b) (.int (bI (q_strike M b))) u) := by
  refine gMet_mono (k_M_strike l X ad u sz m (M.1 0) (M.1 1) (M.1 2) (M.1 3) (M.1 4) (M.1 5) (M.1 6) (M.1 7) (M.2.1 9) (M.2.1 11) (M.2.1 16) b (mW_0 h) (mW_9 h) (mW_11 h) (mW_16 h) (R0_bi hR) (R0_cof hR)) fun v u' s ⟨e0, hh⟩ => ?_
  rcases hh with ⟨q, a, b⟩ | ⟨q, a, b⟩
  · rw [M_strike, q_strike, if_pos q, q]
    refine ⟨a, ⟨?_, ?_, ?_, ?_, ?_, ?_, ?_, ?_, ?_, ?_, ?_, ?_, ?_, ?_, ?_, ?_, ?_, ?_, ?_, ?_, ?_, ?_, ?_, ?_, ?_, ?_⟩, fun n hn => by rw [b, gup_ne (by omega), gup_ne (by omega)]⟩
    · rw [b, gup_ne (by omega), gup_self]; rfl
    · rw [b, gup_ne (by omega), gup_ne (by omega)]; exact (mW_1 (M := M) h)
    · rw [b, gup_ne (by omega), gup_ne (by omega)]; exact (mW_2 (M := M) h)
    · rw [b, gup_ne (by omega), gup_ne (by omega)]; exact (mW_3 (M := M) h)
    · rw [b, gup_ne (by omega), gup_ne (by omega)]; exact (mW_4 (M := M) h)
    · rw [b, gup_ne (by omega), gup_ne (by omega)]; exact (mW_5 (M := M) h)
    · rw [b, gup_ne (by omega), gup_ne (by omega)]; exact (mW_6 (M := M) h)
    · rw [b, gup_ne (by omega), gup_ne (by omega)]; exact (mW_7 (M := M) h)
    · rw [b, gup_ne (by omega), gup_ne (by omega)]; exact (mW_8 (M := M) h)
    · rw [b, gup_ne (by omega), gup_ne (by omega)]; exact (mW_9 (M := M) h)
    · rw [b, gup_ne (by omega), gup_ne (by omega)]; exact (mW_10 (M := M) h)
    · rw [b, gup_self]; rfl
    · rw [b, gup_ne (by omega), gup_ne (by omega)]; exact (mW_12 (M := M) h)
    · rw [b, gup_ne (by omega), gup_ne (by omega)]; exact (mW_13 (M := M) h)
    · rw [b, gup_ne (by omega), gup_ne (by omega)]; exact (mW_14 (M := M) h)
    · rw [b, gup_ne (by omega), gup_ne (by omega)]; exact (mW_15 (M := M) h)
    · rw [b, gup_ne (by omega), gup_ne (by omega)]; exact (mW_16 (M := M) h)
    · rw [b, gup_ne (by omega), gup_ne (by omega)]; exact (mW_17 (M := M) h)
    · rw [b, gup_ne (by omega), gup_ne (by omega)]; exact (mW_18 (M := M) h)
    · rw [b, gup_ne (by omega), gup_ne (by omega)]; exact (mW_19 (M := M) h)
    · rw [b, gup_ne (by omega), gup_ne (by omega)]; exact (mW_20 (M := M) h)
    · rw [b, gup_ne (by omega), gup_ne (by omega)]; exact (mW_21 (M := M) h)
    · rw [b, gup_ne (by omega), gup_ne (by omega)]; exact (mW_22 (M := M) h)
    · rw [b, gup_ne (by omega), gup_ne (by omega)]; exact (mW_23 (M := M) h)
    · rw [b, gup_ne (by omega), gup_ne (by omega)]; exact (mW_24 (M := M) h)
    · rw [b, gup_ne (by omega), gup_ne (by omega)]; exact (mW_25 (M := M) h)
  · rw [M_strike, q_strike, if_neg (by rw [q]; decide), q]
    refine ⟨a, ⟨?_, ?_, ?_, ?_, ?_, ?_, ?_, ?_, ?_, ?_, ?_, ?_, ?_, ?_, ?_, ?_, ?_, ?_, ?_, ?_, ?_, ?_, ?_, ?_, ?_, ?_⟩, fun n hn => by rw [b, gup_ne (by omega)]⟩
    · rw [b, gup_self]; rfl
    · rw [b, gup_ne (by omega)]; exact (mW_1 (M := M) h)
    · rw [b, gup_ne (by omega)]; exact (mW_2 (M := M) h)
    · rw [b, gup_ne (by omega)]; exact (mW_3 (M := M) h)
    · rw [b, gup_ne (by omega)]; exact (mW_4 (M := M) h)
    · rw [b, gup_ne (by omega)]; exact (mW_5 (M := M) h)
    · rw [b, gup_ne (by omega)]; exact (mW_6 (M := M) h)
    · rw [b, gup_ne (by omega)]; exact (mW_7 (M := M) h)
    · rw [b, gup_ne (by omega)]; exact (mW_8 (M := M) h)
    · rw [b, gup_ne (by omega)]; exact (mW_9 (M := M) h)
    · rw [b, gup_ne (by omega)]; exact (mW_10 (M := M) h)
    · rw [b, gup_ne (by omega)]; exact (mW_11 (M := M) h)
    · rw [b, gup_ne (by omega)]; exact (mW_12 (M := M) h)
    · rw [b, gup_ne (by omega)]; exact (mW_13 (M := M) h)
    · rw [b, gup_ne (by omega)]; exact (mW_14 (M := M) h)
    · rw [b, gup_ne (by omega)]; exact (mW_15 (M := M) h)
    · rw [b, gup_ne (by omega)]; exact (mW_16 (M := M) h)
    · rw [b, gup_ne (by omega)]; exact (mW_17 (M := M) h)
    · rw [b, gup_ne (by omega)]; exact (mW_18 (M := M) h)
    · rw [b, gup_ne (by omega)]; exact (mW_19 (M := M) h)
    · rw [b, gup_ne (by omega)]; exact (mW_20 (M := M) h)
    · rw [b, gup_ne (by omega)]; exact (mW_21 (M := M) h)
    · rw [b, gup_ne (by omega)]; exact (mW_22 (M := M) h)
    · rw [b, gup_ne (by omega)]; exact (mW_23 (M := M) h)
    · rw [b, gup_ne (by omega)]; exact (mW_24 (M := M) h)
    · rw [b, gup_ne (by omega)]; exact (mW_25 (M := M) h)
theorem t_M_tick (l : Launch) (X : gX) (ad : Nat → Nat) (u : gW) (sz m : Nat) (M : mM) (nC nB : Nat) (c i : Int32) (h : mW X ad m M u) (hR : R0 M nC nB) : gMet l (EE X) y_M_tick c_M_tick 4 (some .boolean) ({ frames := 2, cells := 0, slots := 0, locals := 43 }) [.ref (ad m), .int c, .int i] ad u sz (postM X ad m (M_tick M c i) (.int (bI (q_tick M c i))) u) := by
  refine gMet_mono (k_M_tick l X ad u sz m (M.1 0) (M.1 1) (M.1 2) (M.1 3) (M.1 4) (M.1 5) (M.1 6) (M.1 7) (M.2.1 16) (M.2.1 19) (M.2.1 20) (M.2.1 21) (M.2.1 23) (M.2.2 15) (M.2.2 22) c i (mW_0 h) (mW_16 h) (mW_19 h) (mW_20 h) (mW_21 h) (mW_23 h) (mW_15 h) (mW_22 h) (R0_cl hR) (R0_man hR) (R0_sd hR) (R0_gt hR)) fun v u' s ⟨e0, hh⟩ => ?_
  rcases hh with ⟨q, a, b⟩ | ⟨q, a, b⟩
  · rw [M_tick, q_tick, if_pos q, q]
    refine ⟨a, ⟨?_, ?_, ?_, ?_, ?_, ?_, ?_, ?_, ?_, ?_, ?_, ?_, ?_, ?_, ?_, ?_, ?_, ?_, ?_, ?_, ?_, ?_, ?_, ?_, ?_, ?_⟩, fun n hn => by rw [b, gup_ne (by omega), gup_ne (by omega), gup_ne (by omega)]⟩
    · rw [b, gup_ne (by omega), gup_ne (by omega), gup_self]; rfl
    · rw [b, gup_ne (by omega), gup_ne (by omega), gup_ne (by omega)]; exact (mW_1 (M := M) h)
    · rw [b, gup_ne (by omega), gup_ne (by omega), gup_ne (by omega)]; exact (mW_2 (M := M) h)
    · rw [b, gup_ne (by omega), gup_ne (by omega), gup_ne (by omega)]; exact (mW_3 (M := M) h)
    · rw [b, gup_ne (by omega), gup_ne (by omega), gup_ne (by omega)]; exact (mW_4 (M := M) h)
    · rw [b, gup_ne (by omega), gup_ne (by omega), gup_ne (by omega)]; exact (mW_5 (M := M) h)
    · rw [b, gup_ne (by omega), gup_ne (by omega), gup_ne (by omega)]; exact (mW_6 (M := M) h)
    · rw [b, gup_ne (by omega), gup_ne (by omega), gup_ne (by omega)]; exact (mW_7 (M := M) h)
    · rw [b, gup_ne (by omega), gup_ne (by omega), gup_ne (by omega)]; exact (mW_8 (M := M) h)
    · rw [b, gup_ne (by omega), gup_ne (by omega), gup_ne (by omega)]; exact (mW_9 (M := M) h)
    · rw [b, gup_ne (by omega), gup_ne (by omega), gup_ne (by omega)]; exact (mW_10 (M := M) h)
    · rw [b, gup_ne (by omega), gup_ne (by omega), gup_ne (by omega)]; exact (mW_11 (M := M) h)
    · rw [b, gup_ne (by omega), gup_ne (by omega), gup_ne (by omega)]; exact (mW_12 (M := M) h)
    · rw [b, gup_ne (by omega), gup_ne (by omega), gup_ne (by omega)]; exact (mW_13 (M := M) h)
    · rw [b, gup_ne (by omega), gup_ne (by omega), gup_ne (by omega)]; exact (mW_14 (M := M) h)
    · rw [b, gup_self]; rfl
    · rw [b, gup_ne (by omega), gup_ne (by omega), gup_ne (by omega)]; exact (mW_16 (M := M) h)
    · rw [b, gup_ne (by omega), gup_ne (by omega), gup_ne (by omega)]; exact (mW_17 (M := M) h)
    · rw [b, gup_ne (by omega), gup_ne (by omega), gup_ne (by omega)]; exact (mW_18 (M := M) h)
    · rw [b, gup_ne (by omega), gup_ne (by omega), gup_ne (by omega)]; exact (mW_19 (M := M) h)
    · rw [b, gup_ne (by omega), gup_ne (by omega), gup_ne (by omega)]; exact (mW_20 (M := M) h)
    · rw [b, gup_ne (by omega), gup_ne (by omega), gup_ne (by omega)]; exact (mW_21 (M := M) h)
    · rw [b, gup_ne (by omega), gup_ne (by omega), gup_ne (by omega)]; exact (mW_22 (M := M) h)
    · rw [b, gup_ne (by omega), gup_self]; rfl
    · rw [b, gup_ne (by omega), gup_ne (by omega), gup_ne (by omega)]; exact (mW_24 (M := M) h)
    · rw [b, gup_ne (by omega), gup_ne (by omega), gup_ne (by omega)]; exact (mW_25 (M := M) h)
  · rw [M_tick, q_tick, if_neg (by rw [q]; decide), q]
    refine ⟨a, ⟨?_, ?_, ?_, ?_, ?_, ?_, ?_, ?_, ?_, ?_, ?_, ?_, ?_, ?_, ?_, ?_, ?_, ?_, ?_, ?_, ?_, ?_, ?_, ?_, ?_, ?_⟩, fun n hn => by rw [b, gup_ne (by omega)]⟩
    · rw [b, gup_self]; rfl
    · rw [b, gup_ne (by omega)]; exact (mW_1 (M := M) h)
    · rw [b, gup_ne (by omega)]; exact (mW_2 (M := M) h)
    · rw [b, gup_ne (by omega)]; exact (mW_3 (M := M) h)
    · rw [b, gup_ne (by omega)]; exact (mW_4 (M := M) h)
    · rw [b, gup_ne (by omega)]; exact (mW_5 (M := M) h)
    · rw [b, gup_ne (by omega)]; exact (mW_6 (M := M) h)
    · rw [b, gup_ne (by omega)]; exact (mW_7 (M := M) h)
    · rw [b, gup_ne (by omega)]; exact (mW_8 (M := M) h)
    · rw [b, gup_ne (by omega)]; exact (mW_9 (M := M) h)
    · rw [b, gup_ne (by omega)]; exact (mW_10 (M := M) h)
    · rw [b, gup_ne (by omega)]; exact (mW_11 (M := M) h)
    · rw [b, gup_ne (by omega)]; exact (mW_12 (M := M) h)
    · rw [b, gup_ne (by omega)]; exact (mW_13 (M := M) h)
    · rw [b, gup_ne (by omega)]; exact (mW_14 (M := M) h)
    · rw [b, gup_ne (by omega)]; exact (mW_15 (M := M) h)
    · rw [b, gup_ne (by omega)]; exact (mW_16 (M := M) h)
    · rw [b, gup_ne (by omega)]; exact (mW_17 (M := M) h)
    · rw [b, gup_ne (by omega)]; exact (mW_18 (M := M) h)
    · rw [b, gup_ne (by omega)]; exact (mW_19 (M := M) h)
    · rw [b, gup_ne (by omega)]; exact (mW_20 (M := M) h)
    · rw [b, gup_ne (by omega)]; exact (mW_21 (M := M) h)
    · rw [b, gup_ne (by omega)]; exact (mW_22 (M := M) h)
    · rw [b, gup_ne (by omega)]; exact (mW_23 (M := M) h)
    · rw [b, gup_ne (by omega)]; exact (mW_24 (M := M) h)
    · rw [b, gup_ne (by omega)]; exact (mW_25 (M := M) h)
theorem t_M_giveUp (l : Launch) (X : gX) (ad : Nat → Nat) (u : gW) (sz m : Nat) (M : mM) (nC nB : Nat) (c : Int32) (h : mW X ad m M u) (hR : R0 M nC nB) : gMet l (EE X) y_M_giveUp c_M_giveUp 2 (some .int) ({ frames := 1, cells := 0, slots := 0, locals := 23 }) [.ref (ad m), .int c] ad u sz (postM X ad m (M_giveUp M c) (.int (a_giveUp M c)) u) := by
  refine gMet_mono (k_M_giveUp l X ad u sz m (M.1 0) (M.1 1) (M.1 2) (M.1 3) (M.1 4) (M.1 5) (M.1 6) (M.1 7) (M.2.1 16) (M.2.1 19) (M.2.1 23) c (mW_0 h) (mW_16 h) (mW_19 h) (mW_23 h) (R0_cl hR) (R0_man hR)) fun v u' s ⟨e0, hh⟩ => ?_
  rcases hh with ⟨q, a, b⟩ | ⟨q, a, b⟩
  · rw [M_giveUp, a_giveUp, q_give, if_pos q, if_pos q]
    refine ⟨a, ⟨?_, ?_, ?_, ?_, ?_, ?_, ?_, ?_, ?_, ?_, ?_, ?_, ?_, ?_, ?_, ?_, ?_, ?_, ?_, ?_, ?_, ?_, ?_, ?_, ?_, ?_⟩, fun n hn => by rw [b, gup_ne (by omega), gup_ne (by omega)]⟩
    · rw [b, gup_ne (by omega), gup_self]; rfl
    · rw [b, gup_ne (by omega), gup_ne (by omega)]; exact (mW_1 (M := M) h)
    · rw [b, gup_ne (by omega), gup_ne (by omega)]; exact (mW_2 (M := M) h)
    · rw [b, gup_ne (by omega), gup_ne (by omega)]; exact (mW_3 (M := M) h)
    · rw [b, gup_ne (by omega), gup_ne (by omega)]; exact (mW_4 (M := M) h)
    · rw [b, gup_ne (by omega), gup_ne (by omega)]; exact (mW_5 (M := M) h)
    · rw [b, gup_ne (by omega), gup_ne (by omega)]; exact (mW_6 (M := M) h)
    · rw [b, gup_ne (by omega), gup_ne (by omega)]; exact (mW_7 (M := M) h)
    · rw [b, gup_ne (by omega), gup_ne (by omega)]; exact (mW_8 (M := M) h)
    · rw [b, gup_ne (by omega), gup_ne (by omega)]; exact (mW_9 (M := M) h)
    · rw [b, gup_ne (by omega), gup_ne (by omega)]; exact (mW_10 (M := M) h)
    · rw [b, gup_ne (by omega), gup_ne (by omega)]; exact (mW_11 (M := M) h)
    · rw [b, gup_ne (by omega), gup_ne (by omega)]; exact (mW_12 (M := M) h)
    · rw [b, gup_ne (by omega), gup_ne (by omega)]; exact (mW_13 (M := M) h)
    · rw [b, gup_ne (by omega), gup_ne (by omega)]; exact (mW_14 (M := M) h)
    · rw [b, gup_ne (by omega), gup_ne (by omega)]; exact (mW_15 (M := M) h)
    · rw [b, gup_self]; rfl
    · rw [b, gup_ne (by omega), gup_ne (by omega)]; exact (mW_17 (M := M) h)
    · rw [b, gup_ne (by omega), gup_ne (by omega)]; exact (mW_18 (M := M) h)
    · rw [b, gup_ne (by omega), gup_ne (by omega)]; exact (mW_19 (M := M) h)
    · rw [b, gup_ne (by omega), gup_ne (by omega)]; exact (mW_20 (M := M) h)
    · rw [b, gup_ne (by omega), gup_ne (by omega)]; exact (mW_21 (M := M) h)
    · rw [b, gup_ne (by omega), gup_ne (by omega)]; exact (mW_22 (M := M) h)
    · rw [b, gup_ne (by omega), gup_ne (by omega)]; exact (mW_23 (M := M) h)
    · rw [b, gup_ne (by omega), gup_ne (by omega)]; exact (mW_24 (M := M) h)
    · rw [b, gup_ne (by omega), gup_ne (by omega)]; exact (mW_25 (M := M) h)
  · rw [M_giveUp, a_giveUp, q_give, if_neg (by rw [q]; decide), if_neg (by rw [q]; decide)]
    refine ⟨a, ⟨?_, ?_, ?_, ?_, ?_, ?_, ?_, ?_, ?_, ?_, ?_, ?_, ?_, ?_, ?_, ?_, ?_, ?_, ?_, ?_, ?_, ?_, ?_, ?_, ?_, ?_⟩, fun n hn => by rw [b, gup_ne (by omega)]⟩
    · rw [b, gup_self]; rfl
    · rw [b, gup_ne (by omega)]; exact (mW_1 (M := M) h)
    · rw [b, gup_ne (by omega)]; exact (mW_2 (M := M) h)
    · rw [b, gup_ne (by omega)]; exact (mW_3 (M := M) h)
    · rw [b, gup_ne (by omega)]; exact (mW_4 (M := M) h)
    · rw [b, gup_ne (by omega)]; exact (mW_5 (M := M) h)
    · rw [b, gup_ne (by omega)]; exact (mW_6 (M := M) h)
    · rw [b, gup_ne (by omega)]; exact (mW_7 (M := M) h)
    · rw [b, gup_ne (by omega)]; exact (mW_8 (M := M) h)
    · rw [b, gup_ne (by omega)]; exact (mW_9 (M := M) h)
    · rw [b, gup_ne (by omega)]; exact (mW_10 (M := M) h)
    · rw [b, gup_ne (by omega)]; exact (mW_11 (M := M) h)
    · rw [b, gup_ne (by omega)]; exact (mW_12 (M := M) h)
    · rw [b, gup_ne (by omega)]; exact (mW_13 (M := M) h)
    · rw [b, gup_ne (by omega)]; exact (mW_14 (M := M) h)
    · rw [b, gup_ne (by omega)]; exact (mW_15 (M := M) h)
    · rw [b, gup_ne (by omega)]; exact (mW_16 (M := M) h)
    · rw [b, gup_ne (by omega)]; exact (mW_17 (M := M) h)
    · rw [b, gup_ne (by omega)]; exact (mW_18 (M := M) h)
    · rw [b, gup_ne (by omega)]; exact (mW_19 (M := M) h)
    · rw [b, gup_ne (by omega)]; exact (mW_20 (M := M) h)
    · rw [b, gup_ne (by omega)]; exact (mW_21 (M := M) h)
    · rw [b, gup_ne (by omega)]; exact (mW_22 (M := M) h)
    · rw [b, gup_ne (by omega)]; exact (mW_23 (M := M) h)
    · rw [b, gup_ne (by omega)]; exact (mW_24 (M := M) h)
    · rw [b, gup_ne (by omega)]; exact (mW_25 (M := M) h)
theorem t_M_close (l : Launch) (X : gX) (ad : Nat → Nat) (u : gW) (sz m : Nat) (M : mM) (nC nB : Nat) (c : Int32) (h : mW X ad m M u) (hR : R0 M nC nB) : gMet l (EE X) y_M_close c_M_close 2 (some .boolean) ({ frames := 1, cells := 0, slots := 0, locals := 23 }) [.ref (ad m), .int c] ad u sz (postM X ad m (M_close M c) (.int (bI (q_close M c))) u) := by
  refine gMet_mono (k_M_close l X ad u sz m (M.1 0) (M.1 1) (M.1 2) (M.1 3) (M.1 4) (M.1 5) (M.1 6) (M.1 7) (M.2.1 16) (M.2.1 19) (M.2.1 23) c (mW_0 h) (mW_16 h) (mW_19 h) (mW_23 h) (R0_cl hR) (R0_man hR)) fun v u' s ⟨e0, hh⟩ => ?_
  rcases hh with ⟨q, a, b⟩ | ⟨q, a, b⟩
  · rw [M_close, q_close, if_pos q, q]
    refine ⟨a, ⟨?_, ?_, ?_, ?_, ?_, ?_, ?_, ?_, ?_, ?_, ?_, ?_, ?_, ?_, ?_, ?_, ?_, ?_, ?_, ?_, ?_, ?_, ?_, ?_, ?_, ?_⟩, fun n hn => by rw [b, gup_ne (by omega), gup_ne (by omega)]⟩
    · rw [b, gup_ne (by omega), gup_self]; rfl
    · rw [b, gup_ne (by omega), gup_ne (by omega)]; exact (mW_1 (M := M) h)
    · rw [b, gup_ne (by omega), gup_ne (by omega)]; exact (mW_2 (M := M) h)
    · rw [b, gup_ne (by omega), gup_ne (by omega)]; exact (mW_3 (M := M) h)
    · rw [b, gup_ne (by omega), gup_ne (by omega)]; exact (mW_4 (M := M) h)
    · rw [b, gup_ne (by omega), gup_ne (by omega)]; exact (mW_5 (M := M) h)
    · rw [b, gup_ne (by omega), gup_ne (by omega)]; exact (mW_6 (M := M) h)
    · rw [b, gup_ne (by omega), gup_ne (by omega)]; exact (mW_7 (M := M) h)
    · rw [b, gup_ne (by omega), gup_ne (by omega)]; exact (mW_8 (M := M) h)
    · rw [b, gup_ne (by omega), gup_ne (by omega)]; exact (mW_9 (M := M) h)
    · rw [b, gup_ne (by omega), gup_ne (by omega)]; exact (mW_10 (M := M) h)
    · rw [b, gup_ne (by omega), gup_ne (by omega)]; exact (mW_11 (M := M) h)
    · rw [b, gup_ne (by omega), gup_ne (by omega)]; exact (mW_12 (M := M) h)
    · rw [b, gup_ne (by omega), gup_ne (by omega)]; exact (mW_13 (M := M) h)
    · rw [b, gup_ne (by omega), gup_ne (by omega)]; exact (mW_14 (M := M) h)
    · rw [b, gup_ne (by omega), gup_ne (by omega)]; exact (mW_15 (M := M) h)
    · rw [b, gup_self]; rfl
    · rw [b, gup_ne (by omega), gup_ne (by omega)]; exact (mW_17 (M := M) h)
    · rw [b, gup_ne (by omega), gup_ne (by omega)]; exact (mW_18 (M := M) h)
    · rw [b, gup_ne (by omega), gup_ne (by omega)]; exact (mW_19 (M := M) h)
    · rw [b, gup_ne (by omega), gup_ne (by omega)]; exact (mW_20 (M := M) h)
    · rw [b, gup_ne (by omega), gup_ne (by omega)]; exact (mW_21 (M := M) h)
    · rw [b, gup_ne (by omega), gup_ne (by omega)]; exact (mW_22 (M := M) h)
    · rw [b, gup_ne (by omega), gup_ne (by omega)]; exact (mW_23 (M := M) h)
    · rw [b, gup_ne (by omega), gup_ne (by omega)]; exact (mW_24 (M := M) h)
    · rw [b, gup_ne (by omega), gup_ne (by omega)]; exact (mW_25 (M := M) h)
  · rw [M_close, q_close, if_neg (by rw [q]; decide), q]
    refine ⟨a, ⟨?_, ?_, ?_, ?_, ?_, ?_, ?_, ?_, ?_, ?_, ?_, ?_, ?_, ?_, ?_, ?_, ?_, ?_, ?_, ?_, ?_, ?_, ?_, ?_, ?_, ?_⟩, fun n hn => by rw [b, gup_ne (by omega)]⟩
    · rw [b, gup_self]; rfl
    · rw [b, gup_ne (by omega)]; exact (mW_1 (M := M) h)
    · rw [b, gup_ne (by omega)]; exact (mW_2 (M := M) h)
    · rw [b, gup_ne (by omega)]; exact (mW_3 (M := M) h)
    · rw [b, gup_ne (by omega)]; exact (mW_4 (M := M) h)
    · rw [b, gup_ne (by omega)]; exact (mW_5 (M := M) h)
    · rw [b, gup_ne (by omega)]; exact (mW_6 (M := M) h)
    · rw [b, gup_ne (by omega)]; exact (mW_7 (M := M) h)
    · rw [b, gup_ne (by omega)]; exact (mW_8 (M := M) h)
    · rw [b, gup_ne (by omega)]; exact (mW_9 (M := M) h)
    · rw [b, gup_ne (by omega)]; exact (mW_10 (M := M) h)
    · rw [b, gup_ne (by omega)]; exact (mW_11 (M := M) h)
    · rw [b, gup_ne (by omega)]; exact (mW_12 (M := M) h)
    · rw [b, gup_ne (by omega)]; exact (mW_13 (M := M) h)
    · rw [b, gup_ne (by omega)]; exact (mW_14 (M := M) h)
    · rw [b, gup_ne (by omega)]; exact (mW_15 (M := M) h)
    · rw [b, gup_ne (by omega)]; exact (mW_16 (M := M) h)
    · rw [b, gup_ne (by omega)]; exact (mW_17 (M := M) h)
    · rw [b, gup_ne (by omega)]; exact (mW_18 (M := M) h)
    · rw [b, gup_ne (by omega)]; exact (mW_19 (M := M) h)
    · rw [b, gup_ne (by omega)]; exact (mW_20 (M := M) h)
    · rw [b, gup_ne (by omega)]; exact (mW_21 (M := M) h)
    · rw [b, gup_ne (by omega)]; exact (mW_22 (M := M) h)
    · rw [b, gup_ne (by omega)]; exact (mW_23 (M := M) h)
    · rw [b, gup_ne (by omega)]; exact (mW_24 (M := M) h)
    · rw [b, gup_ne (by omega)]; exact (mW_25 (M := M) h)
theorem t_M_about (l : Launch) (X : gX) (ad : Nat → Nat) (u : gW) (sz m : Nat) (M : mM) (nC nB : Nat) (b x w : Int32) (h : mW X ad m M u) (hR : R0 M nC nB) : gMet l (EE X) y_M_about c_M_about 4 (some .long) ({ frames := 0, cells := 0, slots := 0, locals := 0 }) [.ref (ad m), .int b, .int x, .int w] ad u sz (postM X ad m (sI M 0 0) (.long (a_about M b x w)) u) := by
  refine gMet_mono (k_M_about l X ad u sz m (M.1 0) (M.1 1) (M.1 2) (M.1 3) (M.1 4) (M.1 5) (M.1 6) (M.1 7) (M.2.2 12) (M.2.2 13) (M.2.2 14) b x w (mW_0 h) (mW_12 h) (mW_13 h) (mW_14 h) (R0_bi hR)) fun v u' s ⟨a, b, e0⟩ => ?_
  refine ⟨by exact a, ⟨?_, ?_, ?_, ?_, ?_, ?_, ?_, ?_, ?_, ?_, ?_, ?_, ?_, ?_, ?_, ?_, ?_, ?_, ?_, ?_, ?_, ?_, ?_, ?_, ?_, ?_⟩, fun n hn => by rw [b, gup_ne (by omega)]⟩
  · rw [b, gup_self]; rfl
  · rw [b, gup_ne (by omega)]; exact (mW_1 (M := M) h)
  · rw [b, gup_ne (by omega)]; exact (mW_2 (M := M) h)
  · rw [b, gup_ne (by omega)]; exact (mW_3 (M := M) h)
  · rw [b, gup_ne (by omega)]; exact (mW_4 (M := M) h)
  · rw [b, gup_ne (by omega)]; exact (mW_5 (M := M) h)
  · rw [b, gup_ne (by omega)]; exact (mW_6 (M := M) h)
  · rw [b, gup_ne (by omega)]; exact (mW_7 (M := M) h)
  · rw [b, gup_ne (by omega)]; exact (mW_8 (M := M) h)
  · rw [b, gup_ne (by omega)]; exact (mW_9 (M := M) h)
  · rw [b, gup_ne (by omega)]; exact (mW_10 (M := M) h)
  · rw [b, gup_ne (by omega)]; exact (mW_11 (M := M) h)
  · rw [b, gup_ne (by omega)]; exact (mW_12 (M := M) h)
  · rw [b, gup_ne (by omega)]; exact (mW_13 (M := M) h)
  · rw [b, gup_ne (by omega)]; exact (mW_14 (M := M) h)
  · rw [b, gup_ne (by omega)]; exact (mW_15 (M := M) h)
  · rw [b, gup_ne (by omega)]; exact (mW_16 (M := M) h)
  · rw [b, gup_ne (by omega)]; exact (mW_17 (M := M) h)
  · rw [b, gup_ne (by omega)]; exact (mW_18 (M := M) h)
  · rw [b, gup_ne (by omega)]; exact (mW_19 (M := M) h)
  · rw [b, gup_ne (by omega)]; exact (mW_20 (M := M) h)
  · rw [b, gup_ne (by omega)]; exact (mW_21 (M := M) h)
  · rw [b, gup_ne (by omega)]; exact (mW_22 (M := M) h)
  · rw [b, gup_ne (by omega)]; exact (mW_23 (M := M) h)
  · rw [b, gup_ne (by omega)]; exact (mW_24 (M := M) h)
  · rw [b, gup_ne (by omega)]; exact (mW_25 (M := M) h)
theorem t_M_total (l : Launch) (X : gX) (ad : Nat → Nat) (u : gW) (sz m : Nat) (M : mM) (nC nB : Nat) (b : Int32) (h : mW X ad m M u) (hR : R0 M nC nB) : gMet l (EE X) y_M_total c_M_total 2 (some .long) ({ frames := 0, cells := 0, slots := 0, locals := 0 }) [.ref (ad m), .int b] ad u sz (postM X ad m (sI M 0 0) (.long (a_total M b)) u) := by
  refine gMet_mono (k_M_total l X ad u sz m (M.1 0) (M.1 1) (M.1 2) (M.1 3) (M.1 4) (M.1 5) (M.1 6) (M.1 7) (M.2.2 10) b (mW_0 h) (mW_10 h) (R0_bi hR)) fun v u' s ⟨a, b, e0⟩ => ?_
  refine ⟨by exact a, ⟨?_, ?_, ?_, ?_, ?_, ?_, ?_, ?_, ?_, ?_, ?_, ?_, ?_, ?_, ?_, ?_, ?_, ?_, ?_, ?_, ?_, ?_, ?_, ?_, ?_, ?_⟩, fun n hn => by rw [b, gup_ne (by omega)]⟩
  · rw [b, gup_self]; rfl
  · rw [b, gup_ne (by omega)]; exact (mW_1 (M := M) h)
  · rw [b, gup_ne (by omega)]; exact (mW_2 (M := M) h)
  · rw [b, gup_ne (by omega)]; exact (mW_3 (M := M) h)
  · rw [b, gup_ne (by omega)]; exact (mW_4 (M := M) h)
  · rw [b, gup_ne (by omega)]; exact (mW_5 (M := M) h)
  · rw [b, gup_ne (by omega)]; exact (mW_6 (M := M) h)
  · rw [b, gup_ne (by omega)]; exact (mW_7 (M := M) h)
  · rw [b, gup_ne (by omega)]; exact (mW_8 (M := M) h)
  · rw [b, gup_ne (by omega)]; exact (mW_9 (M := M) h)
  · rw [b, gup_ne (by omega)]; exact (mW_10 (M := M) h)
  · rw [b, gup_ne (by omega)]; exact (mW_11 (M := M) h)
  · rw [b, gup_ne (by omega)]; exact (mW_12 (M := M) h)
  · rw [b, gup_ne (by omega)]; exact (mW_13 (M := M) h)
  · rw [b, gup_ne (by omega)]; exact (mW_14 (M := M) h)
  · rw [b, gup_ne (by omega)]; exact (mW_15 (M := M) h)
  · rw [b, gup_ne (by omega)]; exact (mW_16 (M := M) h)
  · rw [b, gup_ne (by omega)]; exact (mW_17 (M := M) h)
  · rw [b, gup_ne (by omega)]; exact (mW_18 (M := M) h)
  · rw [b, gup_ne (by omega)]; exact (mW_19 (M := M) h)
  · rw [b, gup_ne (by omega)]; exact (mW_20 (M := M) h)
  · rw [b, gup_ne (by omega)]; exact (mW_21 (M := M) h)
  · rw [b, gup_ne (by omega)]; exact (mW_22 (M := M) h)
  · rw [b, gup_ne (by omega)]; exact (mW_23 (M := M) h)
  · rw [b, gup_ne (by omega)]; exact (mW_24 (M := M) h)
  · rw [b, gup_ne (by omega)]; exact (mW_25 (M := M) h)
theorem t_M_balance (l : Launch) (X : gX) (ad : Nat → Nat) (u : gW) (sz m : Nat) (M : mM) (nC nB : Nat) (c x : Int32) (h : mW X ad m M u) (hR : R0 M nC nB) : gMet l (EE X) y_M_balance c_M_balance 6 (some .long) ({ frames := 2, cells := 0, slots := 0, locals := 43 }) [.ref (ad m), .int c, .int x] ad u sz (postM X ad m (sI M 0 0) (.long (a_balance M c x)) u) := by
  refine gMet_mono (k_M_balance l X ad u sz m (M.1 0) (M.1 1) (M.1 2) (M.1 3) (M.1 4) (M.1 5) (M.1 6) (M.1 7) (M.2.1 1) (M.2.1 9) (M.2.1 11) (M.2.2 15) (M.2.2 13) (M.2.2 12) c x (mW_0 h) (mW_1 h) (mW_9 h) (mW_11 h) (mW_15 h) (mW_13 h) (mW_12 h) (R0_cl hR) (R0_mem hR) (nbM M) (R0_nb hR) (R0_64 hR)) fun v u' s ⟨a, b, e0⟩ => ?_
  refine ⟨by exact a, ⟨?_, ?_, ?_, ?_, ?_, ?_, ?_, ?_, ?_, ?_, ?_, ?_, ?_, ?_, ?_, ?_, ?_, ?_, ?_, ?_, ?_, ?_, ?_, ?_, ?_, ?_⟩, fun n hn => by rw [b, gup_ne (by omega)]⟩
  · rw [b, gup_self]; rfl
  · rw [b, gup_ne (by omega)]; exact (mW_1 (M := M) h)
  · rw [b, gup_ne (by omega)]; exact (mW_2 (M := M) h)
  · rw [b, gup_ne (by omega)]; exact (mW_3 (M := M) h)
  · rw [b, gup_ne (by omega)]; exact (mW_4 (M := M) h)
  · rw [b, gup_ne (by omega)]; exact (mW_5 (M := M) h)
  · rw [b, gup_ne (by omega)]; exact (mW_6 (M := M) h)
  · rw [b, gup_ne (by omega)]; exact (mW_7 (M := M) h)
  · rw [b, gup_ne (by omega)]; exact (mW_8 (M := M) h)
  · rw [b, gup_ne (by omega)]; exact (mW_9 (M := M) h)
  · rw [b, gup_ne (by omega)]; exact (mW_10 (M := M) h)
  · rw [b, gup_ne (by omega)]; exact (mW_11 (M := M) h)
  · rw [b, gup_ne (by omega)]; exact (mW_12 (M := M) h)
  · rw [b, gup_ne (by omega)]; exact (mW_13 (M := M) h)
  · rw [b, gup_ne (by omega)]; exact (mW_14 (M := M) h)
  · rw [b, gup_ne (by omega)]; exact (mW_15 (M := M) h)
  · rw [b, gup_ne (by omega)]; exact (mW_16 (M := M) h)
  · rw [b, gup_ne (by omega)]; exact (mW_17 (M := M) h)
  · rw [b, gup_ne (by omega)]; exact (mW_18 (M := M) h)
  · rw [b, gup_ne (by omega)]; exact (mW_19 (M := M) h)
  · rw [b, gup_ne (by omega)]; exact (mW_20 (M := M) h)
  · rw [b, gup_ne (by omega)]; exact (mW_21 (M := M) h)
  · rw [b, gup_ne (by omega)]; exact (mW_22 (M := M) h)
  · rw [b, gup_ne (by omega)]; exact (mW_23 (M := M) h)
  · rw [b, gup_ne (by omega)]; exact (mW_24 (M := M) h)
  · rw [b, gup_ne (by omega)]; exact (mW_25 (M := M) h)
theorem t_M_drift (l : Launch) (X : gX) (ad : Nat → Nat) (u : gW) (sz m : Nat) (M : mM) (nC nB : Nat) (c x : Int32) (h : mW X ad m M u) (hR : R0 M nC nB) : gMet l (EE X) y_M_drift c_M_drift 6 (some .long) ({ frames := 2, cells := 0, slots := 0, locals := 43 }) [.ref (ad m), .int c, .int x] ad u sz (postM X ad m (sI M 0 0) (.long (a_drift M c x)) u) := by
  refine gMet_mono (k_M_drift l X ad u sz m (M.1 0) (M.1 1) (M.1 2) (M.1 3) (M.1 4) (M.1 5) (M.1 6) (M.1 7) (M.2.1 1) (M.2.1 9) (M.2.1 11) (M.2.2 14) c x (mW_0 h) (mW_1 h) (mW_9 h) (mW_11 h) (mW_14 h) (R0_cl hR) (R0_mem hR) (nbM M) (R0_nb hR) (R0_64 hR)) fun v u' s ⟨a, b, e0⟩ => ?_
  refine ⟨by exact a, ⟨?_, ?_, ?_, ?_, ?_, ?_, ?_, ?_, ?_, ?_, ?_, ?_, ?_, ?_, ?_, ?_, ?_, ?_, ?_, ?_, ?_, ?_, ?_, ?_, ?_, ?_⟩, fun n hn => by rw [b, gup_ne (by omega)]⟩
  · rw [b, gup_self]; rfl
  · rw [b, gup_ne (by omega)]; exact (mW_1 (M := M) h)
  · rw [b, gup_ne (by omega)]; exact (mW_2 (M := M) h)
  · rw [b, gup_ne (by omega)]; exact (mW_3 (M := M) h)
  · rw [b, gup_ne (by omega)]; exact (mW_4 (M := M) h)
  · rw [b, gup_ne (by omega)]; exact (mW_5 (M := M) h)
  · rw [b, gup_ne (by omega)]; exact (mW_6 (M := M) h)
  · rw [b, gup_ne (by omega)]; exact (mW_7 (M := M) h)
  · rw [b, gup_ne (by omega)]; exact (mW_8 (M := M) h)
  · rw [b, gup_ne (by omega)]; exact (mW_9 (M := M) h)
  · rw [b, gup_ne (by omega)]; exact (mW_10 (M := M) h)
  · rw [b, gup_ne (by omega)]; exact (mW_11 (M := M) h)
  · rw [b, gup_ne (by omega)]; exact (mW_12 (M := M) h)
  · rw [b, gup_ne (by omega)]; exact (mW_13 (M := M) h)
  · rw [b, gup_ne (by omega)]; exact (mW_14 (M := M) h)
  · rw [b, gup_ne (by omega)]; exact (mW_15 (M := M) h)
  · rw [b, gup_ne (by omega)]; exact (mW_16 (M := M) h)
  · rw [b, gup_ne (by omega)]; exact (mW_17 (M := M) h)
  · rw [b, gup_ne (by omega)]; exact (mW_18 (M := M) h)
  · rw [b, gup_ne (by omega)]; exact (mW_19 (M := M) h)
  · rw [b, gup_ne (by omega)]; exact (mW_20 (M := M) h)
  · rw [b, gup_ne (by omega)]; exact (mW_21 (M := M) h)
  · rw [b, gup_ne (by omega)]; exact (mW_22 (M := M) h)
  · rw [b, gup_ne (by omega)]; exact (mW_23 (M := M) h)
  · rw [b, gup_ne (by omega)]; exact (mW_24 (M := M) h)
  · rw [b, gup_ne (by omega)]; exact (mW_25 (M := M) h)
theorem t_M_count (l : Launch) (X : gX) (ad : Nat → Nat) (u : gW) (sz m : Nat) (M : mM) (nC nB : Nat) (c w : Int32) (h : mW X ad m M u) (hR : R0 M nC nB) : gMet l (EE X) y_M_count c_M_count 3 (some .int) ({ frames := 1, cells := 0, slots := 0, locals := 23 }) [.ref (ad m), .int c, .int w] ad u sz (postM X ad m (sI M 0 0) (.int (a_count M c w)) u) := by
  refine gMet_mono (k_M_count l X ad u sz m (M.1 0) (M.1 1) (M.1 2) (M.1 3) (M.1 4) (M.1 5) (M.1 6) (M.1 7) (M.2.1 1) (M.2.1 2) (M.2.1 16) (M.2.1 17) (M.2.1 19) (M.2.1 23) c w (mW_0 h) (mW_1 h) (mW_2 h) (mW_16 h) (mW_17 h) (mW_19 h) (mW_23 h) (R0_cl hR) (R0_man hR)) fun v u' s ⟨a, b, e0⟩ => ?_
  refine ⟨by exact a, ⟨?_, ?_, ?_, ?_, ?_, ?_, ?_, ?_, ?_, ?_, ?_, ?_, ?_, ?_, ?_, ?_, ?_, ?_, ?_, ?_, ?_, ?_, ?_, ?_, ?_, ?_⟩, fun n hn => by rw [b, gup_ne (by omega)]⟩
  · rw [b, gup_self]; rfl
  · rw [b, gup_ne (by omega)]; exact (mW_1 (M := M) h)
  · rw [b, gup_ne (by omega)]; exact (mW_2 (M := M) h)
  · rw [b, gup_ne (by omega)]; exact (mW_3 (M := M) h)
  · rw [b, gup_ne (by omega)]; exact (mW_4 (M := M) h)
  · rw [b, gup_ne (by omega)]; exact (mW_5 (M := M) h)
  · rw [b, gup_ne (by omega)]; exact (mW_6 (M := M) h)
  · rw [b, gup_ne (by omega)]; exact (mW_7 (M := M) h)
  · rw [b, gup_ne (by omega)]; exact (mW_8 (M := M) h)
  · rw [b, gup_ne (by omega)]; exact (mW_9 (M := M) h)
  · rw [b, gup_ne (by omega)]; exact (mW_10 (M := M) h)
  · rw [b, gup_ne (by omega)]; exact (mW_11 (M := M) h)
  · rw [b, gup_ne (by omega)]; exact (mW_12 (M := M) h)
  · rw [b, gup_ne (by omega)]; exact (mW_13 (M := M) h)
  · rw [b, gup_ne (by omega)]; exact (mW_14 (M := M) h)
  · rw [b, gup_ne (by omega)]; exact (mW_15 (M := M) h)
  · rw [b, gup_ne (by omega)]; exact (mW_16 (M := M) h)
  · rw [b, gup_ne (by omega)]; exact (mW_17 (M := M) h)
  · rw [b, gup_ne (by omega)]; exact (mW_18 (M := M) h)
  · rw [b, gup_ne (by omega)]; exact (mW_19 (M := M) h)
  · rw [b, gup_ne (by omega)]; exact (mW_20 (M := M) h)
  · rw [b, gup_ne (by omega)]; exact (mW_21 (M := M) h)
  · rw [b, gup_ne (by omega)]; exact (mW_22 (M := M) h)
  · rw [b, gup_ne (by omega)]; exact (mW_23 (M := M) h)
  · rw [b, gup_ne (by omega)]; exact (mW_24 (M := M) h)
  · rw [b, gup_ne (by omega)]; exact (mW_25 (M := M) h)
theorem t_M_groupOf (l : Launch) (X : gX) (ad : Nat → Nat) (u : gW) (sz m : Nat) (M : mM) (nC nB : Nat) (c x : Int32) (h : mW X ad m M u) (hR : R0 M nC nB) : gMet l (EE X) y_M_groupOf c_M_groupOf 3 (some .int) ({ frames := 2, cells := 0, slots := 0, locals := 43 }) [.ref (ad m), .int c, .int x] ad u sz (postM X ad m (sI M 0 0) (.int (a_groupOf M c x)) u) := by
  refine gMet_mono (k_M_groupOf l X ad u sz m (M.1 0) (M.1 1) (M.1 2) (M.1 3) (M.1 4) (M.1 5) (M.1 6) (M.1 7) (M.2.1 1) (M.2.1 16) (M.2.1 18) c x (mW_0 h) (mW_1 h) (mW_16 h) (mW_18 h) (R0_cl hR) (R0_mem hR)) fun v u' s ⟨a, b, e0⟩ => ?_
  refine ⟨by exact a, ⟨?_, ?_, ?_, ?_, ?_, ?_, ?_, ?_, ?_, ?_, ?_, ?_, ?_, ?_, ?_, ?_, ?_, ?_, ?_, ?_, ?_, ?_, ?_, ?_, ?_, ?_⟩, fun n hn => by rw [b, gup_ne (by omega)]⟩
  · rw [b, gup_self]; rfl
  · rw [b, gup_ne (by omega)]; exact (mW_1 (M := M) h)
  · rw [b, gup_ne (by omega)]; exact (mW_2 (M := M) h)
  · rw [b, gup_ne (by omega)]; exact (mW_3 (M := M) h)
  · rw [b, gup_ne (by omega)]; exact (mW_4 (M := M) h)
  · rw [b, gup_ne (by omega)]; exact (mW_5 (M := M) h)
  · rw [b, gup_ne (by omega)]; exact (mW_6 (M := M) h)
  · rw [b, gup_ne (by omega)]; exact (mW_7 (M := M) h)
  · rw [b, gup_ne (by omega)]; exact (mW_8 (M := M) h)
  · rw [b, gup_ne (by omega)]; exact (mW_9 (M := M) h)
  · rw [b, gup_ne (by omega)]; exact (mW_10 (M := M) h)
  · rw [b, gup_ne (by omega)]; exact (mW_11 (M := M) h)
  · rw [b, gup_ne (by omega)]; exact (mW_12 (M := M) h)
  · rw [b, gup_ne (by omega)]; exact (mW_13 (M := M) h)
  · rw [b, gup_ne (by omega)]; exact (mW_14 (M := M) h)
  · rw [b, gup_ne (by omega)]; exact (mW_15 (M := M) h)
  · rw [b, gup_ne (by omega)]; exact (mW_16 (M := M) h)
  · rw [b, gup_ne (by omega)]; exact (mW_17 (M := M) h)
  · rw [b, gup_ne (by omega)]; exact (mW_18 (M := M) h)
  · rw [b, gup_ne (by omega)]; exact (mW_19 (M := M) h)
  · rw [b, gup_ne (by omega)]; exact (mW_20 (M := M) h)
  · rw [b, gup_ne (by omega)]; exact (mW_21 (M := M) h)
  · rw [b, gup_ne (by omega)]; exact (mW_22 (M := M) h)
  · rw [b, gup_ne (by omega)]; exact (mW_23 (M := M) h)
  · rw [b, gup_ne (by omega)]; exact (mW_24 (M := M) h)
  · rw [b, gup_ne (by omega)]; exact (mW_25 (M := M) h)
def th_tr (M : mM) (c i w : Int32) : Int32 := thrM (M.1 1) (M.2.1 16) (M.2.1 19) c i w
def a_tr (M : mM) (c i w : Int32) : Int64 := traM (M.1 1) (M.2.1 16) (M.2.1 19) (M.2.1 20) (M.2.1 21) (M.2.2 22) (M.2.1 23) c i w
theorem t_M_transfer (l : Launch) (X : gX) (ad : Nat → Nat) (u : gW) (sz m : Nat) (M : mM) (nC nB : Nat) (c i w : Int32) (h : mW X ad m M u) (hR : R0 M nC nB) : gMet l (EE X) y_M_transfer c_M_transfer 5 (some .long) ({ frames := 2, cells := 0, slots := 0, locals := 43 }) [.ref (ad m), .int c, .int i, .int w] ad u sz (postM X ad m (sI M 0 (th_tr M c i w)) (.long (a_tr M c i w)) u) := by
  refine gMet_mono (k_M_transfer l X ad u sz m (M.1 0) (M.1 1) (M.1 2) (M.1 3) (M.1 4) (M.1 5) (M.1 6) (M.1 7) (M.2.1 16) (M.2.1 19) (M.2.1 20) (M.2.1 21) (M.2.1 23) (M.2.2 22) c i w (mW_0 h) (mW_16 h) (mW_19 h) (mW_20 h) (mW_21 h) (mW_23 h) (mW_22 h) (R0_cl hR) (R0_man hR)) fun v u' s ⟨a, b, e0⟩ => ?_
  refine ⟨by exact a, ⟨?_, ?_, ?_, ?_, ?_, ?_, ?_, ?_, ?_, ?_, ?_, ?_, ?_, ?_, ?_, ?_, ?_, ?_, ?_, ?_, ?_, ?_, ?_, ?_, ?_, ?_⟩, fun n hn => by rw [b, gup_ne (by omega)]⟩
  · rw [b, gup_self]; rfl
  · rw [b, gup_ne (by omega)]; exact (mW_1 (M := M) h)
  · rw [b, gup_ne (by omega)]; exact (mW_2 (M := M) h)
  · rw [b, gup_ne (by omega)]; exact (mW_3 (M := M) h)
  · rw [b, gup_ne (by omega)]; exact (mW_4 (M := M) h)
  · rw [b, gup_ne (by omega)]; exact (mW_5 (M := M) h)
  · rw [b, gup_ne (by omega)]; exact (mW_6 (M := M) h)
  · rw [b, gup_ne (by omega)]; exact (mW_7 (M := M) h)
  · rw [b, gup_ne (by omega)]; exact (mW_8 (M := M) h)
  · rw [b, gup_ne (by omega)]; exact (mW_9 (M := M) h)
  · rw [b, gup_ne (by omega)]; exact (mW_10 (M := M) h)
  · rw [b, gup_ne (by omega)]; exact (mW_11 (M := M) h)
  · rw [b, gup_ne (by omega)]; exact (mW_12 (M := M) h)
  · rw [b, gup_ne (by omega)]; exact (mW_13 (M := M) h)
  · rw [b, gup_ne (by omega)]; exact (mW_14 (M := M) h)
  · rw [b, gup_ne (by omega)]; exact (mW_15 (M := M) h)
  · rw [b, gup_ne (by omega)]; exact (mW_16 (M := M) h)
  · rw [b, gup_ne (by omega)]; exact (mW_17 (M := M) h)
  · rw [b, gup_ne (by omega)]; exact (mW_18 (M := M) h)
  · rw [b, gup_ne (by omega)]; exact (mW_19 (M := M) h)
  · rw [b, gup_ne (by omega)]; exact (mW_20 (M := M) h)
  · rw [b, gup_ne (by omega)]; exact (mW_21 (M := M) h)
  · rw [b, gup_ne (by omega)]; exact (mW_22 (M := M) h)
  · rw [b, gup_ne (by omega)]; exact (mW_23 (M := M) h)
  · rw [b, gup_ne (by omega)]; exact (mW_24 (M := M) h)
  · rw [b, gup_ne (by omega)]; exact (mW_25 (M := M) h)
theorem t_M_thrown (l : Launch) (X : gX) (ad : Nat → Nat) (u : gW) (sz m : Nat) (M : mM) (h : mW X ad m M u) : gMet l (EE X) y_M_thrown c_M_thrown 1 (some .int) ({ frames := 0, cells := 0, slots := 0, locals := 0 }) [.ref (ad m)] ad u sz (postM X ad m M (.int (M.1 0)) u) :=
  gMet_mono (k_M_thrown l X ad u sz m (M.1 0) (M.1 1) (M.1 2) (M.1 3) (M.1 4) (M.1 5) (M.1 6) (M.1 7)   (mW_0 h)  ) fun v u' s ⟨a, b, e0⟩ => ⟨a, by rw [b]; exact h, fun n _ => by rw [b]⟩
theorem t_M_settle (l : Launch) (X : gX) (ad : Nat → Nat) (u : gW) (sz m : Nat) (M : mM) (nC nB : Nat) (c : Int32) (h : mW X ad m M u) (hR : R0 M nC nB) : gMet l (EE X) y_M_settle c_M_settle 4 (some .int) ({ frames := 4, cells := 0, slots := 0, locals := 95 }) [.ref (ad m), .int c] ad u sz (postM X ad m (M_settle M c) (.int (a_settle M c)) u) := by
  by_cases hq : q_settle M c = true
  · have hq2 := hq
    rw [q_settle, Bool.and_eq_true, decide_eq_true_iff] at hq2
    refine gMet_mono (k_M_settle_ok l X ad u sz m (M.1 0) (M.1 1) (M.1 2) (M.1 3) (M.1 4) (M.1 5) (M.1 6) (M.1 7) (M.2.1 1) (M.2.1 9) (M.2.1 11) (M.2.1 17) (M.2.1 18) (M.2.1 19) (M.2.1 20) (M.2.1 21) (M.2.1 23) (M.2.1 16) (M.2.1 25) (M.2.2 15) (M.2.2 13) (M.2.2 12) (M.2.2 22) (M.2.2 24) c (mW_0 h) (mW_1 h) (mW_9 h) (mW_11 h) (mW_17 h) (mW_18 h) (mW_19 h) (mW_20 h) (mW_21 h) (mW_23 h) (mW_16 h) (mW_25 h) (mW_15 h) (mW_13 h) (mW_12 h) (mW_22 h) (mW_24 h) (R0_cl hR) (R0_mem hR) (nbM M) (R0_nb hR) (R0_64 hR) hq2.1 hq2.2) fun v u' s ⟨a, b, e0⟩ => ?_
    rw [M_settle, a_settle, if_pos hq, if_pos hq, M_settle1]
    have eS : seM M c = seS (bfM M c) (wgM M c) (msM M c) c.toNatClampNeg (maskB (bfM M c) 12) (y0M M c) 12 := by unfold seM; with_reducible rfl
    unfold wgM msM y0M at eS
    unfold wgM at eS
    unfold bfM at eS
    rw [← eS] at a b
    have eW : wgM M c = weiR (bfM M c) (M.2.2 24) 4095 := by unfold wgM; with_reducible rfl
    have eM : msM M c = dvS (wgM M c) (M.2.1 25) 4095 := by unfold msM; with_reducible rfl
    rw [eW] at eM
    unfold bfM at eW eM
    rw [← eM, ← eW] at b
    clear eS eW eM
    generalize seM M c = S at *
    generalize wgM M c = w at *
    generalize msM M c = ms at *
    refine ⟨a, ⟨?_, ?_, ?_, ?_, ?_, ?_, ?_, ?_, ?_, ?_, ?_, ?_, ?_, ?_, ?_, ?_, ?_, ?_, ?_, ?_, ?_, ?_, ?_, ?_, ?_, ?_⟩, fun n hn => by rw [b, gup_ne (by omega), gup_ne (by omega), gup_ne (by omega), gup_ne (by omega), gup_ne (by omega), gup_ne (by omega), gup_ne (by omega), gup_ne (by omega), gup_ne (by omega), gup_ne (by omega), gup_ne (by omega)]⟩
    · rw [b, gup_ne (by omega), gup_ne (by omega), gup_ne (by omega), gup_ne (by omega), gup_ne (by omega), gup_ne (by omega), gup_ne (by omega), gup_ne (by omega), gup_ne (by omega), gup_ne (by omega), gup_self]; rfl
    · rw [b, gup_ne (by omega), gup_ne (by omega), gup_ne (by omega), gup_ne (by omega), gup_ne (by omega), gup_ne (by omega), gup_ne (by omega), gup_ne (by omega), gup_ne (by omega), gup_ne (by omega), gup_ne (by omega)]; exact (mW_1 (M := M) h)
    · rw [b, gup_ne (by omega), gup_ne (by omega), gup_ne (by omega), gup_ne (by omega), gup_ne (by omega), gup_ne (by omega), gup_ne (by omega), gup_ne (by omega), gup_ne (by omega), gup_ne (by omega), gup_ne (by omega)]; exact (mW_2 (M := M) h)
    · rw [b, gup_ne (by omega), gup_ne (by omega), gup_ne (by omega), gup_ne (by omega), gup_ne (by omega), gup_ne (by omega), gup_ne (by omega), gup_ne (by omega), gup_ne (by omega), gup_ne (by omega), gup_ne (by omega)]; exact (mW_3 (M := M) h)
    · rw [b, gup_ne (by omega), gup_ne (by omega), gup_ne (by omega), gup_ne (by omega), gup_ne (by omega), gup_ne (by omega), gup_ne (by omega), gup_ne (by omega), gup_ne (by omega), gup_ne (by omega), gup_ne (by omega)]; exact (mW_4 (M := M) h)
    · rw [b, gup_ne (by omega), gup_ne (by omega), gup_ne (by omega), gup_ne (by omega), gup_ne (by omega), gup_ne (by omega), gup_ne (by omega), gup_ne (by omega), gup_ne (by omega), gup_ne (by omega), gup_ne (by omega)]; exact (mW_5 (M := M) h)
    · rw [b, gup_ne (by omega), gup_ne (by omega), gup_ne (by omega), gup_ne (by omega), gup_ne (by omega), gup_ne (by omega), gup_ne (by omega), gup_ne (by omega), gup_ne (by omega), gup_ne (by omega), gup_ne (by omega)]; exact (mW_6 (M := M) h)
    · rw [b, gup_ne (by omega), gup_ne (by omega), gup_ne (by omega), gup_ne (by omega), gup_ne (by omega), gup_ne (by omega), gup_ne (by omega), gup_ne (by omega), gup_ne (by omega), gup_ne (by omega), gup_ne (by omega)]; exact (mW_7 (M := M) h)
    · rw [b, gup_ne (by omega), gup_ne (by omega), gup_ne (by omega), gup_ne (by omega), gup_ne (by omega), gup_ne (by omega), gup_ne (by omega), gup_ne (by omega), gup_ne (by omega), gup_ne (by omega), gup_ne (by omega)]; exact (mW_8 (M := M) h)
    · rw [b, gup_ne (by omega), gup_ne (by omega), gup_ne (by omega), gup_ne (by omega), gup_ne (by omega), gup_ne (by omega), gup_ne (by omega), gup_ne (by omega), gup_ne (by omega), gup_ne (by omega), gup_ne (by omega)]; exact (mW_9 (M := M) h)
    · rw [b, gup_ne (by omega), gup_ne (by omega), gup_ne (by omega), gup_ne (by omega), gup_ne (by omega), gup_ne (by omega), gup_ne (by omega), gup_ne (by omega), gup_ne (by omega), gup_ne (by omega), gup_ne (by omega)]; exact (mW_10 (M := M) h)
    · rw [b, gup_ne (by omega), gup_ne (by omega), gup_ne (by omega), gup_ne (by omega), gup_ne (by omega), gup_ne (by omega), gup_ne (by omega), gup_ne (by omega), gup_ne (by omega), gup_ne (by omega), gup_ne (by omega)]; exact (mW_11 (M := M) h)
    · rw [b, gup_ne (by omega), gup_ne (by omega), gup_ne (by omega), gup_ne (by omega), gup_ne (by omega), gup_ne (by omega), gup_ne (by omega), gup_ne (by omega), gup_ne (by omega), gup_ne (by omega), gup_ne (by omega)]; exact (mW_12 (M := M) h)
    · rw [b, gup_ne (by omega), gup_ne (by omega), gup_ne (by omega), gup_ne (by omega), gup_ne (by omega), gup_ne (by omega), gup_ne (by omega), gup_ne (by omega), gup_ne (by omega), gup_ne (by omega), gup_ne (by omega)]; exact (mW_13 (M := M) h)
    · rw [b, gup_ne (by omega), gup_ne (by omega), gup_ne (by omega), gup_ne (by omega), gup_ne (by omega), gup_ne (by omega), gup_ne (by omega), gup_ne (by omega), gup_ne (by omega), gup_ne (by omega), gup_ne (by omega)]; exact (mW_14 (M := M) h)
    · rw [b, gup_ne (by omega), gup_ne (by omega), gup_ne (by omega), gup_ne (by omega), gup_ne (by omega), gup_ne (by omega), gup_ne (by omega), gup_ne (by omega), gup_ne (by omega), gup_ne (by omega), gup_ne (by omega)]; exact (mW_15 (M := M) h)
    · rw [b, gup_ne (by omega), gup_ne (by omega), gup_ne (by omega), gup_ne (by omega), gup_ne (by omega), gup_ne (by omega), gup_ne (by omega), gup_ne (by omega), gup_ne (by omega), gup_self]; rfl
    · rw [b, gup_self]; rfl
    · rw [b, gup_ne (by omega), gup_ne (by omega), gup_ne (by omega), gup_ne (by omega), gup_ne (by omega), gup_ne (by omega), gup_self]; rfl
    · rw [b, gup_ne (by omega), gup_self]; rfl
    · rw [b, gup_ne (by omega), gup_ne (by omega), gup_ne (by omega), gup_ne (by omega), gup_ne (by omega), gup_self]; rfl
    · rw [b, gup_ne (by omega), gup_ne (by omega), gup_ne (by omega), gup_ne (by omega), gup_self]; rfl
    · rw [b, gup_ne (by omega), gup_ne (by omega), gup_ne (by omega), gup_self]; rfl
    · rw [b, gup_ne (by omega), gup_ne (by omega), gup_self]; rfl
    · rw [b, gup_ne (by omega), gup_ne (by omega), gup_ne (by omega), gup_ne (by omega), gup_ne (by omega), gup_ne (by omega), gup_ne (by omega), gup_ne (by omega), gup_self]; rfl
    · rw [b, gup_ne (by omega), gup_ne (by omega), gup_ne (by omega), gup_ne (by omega), gup_ne (by omega), gup_ne (by omega), gup_ne (by omega), gup_self]; rfl
  · rw [M_settle, a_settle, if_neg hq, if_neg hq]
    refine gMet_mono (k_M_settle_no l X ad u sz m (M.1 0) (M.1 1) (M.1 2) (M.1 3) (M.1 4) (M.1 5) (M.1 6) (M.1 7) (M.2.1 16) c (mW_0 h) (mW_16 h) (R0_cl hR) ((Bool.not_eq_true _).mp hq)) fun v u' s ⟨a, b, e0⟩ => ?_
    refine ⟨a, ⟨?_, ?_, ?_, ?_, ?_, ?_, ?_, ?_, ?_, ?_, ?_, ?_, ?_, ?_, ?_, ?_, ?_, ?_, ?_, ?_, ?_, ?_, ?_, ?_, ?_, ?_⟩, fun n hn => by rw [b, gup_ne (by omega)]⟩
    · rw [b, gup_self]; rfl
    · rw [b, gup_ne (by omega)]; exact (mW_1 (M := M) h)
    · rw [b, gup_ne (by omega)]; exact (mW_2 (M := M) h)
    · rw [b, gup_ne (by omega)]; exact (mW_3 (M := M) h)
    · rw [b, gup_ne (by omega)]; exact (mW_4 (M := M) h)
    · rw [b, gup_ne (by omega)]; exact (mW_5 (M := M) h)
    · rw [b, gup_ne (by omega)]; exact (mW_6 (M := M) h)
    · rw [b, gup_ne (by omega)]; exact (mW_7 (M := M) h)
    · rw [b, gup_ne (by omega)]; exact (mW_8 (M := M) h)
    · rw [b, gup_ne (by omega)]; exact (mW_9 (M := M) h)
    · rw [b, gup_ne (by omega)]; exact (mW_10 (M := M) h)
    · rw [b, gup_ne (by omega)]; exact (mW_11 (M := M) h)
    · rw [b, gup_ne (by omega)]; exact (mW_12 (M := M) h)
    · rw [b, gup_ne (by omega)]; exact (mW_13 (M := M) h)
    · rw [b, gup_ne (by omega)]; exact (mW_14 (M := M) h)
    · rw [b, gup_ne (by omega)]; exact (mW_15 (M := M) h)
    · rw [b, gup_ne (by omega)]; exact (mW_16 (M := M) h)
    · rw [b, gup_ne (by omega)]; exact (mW_17 (M := M) h)
    · rw [b, gup_ne (by omega)]; exact (mW_18 (M := M) h)
    · rw [b, gup_ne (by omega)]; exact (mW_19 (M := M) h)
    · rw [b, gup_ne (by omega)]; exact (mW_20 (M := M) h)
    · rw [b, gup_ne (by omega)]; exact (mW_21 (M := M) h)
    · rw [b, gup_ne (by omega)]; exact (mW_22 (M := M) h)
    · rw [b, gup_ne (by omega)]; exact (mW_23 (M := M) h)
    · rw [b, gup_ne (by omega)]; exact (mW_24 (M := M) h)
    · rw [b, gup_ne (by omega)]; exact (mW_25 (M := M) h)