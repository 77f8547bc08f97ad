theorem isMb_nat {c : Int32} {n : Nat} (hn : n ≤ 4096) (h : isMb c (nI n) = true) : ∃ k, k < n ∧ c = nI k := by
  simp only [isMb, Bool.and_eq_true, Bool.not_eq_true', decide_eq_false_iff_not] at h
  obtain ⟨j, hj, rfl⟩ := nI_of h.1
  refine ⟨j, ?_, rfl⟩
  rcases Nat.lt_or_ge j n with q | q
  · exact q
  · exact absurd ((nI_leI (by omega) hj).mpr q) h.2
theorem isMb_nI {k n : Nat} (hn : n ≤ 4096) (hk : k < n) : isMb (nI k) (nI n) = true := by
  simp only [isMb, Bool.and_eq_true, Bool.not_eq_true', decide_eq_false_iff_not]
  refine ⟨nI_pos (by omega), fun q => ?_⟩
  rw [nI_leI (by omega) (by omega)] at q; omega
/-- the clubs' array, the bills' array of the object at x -/
def cArr (ad : Nat → Nat) (x nC : Nat) : Nat → Option Nat := fun k => if k < nC then some (ad (x + 16 * k + 32)) else none
def bArr (ad : Nat → Nat) (x nB : Nat) : Nat → Option Nat := fun j => if j < nB then some (ad (x + 4 * j + 128)) else none
set_option maxHeartbeats 4000000 in
set_option maxRecDepth 100000 in
theorem k_X_clubAt_ok (l : Launch) (X : gX) (ad : Nat → Nat) (u : gW) (sz : Nat) (x nC nB k : Nat) (hx : u x = some (.inr (5, [.ref (ad (x + 1)), .ref (ad (x + 2)), .ref (ad (x + 3)), .ref (ad (x + 6)), .int (nI nC), .int (nI nB)]))) (hx1 : u (x + 1) = some (.inl ((X.2 3), 4, .inr (.inr (.inr (.inr (cArr ad x nC))))))) (hk : k < nC) (hn : nC ≤ 4) : gMet l (EE X) y_X_clubAt c_X_clubAt 2 (some (.object "ExpenseClubs$Club")) ({ frames := 0, cells := 0, slots := 0, locals := 0 }) [.ref (ad x), .int (nI k)] ad u sz (fun v u' sz' => v = some (.ref (ad (x + 16 * k + 32))) ∧ u' = u ∧ sz' = sz) := by
  refine gMet_of "ExpenseClubs" rfl (by decide) (Nat.le_of_ble_eq_true rfl) (lv := [(0, .ref (ad x)), (1, .int (nI k))]) rfl (fun Z hZl C hR hret hname => ?_)
  refine g_iload_n C d_X_clubAt_0 rfl 1 rfl ?_
  refine g_if_lt 12 C d_X_clubAt_1 (by decide) (fun c1 => ?_) (fun c1 => ?_)
  · exact absurd c1 (nI_pos (by omega))
  refine g_iload_n C d_X_clubAt_4 rfl 1 rfl ?_
  refine g_aload_n C d_X_clubAt_5 rfl 0 rfl ?_
  refine g_get x 4 C hx rfl i_X (by decide) (gmem wd_85 rfl) rfl rfl d_X_clubAt_6 ?_
  refine g_icmp_lt 16 C d_X_clubAt_9 (by decide) (fun c9 => ?_) (fun c9 => ?_)
  rotate_left
  · exact absurd ((nI_ltI (by omega) (by omega)).mpr hk) c9
  refine g_aload_n C d_X_clubAt_16 rfl 0 rfl ?_
  refine g_get x 0 C hx rfl i_X (by decide) (gmem wd_81 rfl) rfl rfl d_X_clubAt_17 ?_
  refine g_iload_n C d_X_clubAt_20 rfl 1 rfl ?_
  refine g_aald (x + 1) 3 C hx1 rfl (vp_in_nI (by omega) (by decide)) (some (ad (x + 16 * k + 32))) (by rw [nI_clamp (by omega)]; exact if_pos hk) d_X_clubAt_21 ?_
  exact g_aret C hR hret (Or.inl ⟨_, rfl⟩) (Or.inr ⟨_, rfl⟩) ⟨rfl, rfl, rfl⟩ d_X_clubAt_22

set_option maxHeartbeats 4000000 in
set_option maxRecDepth 100000 in
theorem k_X_clubAt_no (l : Launch) (X : gX) (ad : Nat → Nat) (u : gW) (sz : Nat) (x nC nB : Nat) (c : Int32) (hx : u x = some (.inr (5, [.ref (ad (x + 1)), .ref (ad (x + 2)), .ref (ad (x + 3)), .ref (ad (x + 6)), .int (nI nC), .int (nI nB)]))) (hx1 : u (x + 1) = some (.inl ((X.2 3), 4, .inr (.inr (.inr (.inr (cArr ad x nC))))))) (h : isMb c (nI nC) = false) : gMet l (EE X) y_X_clubAt c_X_clubAt 2 (some (.object "ExpenseClubs$Club")) ({ frames := 0, cells := 0, slots := 0, locals := 0 }) [.ref (ad x), .int c] ad u sz (fun v u' sz' => v = some .null ∧ u' = u ∧ sz' = sz) := by
  refine gMet_of "ExpenseClubs" rfl (by decide) (Nat.le_of_ble_eq_true rfl) (lv := [(0, .ref (ad x)), (1, .int c)]) rfl (fun Z hZl C hR hret hname => ?_)
  refine g_iload_n C d_X_clubAt_0 rfl 1 rfl ?_
  refine g_if_lt 12 C d_X_clubAt_1 (by decide) (fun c1 => ?_) (fun c1 => ?_)
  · skip
    refine g_null C d_X_clubAt_12 ?_
    refine g_goto 22 C d_X_clubAt_13 (by decide) ?_
    exact g_aret C hR hret (Or.inl ⟨_, rfl⟩) (Or.inl rfl) ⟨rfl, rfl, rfl⟩ d_X_clubAt_22
  · skip
    refine g_iload_n C d_X_clubAt_4 rfl 1 rfl ?_
    refine g_aload_n C d_X_clubAt_5 rfl 0 rfl ?_
    refine g_get x 4 C hx rfl i_X (by decide) (gmem wd_85 rfl) rfl rfl d_X_clubAt_6 ?_
    refine g_icmp_lt 16 C d_X_clubAt_9 (by decide) (fun c9 => ?_) (fun c9 => ?_)
    · exact absurd c9 (fun q => absurd h (by simp only [isMb, decide_eq_false c1, decide_eq_false (Int32.not_le.mpr q), Bool.not_false, Bool.and_self, Bool.true_eq_false, not_false_eq_true]))
    refine g_null C d_X_clubAt_12 ?_
    refine g_goto 22 C d_X_clubAt_13 (by decide) ?_
    exact g_aret C hR hret (Or.inl ⟨_, rfl⟩) (Or.inl rfl) ⟨rfl, rfl, rfl⟩ d_X_clubAt_22

set_option maxHeartbeats 4000000 in
set_option maxRecDepth 100000 in
theorem k_X_billAt_ok (l : Launch) (X : gX) (ad : Nat → Nat) (u : gW) (sz : Nat) (x nC nB k : Nat) (hx : u x = some (.inr (5, [.ref (ad (x + 1)), .ref (ad (x + 2)), .ref (ad (x + 3)), .ref (ad (x + 6)), .int (nI nC), .int (nI nB)]))) (hx2 : u (x + 2) = some (.inl ((X.2 4), 64, .inr (.inr (.inr (.inr (bArr ad x nB))))))) (hk : k < nB) (hn : nB ≤ 64) : gMet l (EE X) y_X_billAt c_X_billAt 2 (some (.object "ExpenseClubs$Bill")) ({ frames := 0, cells := 0, slots := 0, locals := 0 }) [.ref (ad x), .int (nI k)] ad u sz (fun v u' sz' => v = some (.ref (ad (x + 4 * k + 128))) ∧ u' = u ∧ sz' = sz) := by
  refine gMet_of "ExpenseClubs" rfl (by decide) (Nat.le_of_ble_eq_true rfl) (lv := [(0, .ref (ad x)), (1, .int (nI k))]) rfl (fun Z hZl C hR hret hname => ?_)
  refine g_iload_n C d_X_billAt_0 rfl 1 rfl ?_
  refine g_if_lt 12 C d_X_billAt_1 (by decide) (fun c1 => ?_) (fun c1 => ?_)
  · exact absurd c1 (nI_pos (by omega))
  refine g_iload_n C d_X_billAt_4 rfl 1 rfl ?_
  refine g_aload_n C d_X_billAt_5 rfl 0 rfl ?_
  refine g_get x 5 C hx rfl i_X (by decide) (gmem wd_86 rfl) rfl rfl d_X_billAt_6 ?_
  refine g_icmp_lt 16 C d_X_billAt_9 (by decide) (fun c9 => ?_) (fun c9 => ?_)
  rotate_left
  · exact absurd ((nI_ltI (by omega) (by omega)).mpr hk) c9
  refine g_aload_n C d_X_billAt_16 rfl 0 rfl ?_
  refine g_get x 1 C hx rfl i_X (by decide) (gmem wd_82 rfl) rfl rfl d_X_billAt_17 ?_
  refine g_iload_n C d_X_billAt_20 rfl 1 rfl ?_
  refine g_aald (x + 2) 4 C hx2 rfl (vp_in_nI (by omega) (by decide)) (some (ad (x + 4 * k + 128))) (by rw [nI_clamp (by omega)]; exact if_pos hk) d_X_billAt_21 ?_
  exact g_aret C hR hret (Or.inl ⟨_, rfl⟩) (Or.inr ⟨_, rfl⟩) ⟨rfl, rfl, rfl⟩ d_X_billAt_22

set_option maxHeartbeats 4000000 in
set_option maxRecDepth 100000 in
theorem k_X_billAt_no (l : Launch) (X : gX) (ad : Nat → Nat) (u : gW) (sz : Nat) (x nC nB : Nat) (c : Int32) (hx : u x = some (.inr (5, [.ref (ad (x + 1)), .ref (ad (x + 2)), .ref (ad (x + 3)), .ref (ad (x + 6)), .int (nI nC), .int (nI nB)]))) (hx2 : u (x + 2) = some (.inl ((X.2 4), 64, .inr (.inr (.inr (.inr (bArr ad x nB))))))) (h : isMb c (nI nB) = false) : gMet l (EE X) y_X_billAt c_X_billAt 2 (some (.object "ExpenseClubs$Bill")) ({ frames := 0, cells := 0, slots := 0, locals := 0 }) [.ref (ad x), .int c] ad u sz (fun v u' sz' => v = some .null ∧ u' = u ∧ sz' = sz) := by
  refine gMet_of "ExpenseClubs" rfl (by decide) (Nat.le_of_ble_eq_true rfl) (lv := [(0, .ref (ad x)), (1, .int c)]) rfl (fun Z hZl C hR hret hname => ?_)
  refine g_iload_n C d_X_billAt_0 rfl 1 rfl ?_
  refine g_if_lt 12 C d_X_billAt_1 (by decide) (fun c1 => ?_) (fun c1 => ?_)
  · skip
    refine g_null C d_X_billAt_12 ?_
    refine g_goto 22 C d_X_billAt_13 (by decide) ?_
    exact g_aret C hR hret (Or.inl ⟨_, rfl⟩) (Or.inl rfl) ⟨rfl, rfl, rfl⟩ d_X_billAt_22
  · skip
    refine g_iload_n C d_X_billAt_4 rfl 1 rfl ?_
    refine g_aload_n C d_X_billAt_5 rfl 0 rfl ?_
    refine g_get x 5 C hx rfl i_X (by decide) (gmem wd_86 rfl) rfl rfl d_X_billAt_6 ?_
    refine g_icmp_lt 16 C d_X_billAt_9 (by decide) (fun c9 => ?_) (fun c9 => ?_)
    · exact absurd c9 (fun q => absurd h (by simp only [isMb, decide_eq_false c1, decide_eq_false (Int32.not_le.mpr q), Bool.not_false, Bool.and_self, Bool.true_eq_false, not_false_eq_true]))
    refine g_null C d_X_billAt_12 ?_
    refine g_goto 22 C d_X_billAt_13 (by decide) ?_
    exact g_aret C hR hret (Or.inl ⟨_, rfl⟩) (Or.inl rfl) ⟨rfl, rfl, rfl⟩ d_X_billAt_22
