theorem t_M_post (l : Launch) (X : gX) (ad : Nat → Nat) (u : gW) (sz m : Nat) (M : mM) (nC nB : Nat)  (h : mW X ad m M u) (hR : R0 M nC nB) (hD : ∃ py wt, RD M py wt) : gMet l (EE X) y_M_post c_M_post 8 (some .int) ({ frames := 3, cells := 0, slots := 0, locals := 71 }) [.ref (ad m)] ad u sz (postM X ad m (M_post M) (.int (a_post M)) u) := by
  obtain ⟨py, wt, hD⟩ := hD
  have hD0 := hD
  obtain ⟨L, hL, -⟩ := hD0
  have eL := lM_eq hL
  have hs := s0M_ok hR
  have eH : hvM M = heaV (M.1 3) (M.2.1 5) (M.2.1 7) (M.2.1 6) (lM M) := by unfold hvM; with_reducible rfl
  have eHm : hmM M = mapL (M.2.2 8) (hvM M) 12 := by unfold hmM; with_reducible rfl
  have eS : shM M = handS (hmM M) (s0M M) (fun j => (parS (tM M) (hmM M j) (sumL (hvM M) 12) 63).1) (wantS (tM M) (fun j => (parS (tM M) (hmM M j) (sumL (hvM M) 12) 63).1) 12) 12 := by unfold shM handM; with_reducible rfl
  have eP : paM M = handS (fun j => (M.2.1 4 j).toInt64) 0 (fun j => (parS (tM M) (M.2.1 4 j).toInt64 (M.1 4).toInt64 63).1) (wantS (tM M) (fun j => (parS (tM M) (M.2.1 4 j).toInt64 (M.1 4).toInt64 63).1) 12) 12 := by unfold paM handM; with_reducible rfl
  have eT : tM M = totS (M.1 4) (M.1 5) := by unfold tM; with_reducible rfl
  have eD : dM M = (M.1 2).toNatClampNeg := by unfold dM; with_reducible rfl
  have eW : wrM M = wroV (M.2.1 3) (M.2.1 4) (hmM M) (hvM M) (dM M) (M.1 3) (M.1 4) (linS (M.2.1 6) (lM M)) := by unfold wrM; with_reducible rfl
  refine gMet_mono (k_M_post l X ad u sz m (M.1 0) (M.1 1) (M.1 2) (M.1 3) (M.1 4) (M.1 5) (M.1 6) (M.1 7) (M.2.1 2) (M.2.1 16) (M.2.1 3) (M.2.1 4) (M.2.1 5) (M.2.1 6) (M.2.1 7) (M.2.1 9) (M.2.1 11) (M.2.2 8) (M.2.2 10) (M.2.2 12) (M.2.2 13) (M.2.2 14)  (mW_0 h) (mW_2 h) (mW_16 h) (mW_3 h) (mW_4 h) (mW_5 h) (mW_6 h) (mW_7 h) (mW_9 h) (mW_11 h) (mW_8 h) (mW_10 h) (mW_12 h) (mW_13 h) (mW_14 h) (dr_in hR) (lM M) (by rw [eL]; exact hL.2.1) (by rw [eL]; exact hL.1) (by rw [eL]; exact siz_ne hL) (nbM M) (R0_nb hR) (R0_64 hR) (s0M M) hs.1 (by rw [← eD]; exact hs.2) (fun q1 q2 => ?_)) fun v u' s hh => ?_
  · rw [← eH, ← eHm, ← eT, ← eS, ← eP]
    rw [← eH, ← eHm, ← eD, wroV_iff, ← eW] at q2
    have C := cuts (k := 0) hD q1 q2.symm hs.1
    exact ⟨C.2.2.2.2, C.1.2.1, (wr0 q2.symm).2.1, C.2.1.2.2.1⟩
  · obtain ⟨r, rv, rs, hh⟩ := hh
    rw [← eH, ← eHm, ← eT, ← eS, ← eP, ← eD] at hh
    rw [wroV_iff, wroV_iff, ← eW] at hh
    rw [M_post, a_post]
    clear eH eHm eS eP eT eD eW
    rcases hh with ⟨q1, q2, b⟩ | ⟨q1, q2, q3, b⟩ | ⟨q1, q2, q3, q4, b⟩ | ⟨q1, q2, q3, q4, q5, b⟩ | ⟨q1, q2, q3, q4, q5, b⟩
    · rw [if_pos (Or.inl q1), if_pos q1]
      refine ⟨by rw [rv]; rw [q2], ⟨?_, ?_, ?_, ?_, ?_, ?_, ?_, ?_, ?_, ?_, ?_, ?_, ?_, ?_, ?_, ?_, ?_, ?_, ?_, ?_, ?_, ?_, ?_, ?_, ?_, ?_⟩, fun n hn => by rw [b, gup_ne (by omega)]⟩
      · rw [b, gup_self]; rfl
      · rw [b, gup_ne (by omega)]; exact (mW_1 (M := M) h)
      · rw [b, gup_ne (by omega)]; exact (mW_2 (M := M) h)
      · rw [b, gup_ne (by omega)]; exact (mW_3 (M := M) h)
      · rw [b, gup_ne (by omega)]; exact (mW_4 (M := M) h)
      · rw [b, gup_ne (by omega)]; exact (mW_5 (M := M) h)
      · rw [b, gup_ne (by omega)]; exact (mW_6 (M := M) h)
      · rw [b, gup_ne (by omega)]; exact (mW_7 (M := M) h)
      · rw [b, gup_ne (by omega)]; exact (mW_8 (M := M) h)
      · rw [b, gup_ne (by omega)]; exact (mW_9 (M := M) h)
      · rw [b, gup_ne (by omega)]; exact (mW_10 (M := M) h)
      · rw [b, gup_ne (by omega)]; exact (mW_11 (M := M) h)
      · rw [b, gup_ne (by omega)]; exact (mW_12 (M := M) h)
      · rw [b, gup_ne (by omega)]; exact (mW_13 (M := M) h)
      · rw [b, gup_ne (by omega)]; exact (mW_14 (M := M) h)
      · rw [b, gup_ne (by omega)]; exact (mW_15 (M := M) h)
      · rw [b, gup_ne (by omega)]; exact (mW_16 (M := M) h)
      · rw [b, gup_ne (by omega)]; exact (mW_17 (M := M) h)
      · rw [b, gup_ne (by omega)]; exact (mW_18 (M := M) h)
      · rw [b, gup_ne (by omega)]; exact (mW_19 (M := M) h)
      · rw [b, gup_ne (by omega)]; exact (mW_20 (M := M) h)
      · rw [b, gup_ne (by omega)]; exact (mW_21 (M := M) h)
      · rw [b, gup_ne (by omega)]; exact (mW_22 (M := M) h)
      · rw [b, gup_ne (by omega)]; exact (mW_23 (M := M) h)
      · rw [b, gup_ne (by omega)]; exact (mW_24 (M := M) h)
      · rw [b, gup_ne (by omega)]; exact (mW_25 (M := M) h)
    · rw [if_pos (Or.inr (Or.inl q2)), if_neg q1, if_pos q2]
      refine ⟨by rw [rv]; rw [q3], ⟨?_, ?_, ?_, ?_, ?_, ?_, ?_, ?_, ?_, ?_, ?_, ?_, ?_, ?_, ?_, ?_, ?_, ?_, ?_, ?_, ?_, ?_, ?_, ?_, ?_, ?_⟩, fun n hn => by rw [b, gup_ne (by omega)]⟩
      · rw [b, gup_self]; rfl
      · rw [b, gup_ne (by omega)]; exact (mW_1 (M := M) h)
      · rw [b, gup_ne (by omega)]; exact (mW_2 (M := M) h)
      · rw [b, gup_ne (by omega)]; exact (mW_3 (M := M) h)
      · rw [b, gup_ne (by omega)]; exact (mW_4 (M := M) h)
      · rw [b, gup_ne (by omega)]; exact (mW_5 (M := M) h)
      · rw [b, gup_ne (by omega)]; exact (mW_6 (M := M) h)
      · rw [b, gup_ne (by omega)]; exact (mW_7 (M := M) h)
      · rw [b, gup_ne (by omega)]; exact (mW_8 (M := M) h)
      · rw [b, gup_ne (by omega)]; exact (mW_9 (M := M) h)
      · rw [b, gup_ne (by omega)]; exact (mW_10 (M := M) h)
      · rw [b, gup_ne (by omega)]; exact (mW_11 (M := M) h)
      · rw [b, gup_ne (by omega)]; exact (mW_12 (M := M) h)
      · rw [b, gup_ne (by omega)]; exact (mW_13 (M := M) h)
      · rw [b, gup_ne (by omega)]; exact (mW_14 (M := M) h)
      · rw [b, gup_ne (by omega)]; exact (mW_15 (M := M) h)
      · rw [b, gup_ne (by omega)]; exact (mW_16 (M := M) h)
      · rw [b, gup_ne (by omega)]; exact (mW_17 (M := M) h)
      · rw [b, gup_ne (by omega)]; exact (mW_18 (M := M) h)
      · rw [b, gup_ne (by omega)]; exact (mW_19 (M := M) h)
      · rw [b, gup_ne (by omega)]; exact (mW_20 (M := M) h)
      · rw [b, gup_ne (by omega)]; exact (mW_21 (M := M) h)
      · rw [b, gup_ne (by omega)]; exact (mW_22 (M := M) h)
      · rw [b, gup_ne (by omega)]; exact (mW_23 (M := M) h)
      · rw [b, gup_ne (by omega)]; exact (mW_24 (M := M) h)
      · rw [b, gup_ne (by omega)]; exact (mW_25 (M := M) h)
    · rw [if_pos (Or.inr (Or.inr q3)), if_neg q1, if_neg (show ¬ ¬ M.2.1 16 (dM M) = 0 from fun q => q q2), if_pos q3]
      refine ⟨by rw [rv]; rw [q4], ⟨?_, ?_, ?_, ?_, ?_, ?_, ?_, ?_, ?_, ?_, ?_, ?_, ?_, ?_, ?_, ?_, ?_, ?_, ?_, ?_, ?_, ?_, ?_, ?_, ?_, ?_⟩, fun n hn => by rw [b, gup_ne (by omega)]⟩
      · rw [b, gup_self]; rfl
      · rw [b, gup_ne (by omega)]; exact (mW_1 (M := M) h)
      · rw [b, gup_ne (by omega)]; exact (mW_2 (M := M) h)
      · rw [b, gup_ne (by omega)]; exact (mW_3 (M := M) h)
      · rw [b, gup_ne (by omega)]; exact (mW_4 (M := M) h)
      · rw [b, gup_ne (by omega)]; exact (mW_5 (M := M) h)
      · rw [b, gup_ne (by omega)]; exact (mW_6 (M := M) h)
      · rw [b, gup_ne (by omega)]; exact (mW_7 (M := M) h)
      · rw [b, gup_ne (by omega)]; exact (mW_8 (M := M) h)
      · rw [b, gup_ne (by omega)]; exact (mW_9 (M := M) h)
      · rw [b, gup_ne (by omega)]; exact (mW_10 (M := M) h)
      · rw [b, gup_ne (by omega)]; exact (mW_11 (M := M) h)
      · rw [b, gup_ne (by omega)]; exact (mW_12 (M := M) h)
      · rw [b, gup_ne (by omega)]; exact (mW_13 (M := M) h)
      · rw [b, gup_ne (by omega)]; exact (mW_14 (M := M) h)
      · rw [b, gup_ne (by omega)]; exact (mW_15 (M := M) h)
      · rw [b, gup_ne (by omega)]; exact (mW_16 (M := M) h)
      · rw [b, gup_ne (by omega)]; exact (mW_17 (M := M) h)
      · rw [b, gup_ne (by omega)]; exact (mW_18 (M := M) h)
      · rw [b, gup_ne (by omega)]; exact (mW_19 (M := M) h)
      · rw [b, gup_ne (by omega)]; exact (mW_20 (M := M) h)
      · rw [b, gup_ne (by omega)]; exact (mW_21 (M := M) h)
      · rw [b, gup_ne (by omega)]; exact (mW_22 (M := M) h)
      · rw [b, gup_ne (by omega)]; exact (mW_23 (M := M) h)
      · rw [b, gup_ne (by omega)]; exact (mW_24 (M := M) h)
      · rw [b, gup_ne (by omega)]; exact (mW_25 (M := M) h)
    · rw [← q5] at *; rw [if_neg (show ¬ (M.1 2 = -1 ∨ ¬ M.2.1 16 (dM M) = 0 ∨ M.1 7 = 64) from fun q => q.elim q1 (fun q => q.elim (fun q => q q2) q3)), if_neg q1, if_neg (show ¬ ¬ M.2.1 16 (dM M) = 0 from fun q => q q2), if_neg q3, if_neg q4, if_neg q4]
      refine ⟨by rw [rv], ⟨?_, ?_, ?_, ?_, ?_, ?_, ?_, ?_, ?_, ?_, ?_, ?_, ?_, ?_, ?_, ?_, ?_, ?_, ?_, ?_, ?_, ?_, ?_, ?_, ?_, ?_⟩, fun n hn => by rw [b, gup_ne (by omega), gup_ne (by omega)]⟩
      · rw [b, gup_ne (by omega), gup_self]; rfl
      · rw [b, gup_ne (by omega), gup_ne (by omega)]; exact (mW_1 (M := M) h)
      · rw [b, gup_ne (by omega), gup_ne (by omega)]; exact (mW_2 (M := M) h)
      · rw [b, gup_ne (by omega), gup_ne (by omega)]; exact (mW_3 (M := M) h)
      · rw [b, gup_ne (by omega), gup_ne (by omega)]; exact (mW_4 (M := M) h)
      · rw [b, gup_ne (by omega), gup_ne (by omega)]; exact (mW_5 (M := M) h)
      · rw [b, gup_ne (by omega), gup_ne (by omega)]; exact (mW_6 (M := M) h)
      · rw [b, gup_ne (by omega), gup_ne (by omega)]; exact (mW_7 (M := M) h)
      · rw [b, gup_self]; rfl
      · rw [b, gup_ne (by omega), gup_ne (by omega)]; exact (mW_9 (M := M) h)
      · rw [b, gup_ne (by omega), gup_ne (by omega)]; exact (mW_10 (M := M) h)
      · rw [b, gup_ne (by omega), gup_ne (by omega)]; exact (mW_11 (M := M) h)
      · rw [b, gup_ne (by omega), gup_ne (by omega)]; exact (mW_12 (M := M) h)
      · rw [b, gup_ne (by omega), gup_ne (by omega)]; exact (mW_13 (M := M) h)
      · rw [b, gup_ne (by omega), gup_ne (by omega)]; exact (mW_14 (M := M) h)
      · rw [b, gup_ne (by omega), gup_ne (by omega)]; exact (mW_15 (M := M) h)
      · rw [b, gup_ne (by omega), gup_ne (by omega)]; exact (mW_16 (M := M) h)
      · rw [b, gup_ne (by omega), gup_ne (by omega)]; exact (mW_17 (M := M) h)
      · rw [b, gup_ne (by omega), gup_ne (by omega)]; exact (mW_18 (M := M) h)
      · rw [b, gup_ne (by omega), gup_ne (by omega)]; exact (mW_19 (M := M) h)
      · rw [b, gup_ne (by omega), gup_ne (by omega)]; exact (mW_20 (M := M) h)
      · rw [b, gup_ne (by omega), gup_ne (by omega)]; exact (mW_21 (M := M) h)
      · rw [b, gup_ne (by omega), gup_ne (by omega)]; exact (mW_22 (M := M) h)
      · rw [b, gup_ne (by omega), gup_ne (by omega)]; exact (mW_23 (M := M) h)
      · rw [b, gup_ne (by omega), gup_ne (by omega)]; exact (mW_24 (M := M) h)
      · rw [b, gup_ne (by omega), gup_ne (by omega)]; exact (mW_25 (M := M) h)
    · rw [if_neg (show ¬ (M.1 2 = -1 ∨ ¬ M.2.1 16 (dM M) = 0 ∨ M.1 7 = 64) from fun q => q.elim q1 (fun q => q.elim (fun q => q q2) q3)), if_neg q1, if_neg (show ¬ ¬ M.2.1 16 (dM M) = 0 from fun q => q q2), if_neg q3, if_pos q4.symm, if_pos q4.symm, M_post1]
      generalize shM M = S at *
      generalize paM M = P at *
      generalize hmM M = H at *
      generalize hvM M = H2 at *
      generalize tM M = T at *
      refine ⟨by rw [rv]; rw [q5], ⟨?_, ?_, ?_, ?_, ?_, ?_, ?_, ?_, ?_, ?_, ?_, ?_, ?_, ?_, ?_, ?_, ?_, ?_, ?_, ?_, ?_, ?_, ?_, ?_, ?_, ?_⟩, fun n hn => by rw [b, gup_ne (by omega), gup_ne (by omega), gup_ne (by omega), gup_ne (by omega), gup_ne (by omega), gup_ne (by omega), gup_ne (by omega), gup_ne (by omega), gup_ne (by omega)]⟩
      · rw [b, gup_ne (by omega), gup_ne (by omega), gup_ne (by omega), gup_ne (by omega), gup_ne (by omega), gup_ne (by omega), gup_ne (by omega), gup_ne (by omega), gup_self]; rfl
      · rw [b, gup_ne (by omega), gup_ne (by omega), gup_ne (by omega), gup_ne (by omega), gup_ne (by omega), gup_ne (by omega), gup_ne (by omega), gup_ne (by omega), gup_ne (by omega)]; exact (mW_1 (M := M) h)
      · rw [b, gup_ne (by omega), gup_ne (by omega), gup_ne (by omega), gup_ne (by omega), gup_ne (by omega), gup_ne (by omega), gup_ne (by omega), gup_self]; rfl
      · rw [b, gup_ne (by omega), gup_ne (by omega), gup_ne (by omega), gup_ne (by omega), gup_ne (by omega), gup_ne (by omega), gup_ne (by omega), gup_ne (by omega), gup_ne (by omega)]; exact (mW_3 (M := M) h)
      · rw [b, gup_ne (by omega), gup_ne (by omega), gup_ne (by omega), gup_ne (by omega), gup_ne (by omega), gup_ne (by omega), gup_ne (by omega), gup_ne (by omega), gup_ne (by omega)]; exact (mW_4 (M := M) h)
      · rw [b, gup_ne (by omega), gup_ne (by omega), gup_ne (by omega), gup_ne (by omega), gup_ne (by omega), gup_ne (by omega), gup_ne (by omega), gup_ne (by omega), gup_ne (by omega)]; exact (mW_5 (M := M) h)
      · rw [b, gup_ne (by omega), gup_ne (by omega), gup_ne (by omega), gup_ne (by omega), gup_ne (by omega), gup_ne (by omega), gup_ne (by omega), gup_ne (by omega), gup_ne (by omega)]; exact (mW_6 (M := M) h)
      · rw [b, gup_ne (by omega), gup_ne (by omega), gup_ne (by omega), gup_ne (by omega), gup_ne (by omega), gup_ne (by omega), gup_ne (by omega), gup_ne (by omega), gup_ne (by omega)]; exact (mW_7 (M := M) h)
      · rw [b, gup_ne (by omega), gup_ne (by omega), gup_ne (by omega), gup_ne (by omega), gup_self]; rfl
      · rw [b, gup_ne (by omega), gup_ne (by omega), gup_ne (by omega), gup_ne (by omega), gup_ne (by omega), gup_ne (by omega), gup_self]; rfl
      · rw [b, gup_ne (by omega), gup_ne (by omega), gup_ne (by omega), gup_self]; rfl
      · rw [b, gup_ne (by omega), gup_ne (by omega), gup_ne (by omega), gup_ne (by omega), gup_ne (by omega), gup_self]; rfl
      · rw [b, gup_ne (by omega), gup_ne (by omega), gup_self]; rfl
      · rw [b, gup_ne (by omega), gup_self]; rfl
      · rw [b, gup_self]; rfl
      · rw [b, gup_ne (by omega), gup_ne (by omega), gup_ne (by omega), gup_ne (by omega), gup_ne (by omega), gup_ne (by omega), gup_ne (by omega), gup_ne (by omega), gup_ne (by omega)]; exact (mW_15 (M := M) h)
      · rw [b, gup_ne (by omega), gup_ne (by omega), gup_ne (by omega), gup_ne (by omega), gup_ne (by omega), gup_ne (by omega), gup_ne (by omega), gup_ne (by omega), gup_ne (by omega)]; exact (mW_16 (M := M) h)
      · rw [b, gup_ne (by omega), gup_ne (by omega), gup_ne (by omega), gup_ne (by omega), gup_ne (by omega), gup_ne (by omega), gup_ne (by omega), gup_ne (by omega), gup_ne (by omega)]; exact (mW_17 (M := M) h)
      · rw [b, gup_ne (by omega), gup_ne (by omega), gup_ne (by omega), gup_ne (by omega), gup_ne (by omega), gup_ne (by omega), gup_ne (by omega), gup_ne (by omega), gup_ne (by omega)]; exact (mW_18 (M := M) h)
      · rw [b, gup_ne (by omega), gup_ne (by omega), gup_ne (by omega), gup_ne (by omega), gup_ne (by omega), gup_ne (by omega), gup_ne (by omega), gup_ne (by omega), gup_ne (by omega)]; exact (mW_19 (M := M) h)
      · rw [b, gup_ne (by omega), gup_ne (by omega), gup_ne (by omega), gup_ne (by omega), gup_ne (by omega), gup_ne (by omega), gup_ne (by omega), gup_ne (by omega), gup_ne (by omega)]; exact (mW_20 (M := M) h)
      · rw [b, gup_ne (by omega), gup_ne (by omega), gup_ne (by omega), gup_ne (by omega), gup_ne (by omega), gup_ne (by omega), gup_ne (by omega), gup_ne (by omega), gup_ne (by omega)]; exact (mW_21 (M := M) h)
      · rw [b, gup_ne (by omega), gup_ne (by omega), gup_ne (by omega), gup_ne (by omega), gup_ne (by omega), gup_ne (by omega), gup_ne (by omega), gup_ne (by omega), gup_ne (by omega)]; exact (mW_22 (M := M) h)
      · rw [b, gup_ne (by omega), gup_ne (by omega), gup_ne (by omega), gup_ne (by omega), gup_ne (by omega), gup_ne (by omega), gup_ne (by omega), gup_ne (by omega), gup_ne (by omega)]; exact (mW_23 (M := M) h)
      · rw [b, gup_ne (by omega), gup_ne (by omega), gup_ne (by omega), gup_ne (by omega), gup_ne (by omega), gup_ne (by omega), gup_ne (by omega), gup_ne (by omega), gup_ne (by omega)]; exact (mW_24 (M := M) h)
      · rw [b, gup_ne (by omega), gup_ne (by omega), gup_ne (by omega), gup_ne (by omega), gup_ne (by omega), gup_ne (by omega), gup_ne (by omega), gup_ne (by omega), gup_ne (by omega)]; exact (mW_25 (M := M) h)