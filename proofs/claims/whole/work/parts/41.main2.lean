set_option maxHeartbeats 4000000 in
set_option maxRecDepth 100000 in
theorem k_X_member_no (l : Launch) (X : gX) (ad : Nat → Nat) (u : gW) (sz : Nat) (x nC nB : Nat) (c : Int32) (hx : u x = some (.inr (5, [.ref (ad (x + 1)), .ref (ad (x + 2)), .ref (ad (x + 3)), .ref (ad (x + 6)), .int (nI nC), .int (nI nB)]))) (hx1 : u (x + 1) = some (.inl ((X.2 3), 4, .inr (.inr (.inr (.inr (cArr ad x nC))))))) (h : isMb c (nI nC) = false) : gMet l (EE X) y_X_member c_X_member 3 (some .int) ({ frames := 1, cells := 0, slots := 0, locals := 21 }) [.ref (ad x), .int c] ad u sz (fun v u' sz' => v = some (.int (-1)) ∧ u' = u ∧ sz' = sz) := by
  refine gMet_of "ExpenseClubs" rfl (by decide) (Nat.le_of_ble_eq_true rfl) (lv := [(0, .ref (ad x)), (1, .int c)]) rfl (fun Z hZl C hR hret hname => ?_)
  refine g_aload_n C d_X_member_0 rfl 0 rfl ?_
  refine g_iload_n C d_X_member_1 rfl 1 rfl ?_
  refine g_callV 1 C (k_X_clubAt_no _ X ad u sz x nC nB c hx hx1 h) (gmem wd_189 rfl) (gmem wd_191 rfl) (gmem ws_0 rfl) (gmem wd_1 rfl) (gmem wd_192 rfl) ⟨by decide, by decide, by decide +kernel⟩ ⟨Nat.le_of_ble_eq_true rfl, Nat.le_of_ble_eq_true rfl⟩ hx rfl rfl rfl (Nat.le_of_ble_eq_true rfl) d_X_member_2 ⟨Nat.le_of_ble_eq_true rfl, Nat.le_of_ble_eq_true rfl⟩ ?_
  rintro v9 u9 s9 ⟨h9, hu9, hs9⟩; rw [h9, hu9, hs9]; clear h9 hu9 hs9 v9 u9 s9
  show GW Z _ _ _ ad u sz [(0, .ref (ad x)), (1, .int c)] 0 0 5 [.null]
  refine g_astore_nN C d_X_member_5 rfl [(2, .null), (0, .ref (ad x)), (1, .int c)] (by decide) rfl ?_
  refine g_aload_nN C d_X_member_6 rfl 0 rfl ?_
  refine g_ifnullN 19 C d_X_member_7 (by decide) ?_
  refine g_iconst (v := (-1)) C d_X_member_19 (by decide) ?_
  exact g_iret C hR hret ⟨rfl, rfl, rfl⟩ d_X_member_20

set_option maxHeartbeats 4000000 in
set_option maxRecDepth 100000 in
theorem k_X_leave_no (l : Launch) (X : gX) (ad : Nat → Nat) (u : gW) (sz : Nat) (x nC nB : Nat) (c a0 : Int32) (hx : u x = some (.inr (5, [.ref (ad (x + 1)), .ref (ad (x + 2)), .ref (ad (x + 3)), .ref (ad (x + 6)), .int (nI nC), .int (nI nB)]))) (hx1 : u (x + 1) = some (.inl ((X.2 3), 4, .inr (.inr (.inr (.inr (cArr ad x nC))))))) (h : isMb c (nI nC) = false) : gMet l (EE X) y_X_leave c_X_leave 4 (some .boolean) ({ frames := 2, cells := 0, slots := 0, locals := 42 }) [.ref (ad x), .int c, .int a0] ad u sz (fun v u' sz' => v = some (.int 0) ∧ u' = u ∧ sz' = sz) := by
  refine gMet_of "ExpenseClubs" rfl (by decide) (Nat.le_of_ble_eq_true rfl) (lv := [(0, .ref (ad x)), (1, .int c), (2, .int a0)]) rfl (fun Z hZl C hR hret hname => ?_)
  refine g_aload_n C d_X_leave_0 rfl 0 rfl ?_
  refine g_iload_n C d_X_leave_1 rfl 1 rfl ?_
  refine g_callV 1 C (k_X_clubAt_no _ X ad u sz x nC nB c hx hx1 h) (gmem wd_189 rfl) (gmem wd_191 rfl) (gmem ws_0 rfl) (gmem wd_1 rfl) (gmem wd_192 rfl) ⟨by decide, by decide, by decide +kernel⟩ ⟨Nat.le_of_ble_eq_true rfl, Nat.le_of_ble_eq_true rfl⟩ hx rfl rfl rfl (Nat.le_of_ble_eq_true rfl) d_X_leave_2 ⟨Nat.le_of_ble_eq_true rfl, Nat.le_of_ble_eq_true rfl⟩ ?_
  rintro v9 u9 s9 ⟨h9, hu9, hs9⟩; rw [h9, hu9, hs9]; clear h9 hu9 hs9 v9 u9 s9
  show GW Z _ _ _ ad u sz [(0, .ref (ad x)), (1, .int c), (2, .int a0)] 0 0 5 [.null]
  refine g_astore_nN C d_X_leave_5 rfl [(3, .null), (0, .ref (ad x)), (1, .int c), (2, .int a0)] (by decide) rfl ?_
  refine g_aload_nN C d_X_leave_6 rfl 0 rfl ?_
  refine g_ifnullN 39 C d_X_leave_7 (by decide) ?_
  refine g_iconst (v := 0) C d_X_leave_39 (by decide) ?_
  exact g_zret C hR hret rfl ⟨rfl, rfl, rfl⟩ d_X_leave_40

set_option maxHeartbeats 4000000 in
set_option maxRecDepth 100000 in
theorem k_X_bill_no (l : Launch) (X : gX) (ad : Nat → Nat) (u : gW) (sz : Nat) (x nC nB : Nat) (c a0 a1 a2 : Int32) (hx : u x = some (.inr (5, [.ref (ad (x + 1)), .ref (ad (x + 2)), .ref (ad (x + 3)), .ref (ad (x + 6)), .int (nI nC), .int (nI nB)]))) (hx1 : u (x + 1) = some (.inl ((X.2 3), 4, .inr (.inr (.inr (.inr (cArr ad x nC))))))) (h : isMb c (nI nC) = false) : gMet l (EE X) y_X_bill c_X_bill 6 (some .boolean) ({ frames := 1, cells := 0, slots := 0, locals := 25 }) [.ref (ad x), .int c, .int a0, .int a1, .int a2] ad u sz (fun v u' sz' => v = some (.int 0) ∧ u' = u ∧ sz' = sz) := by
  refine gMet_of "ExpenseClubs" rfl (by decide) (Nat.le_of_ble_eq_true rfl) (lv := [(0, .ref (ad x)), (1, .int c), (2, .int a0), (3, .int a1), (4, .int a2)]) rfl (fun Z hZl C hR hret hname => ?_)
  refine g_aload_n C d_X_bill_0 rfl 0 rfl ?_
  refine g_iload_n C d_X_bill_1 rfl 1 rfl ?_
  refine g_callV 1 C (k_X_clubAt_no _ X ad u sz x nC nB c hx hx1 h) (gmem wd_189 rfl) (gmem wd_191 rfl) (gmem ws_0 rfl) (gmem wd_1 rfl) (gmem wd_192 rfl) ⟨by decide, by decide, by decide +kernel⟩ ⟨Nat.le_of_ble_eq_true rfl, Nat.le_of_ble_eq_true rfl⟩ hx rfl rfl rfl (Nat.le_of_ble_eq_true rfl) d_X_bill_2 ⟨Nat.le_of_ble_eq_true rfl, Nat.le_of_ble_eq_true rfl⟩ ?_
  rintro v9 u9 s9 ⟨h9, hu9, hs9⟩; rw [h9, hu9, hs9]; clear h9 hu9 hs9 v9 u9 s9
  show GW Z _ _ _ ad u sz [(0, .ref (ad x)), (1, .int c), (2, .int a0), (3, .int a1), (4, .int a2)] 0 0 5 [.null]
  refine g_astoreN C d_X_bill_5 [(5, .null), (0, .ref (ad x)), (1, .int c), (2, .int a0), (3, .int a1), (4, .int a2)] (by decide) rfl ?_
  refine g_aloadN C d_X_bill_7 0 rfl ?_
  refine g_ifnullN 46 C d_X_bill_9 (by decide) ?_
  refine g_iconst (v := 0) C d_X_bill_46 (by decide) ?_
  exact g_zret C hR hret rfl ⟨rfl, rfl, rfl⟩ d_X_bill_47

set_option maxHeartbeats 4000000 in
set_option maxRecDepth 100000 in
theorem k_X_balance_no (l : Launch) (X : gX) (ad : Nat → Nat) (u : gW) (sz : Nat) (x nC nB : Nat) (c a0 : Int32) (hx : u x = some (.inr (5, [.ref (ad (x + 1)), .ref (ad (x + 2)), .ref (ad (x + 3)), .ref (ad (x + 6)), .int (nI nC), .int (nI nB)]))) (hx1 : u (x + 1) = some (.inl ((X.2 3), 4, .inr (.inr (.inr (.inr (cArr ad x nC))))))) (h : isMb c (nI nC) = false) : gMet l (EE X) y_X_balance c_X_balance 4 (some .long) ({ frames := 1, cells := 0, slots := 0, locals := 21 }) [.ref (ad x), .int c, .int a0] ad u sz (fun v u' sz' => v = some (.long 0) ∧ u' = u ∧ sz' = sz) := by
  refine gMet_of "ExpenseClubs" rfl (by decide) (Nat.le_of_ble_eq_true rfl) (lv := [(0, .ref (ad x)), (1, .int c), (2, .int a0)]) rfl (fun Z hZl C hR hret hname => ?_)
  refine g_aload_n C d_X_balance_0 rfl 0 rfl ?_
  refine g_iload_n C d_X_balance_1 rfl 1 rfl ?_
  refine g_callV 1 C (k_X_clubAt_no _ X ad u sz x nC nB c hx hx1 h) (gmem wd_189 rfl) (gmem wd_191 rfl) (gmem ws_0 rfl) (gmem wd_1 rfl) (gmem wd_192 rfl) ⟨by decide, by decide, by decide +kernel⟩ ⟨Nat.le_of_ble_eq_true rfl, Nat.le_of_ble_eq_true rfl⟩ hx rfl rfl rfl (Nat.le_of_ble_eq_true rfl) d_X_balance_2 ⟨Nat.le_of_ble_eq_true rfl, Nat.le_of_ble_eq_true rfl⟩ ?_
  rintro v9 u9 s9 ⟨h9, hu9, hs9⟩; rw [h9, hu9, hs9]; clear h9 hu9 hs9 v9 u9 s9
  show GW Z _ _ _ ad u sz [(0, .ref (ad x)), (1, .int c), (2, .int a0)] 0 0 5 [.null]
  refine g_astore_nN C d_X_balance_5 rfl [(3, .null), (0, .ref (ad x)), (1, .int c), (2, .int a0)] (by decide) rfl ?_
  refine g_aload_nN C d_X_balance_6 rfl 0 rfl ?_
  refine g_ifnullN 18 C d_X_balance_7 (by decide) ?_
  refine g_lconst (v := 0) C d_X_balance_18 (by decide) ?_
  refine g_goto 28 C d_X_balance_19 (by decide) ?_
  exact g_lret C hR hret ⟨rfl, rfl, rfl⟩ d_X_balance_28

set_option maxHeartbeats 4000000 in
set_option maxRecDepth 100000 in
theorem k_X_drift_no (l : Launch) (X : gX) (ad : Nat → Nat) (u : gW) (sz : Nat) (x nC nB : Nat) (c a0 : Int32) (hx : u x = some (.inr (5, [.ref (ad (x + 1)), .ref (ad (x + 2)), .ref (ad (x + 3)), .ref (ad (x + 6)), .int (nI nC), .int (nI nB)]))) (hx1 : u (x + 1) = some (.inl ((X.2 3), 4, .inr (.inr (.inr (.inr (cArr ad x nC))))))) (h : isMb c (nI nC) = false) : gMet l (EE X) y_X_drift c_X_drift 4 (some .long) ({ frames := 1, cells := 0, slots := 0, locals := 21 }) [.ref (ad x), .int c, .int a0] ad u sz (fun v u' sz' => v = some (.long 0) ∧ u' = u ∧ sz' = sz) := by
  refine gMet_of "ExpenseClubs" rfl (by decide) (Nat.le_of_ble_eq_true rfl) (lv := [(0, .ref (ad x)), (1, .int c), (2, .int a0)]) rfl (fun Z hZl C hR hret hname => ?_)
  refine g_aload_n C d_X_drift_0 rfl 0 rfl ?_
  refine g_iload_n C d_X_drift_1 rfl 1 rfl ?_
  refine g_callV 1 C (k_X_clubAt_no _ X ad u sz x nC nB c hx hx1 h) (gmem wd_189 rfl) (gmem wd_191 rfl) (gmem ws_0 rfl) (gmem wd_1 rfl) (gmem wd_192 rfl) ⟨by decide, by decide, by decide +kernel⟩ ⟨Nat.le_of_ble_eq_true rfl, Nat.le_of_ble_eq_true rfl⟩ hx rfl rfl rfl (Nat.le_of_ble_eq_true rfl) d_X_drift_2 ⟨Nat.le_of_ble_eq_true rfl, Nat.le_of_ble_eq_true rfl⟩ ?_
  rintro v9 u9 s9 ⟨h9, hu9, hs9⟩; rw [h9, hu9, hs9]; clear h9 hu9 hs9 v9 u9 s9
  show GW Z _ _ _ ad u sz [(0, .ref (ad x)), (1, .int c), (2, .int a0)] 0 0 5 [.null]
  refine g_astore_nN C d_X_drift_5 rfl [(3, .null), (0, .ref (ad x)), (1, .int c), (2, .int a0)] (by decide) rfl ?_
  refine g_aload_nN C d_X_drift_6 rfl 0 rfl ?_
  refine g_ifnullN 18 C d_X_drift_7 (by decide) ?_
  refine g_lconst (v := 0) C d_X_drift_18 (by decide) ?_
  refine g_goto 28 C d_X_drift_19 (by decide) ?_
  exact g_lret C hR hret ⟨rfl, rfl, rfl⟩ d_X_drift_28

set_option maxHeartbeats 4000000 in
set_option maxRecDepth 100000 in
theorem k_X_tick_no (l : Launch) (X : gX) (ad : Nat → Nat) (u : gW) (sz : Nat) (x nC nB : Nat) (c a0 : Int32) (hx : u x = some (.inr (5, [.ref (ad (x + 1)), .ref (ad (x + 2)), .ref (ad (x + 3)), .ref (ad (x + 6)), .int (nI nC), .int (nI nB)]))) (hx1 : u (x + 1) = some (.inl ((X.2 3), 4, .inr (.inr (.inr (.inr (cArr ad x nC))))))) (h : isMb c (nI nC) = false) : gMet l (EE X) y_X_tick c_X_tick 4 (some .boolean) ({ frames := 1, cells := 0, slots := 0, locals := 21 }) [.ref (ad x), .int c, .int a0] ad u sz (fun v u' sz' => v = some (.int 0) ∧ u' = u ∧ sz' = sz) := by
  refine gMet_of "ExpenseClubs" rfl (by decide) (Nat.le_of_ble_eq_true rfl) (lv := [(0, .ref (ad x)), (1, .int c), (2, .int a0)]) rfl (fun Z hZl C hR hret hname => ?_)
  refine g_aload_n C d_X_tick_0 rfl 0 rfl ?_
  refine g_iload_n C d_X_tick_1 rfl 1 rfl ?_
  refine g_callV 1 C (k_X_clubAt_no _ X ad u sz x nC nB c hx hx1 h) (gmem wd_189 rfl) (gmem wd_191 rfl) (gmem ws_0 rfl) (gmem wd_1 rfl) (gmem wd_192 rfl) ⟨by decide, by decide, by decide +kernel⟩ ⟨Nat.le_of_ble_eq_true rfl, Nat.le_of_ble_eq_true rfl⟩ hx rfl rfl rfl (Nat.le_of_ble_eq_true rfl) d_X_tick_2 ⟨Nat.le_of_ble_eq_true rfl, Nat.le_of_ble_eq_true rfl⟩ ?_
  rintro v9 u9 s9 ⟨h9, hu9, hs9⟩; rw [h9, hu9, hs9]; clear h9 hu9 hs9 v9 u9 s9
  show GW Z _ _ _ ad u sz [(0, .ref (ad x)), (1, .int c), (2, .int a0)] 0 0 5 [.null]
  refine g_astore_nN C d_X_tick_5 rfl [(3, .null), (0, .ref (ad x)), (1, .int c), (2, .int a0)] (by decide) rfl ?_
  refine g_aload_nN C d_X_tick_6 rfl 0 rfl ?_
  refine g_ifnullN 33 C d_X_tick_7 (by decide) ?_
  refine g_iconst (v := 0) C d_X_tick_33 (by decide) ?_
  exact g_zret C hR hret rfl ⟨rfl, rfl, rfl⟩ d_X_tick_34

set_option maxHeartbeats 4000000 in
set_option maxRecDepth 100000 in
theorem k_X_giveUp_no (l : Launch) (X : gX) (ad : Nat → Nat) (u : gW) (sz : Nat) (x nC nB : Nat) (c : Int32) (hx : u x = some (.inr (5, [.ref (ad (x + 1)), .ref (ad (x + 2)), .ref (ad (x + 3)), .ref (ad (x + 6)), .int (nI nC), .int (nI nB)]))) (hx1 : u (x + 1) = some (.inl ((X.2 3), 4, .inr (.inr (.inr (.inr (cArr ad x nC))))))) (h : isMb c (nI nC) = false) : gMet l (EE X) y_X_giveUp c_X_giveUp 3 (some .int) ({ frames := 1, cells := 0, slots := 0, locals := 21 }) [.ref (ad x), .int c] ad u sz (fun v u' sz' => v = some (.int (-1)) ∧ u' = u ∧ sz' = sz) := by
  refine gMet_of "ExpenseClubs" rfl (by decide) (Nat.le_of_ble_eq_true rfl) (lv := [(0, .ref (ad x)), (1, .int c)]) rfl (fun Z hZl C hR hret hname => ?_)
  refine g_aload_n C d_X_giveUp_0 rfl 0 rfl ?_
  refine g_iload_n C d_X_giveUp_1 rfl 1 rfl ?_
  refine g_callV 1 C (k_X_clubAt_no _ X ad u sz x nC nB c hx hx1 h) (gmem wd_189 rfl) (gmem wd_191 rfl) (gmem ws_0 rfl) (gmem wd_1 rfl) (gmem wd_192 rfl) ⟨by decide, by decide, by decide +kernel⟩ ⟨Nat.le_of_ble_eq_true rfl, Nat.le_of_ble_eq_true rfl⟩ hx rfl rfl rfl (Nat.le_of_ble_eq_true rfl) d_X_giveUp_2 ⟨Nat.le_of_ble_eq_true rfl, Nat.le_of_ble_eq_true rfl⟩ ?_
  rintro v9 u9 s9 ⟨h9, hu9, hs9⟩; rw [h9, hu9, hs9]; clear h9 hu9 hs9 v9 u9 s9
  show GW Z _ _ _ ad u sz [(0, .ref (ad x)), (1, .int c)] 0 0 5 [.null]
  refine g_astore_nN C d_X_giveUp_5 rfl [(2, .null), (0, .ref (ad x)), (1, .int c)] (by decide) rfl ?_
  refine g_aload_nN C d_X_giveUp_6 rfl 0 rfl ?_
  refine g_ifnullN 20 C d_X_giveUp_7 (by decide) ?_
  refine g_iconst (v := (-1)) C d_X_giveUp_20 (by decide) ?_
  exact g_iret C hR hret ⟨rfl, rfl, rfl⟩ d_X_giveUp_21

set_option maxHeartbeats 4000000 in
set_option maxRecDepth 100000 in
theorem k_X_close_no (l : Launch) (X : gX) (ad : Nat → Nat) (u : gW) (sz : Nat) (x nC nB : Nat) (c : Int32) (hx : u x = some (.inr (5, [.ref (ad (x + 1)), .ref (ad (x + 2)), .ref (ad (x + 3)), .ref (ad (x + 6)), .int (nI nC), .int (nI nB)]))) (hx1 : u (x + 1) = some (.inl ((X.2 3), 4, .inr (.inr (.inr (.inr (cArr ad x nC))))))) (h : isMb c (nI nC) = false) : gMet l (EE X) y_X_close c_X_close 3 (some .boolean) ({ frames := 1, cells := 0, slots := 0, locals := 21 }) [.ref (ad x), .int c] ad u sz (fun v u' sz' => v = some (.int 0) ∧ u' = u ∧ sz' = sz) := by
  refine gMet_of "ExpenseClubs" rfl (by decide) (Nat.le_of_ble_eq_true rfl) (lv := [(0, .ref (ad x)), (1, .int c)]) rfl (fun Z hZl C hR hret hname => ?_)
  refine g_aload_n C d_X_close_0 rfl 0 rfl ?_
  refine g_iload_n C d_X_close_1 rfl 1 rfl ?_
  refine g_callV 1 C (k_X_clubAt_no _ X ad u sz x nC nB c hx hx1 h) (gmem wd_189 rfl) (gmem wd_191 rfl) (gmem ws_0 rfl) (gmem wd_1 rfl) (gmem wd_192 rfl) ⟨by decide, by decide, by decide +kernel⟩ ⟨Nat.le_of_ble_eq_true rfl, Nat.le_of_ble_eq_true rfl⟩ hx rfl rfl rfl (Nat.le_of_ble_eq_true rfl) d_X_close_2 ⟨Nat.le_of_ble_eq_true rfl, Nat.le_of_ble_eq_true rfl⟩ ?_
  rintro v9 u9 s9 ⟨h9, hu9, hs9⟩; rw [h9, hu9, hs9]; clear h9 hu9 hs9 v9 u9 s9
  show GW Z _ _ _ ad u sz [(0, .ref (ad x)), (1, .int c)] 0 0 5 [.null]
  refine g_astore_nN C d_X_close_5 rfl [(2, .null), (0, .ref (ad x)), (1, .int c)] (by decide) rfl ?_
  refine g_aload_nN C d_X_close_6 rfl 0 rfl ?_
  refine g_ifnullN 30 C d_X_close_7 (by decide) ?_
  refine g_iconst (v := 0) C d_X_close_30 (by decide) ?_
  exact g_zret C hR hret rfl ⟨rfl, rfl, rfl⟩ d_X_close_31

set_option maxHeartbeats 4000000 in
set_option maxRecDepth 100000 in
theorem k_X_count_no (l : Launch) (X : gX) (ad : Nat → Nat) (u : gW) (sz : Nat) (x nC nB : Nat) (c a0 : Int32) (hx : u x = some (.inr (5, [.ref (ad (x + 1)), .ref (ad (x + 2)), .ref (ad (x + 3)), .ref (ad (x + 6)), .int (nI nC), .int (nI nB)]))) (hx1 : u (x + 1) = some (.inl ((X.2 3), 4, .inr (.inr (.inr (.inr (cArr ad x nC))))))) (h : isMb c (nI nC) = false) : gMet l (EE X) y_X_count c_X_count 4 (some .int) ({ frames := 1, cells := 0, slots := 0, locals := 21 }) [.ref (ad x), .int c, .int a0] ad u sz (fun v u' sz' => v = some (.int (-1)) ∧ u' = u ∧ sz' = sz) := by
  refine gMet_of "ExpenseClubs" rfl (by decide) (Nat.le_of_ble_eq_true rfl) (lv := [(0, .ref (ad x)), (1, .int c), (2, .int a0)]) rfl (fun Z hZl C hR hret hname => ?_)
  refine g_aload_n C d_X_count_0 rfl 0 rfl ?_
  refine g_iload_n C d_X_count_1 rfl 1 rfl ?_
  refine g_callV 1 C (k_X_clubAt_no _ X ad u sz x nC nB c hx hx1 h) (gmem wd_189 rfl) (gmem wd_191 rfl) (gmem ws_0 rfl) (gmem wd_1 rfl) (gmem wd_192 rfl) ⟨by decide, by decide, by decide +kernel⟩ ⟨Nat.le_of_ble_eq_true rfl, Nat.le_of_ble_eq_true rfl⟩ hx rfl rfl rfl (Nat.le_of_ble_eq_true rfl) d_X_count_2 ⟨Nat.le_of_ble_eq_true rfl, Nat.le_of_ble_eq_true rfl⟩ ?_
  rintro v9 u9 s9 ⟨h9, hu9, hs9⟩; rw [h9, hu9, hs9]; clear h9 hu9 hs9 v9 u9 s9
  show GW Z _ _ _ ad u sz [(0, .ref (ad x)), (1, .int c), (2, .int a0)] 0 0 5 [.null]
  refine g_astore_nN C d_X_count_5 rfl [(3, .null), (0, .ref (ad x)), (1, .int c), (2, .int a0)] (by decide) rfl ?_
  refine g_aload_nN C d_X_count_6 rfl 0 rfl ?_
  refine g_ifnonnullN C d_X_count_7 ?_
  refine g_iconst (v := (-1)) C d_X_count_10 (by decide) ?_
  exact g_iret C hR hret ⟨rfl, rfl, rfl⟩ d_X_count_11

set_option maxHeartbeats 4000000 in
set_option maxRecDepth 100000 in
theorem k_X_groupOf_no (l : Launch) (X : gX) (ad : Nat → Nat) (u : gW) (sz : Nat) (x nC nB : Nat) (c a0 : Int32) (hx : u x = some (.inr (5, [.ref (ad (x + 1)), .ref (ad (x + 2)), .ref (ad (x + 3)), .ref (ad (x + 6)), .int (nI nC), .int (nI nB)]))) (hx1 : u (x + 1) = some (.inl ((X.2 3), 4, .inr (.inr (.inr (.inr (cArr ad x nC))))))) (h : isMb c (nI nC) = false) : gMet l (EE X) y_X_groupOf c_X_groupOf 4 (some .int) ({ frames := 1, cells := 0, slots := 0, locals := 21 }) [.ref (ad x), .int c, .int a0] ad u sz (fun v u' sz' => v = some (.int (-1)) ∧ u' = u ∧ sz' = sz) := by
  refine gMet_of "ExpenseClubs" rfl (by decide) (Nat.le_of_ble_eq_true rfl) (lv := [(0, .ref (ad x)), (1, .int c), (2, .int a0)]) rfl (fun Z hZl C hR hret hname => ?_)
  refine g_aload_n C d_X_groupOf_0 rfl 0 rfl ?_
  refine g_iload_n C d_X_groupOf_1 rfl 1 rfl ?_
  refine g_callV 1 C (k_X_clubAt_no _ X ad u sz x nC nB c hx hx1 h) (gmem wd_189 rfl) (gmem wd_191 rfl) (gmem ws_0 rfl) (gmem wd_1 rfl) (gmem wd_192 rfl) ⟨by decide, by decide, by decide +kernel⟩ ⟨Nat.le_of_ble_eq_true rfl, Nat.le_of_ble_eq_true rfl⟩ hx rfl rfl rfl (Nat.le_of_ble_eq_true rfl) d_X_groupOf_2 ⟨Nat.le_of_ble_eq_true rfl, Nat.le_of_ble_eq_true rfl⟩ ?_
  rintro v9 u9 s9 ⟨h9, hu9, hs9⟩; rw [h9, hu9, hs9]; clear h9 hu9 hs9 v9 u9 s9
  show GW Z _ _ _ ad u sz [(0, .ref (ad x)), (1, .int c), (2, .int a0)] 0 0 5 [.null]
  refine g_astore_nN C d_X_groupOf_5 rfl [(3, .null), (0, .ref (ad x)), (1, .int c), (2, .int a0)] (by decide) rfl ?_
  refine g_aload_nN C d_X_groupOf_6 rfl 0 rfl ?_
  refine g_ifnullN 28 C d_X_groupOf_7 (by decide) ?_
  refine g_iconst (v := (-1)) C d_X_groupOf_28 (by decide) ?_
  exact g_iret C hR hret ⟨rfl, rfl, rfl⟩ d_X_groupOf_29

set_option maxHeartbeats 4000000 in
set_option maxRecDepth 100000 in
theorem k_X_total_no (l : Launch) (X : gX) (ad : Nat → Nat) (u : gW) (sz : Nat) (x nC nB : Nat) (c : Int32) (hx : u x = some (.inr (5, [.ref (ad (x + 1)), .ref (ad (x + 2)), .ref (ad (x + 3)), .ref (ad (x + 6)), .int (nI nC), .int (nI nB)]))) (hx2 : u (x + 2) = some (.inl ((X.2 4), 64, .inr (.inr (.inr (.inr (bArr ad x nB))))))) (h : isMb c (nI nB) = false) : gMet l (EE X) y_X_total c_X_total 3 (some .long) ({ frames := 1, cells := 0, slots := 0, locals := 21 }) [.ref (ad x), .int c] ad u sz (fun v u' sz' => v = some (.long (-1)) ∧ u' = u ∧ sz' = sz) := by
  refine gMet_of "ExpenseClubs" rfl (by decide) (Nat.le_of_ble_eq_true rfl) (lv := [(0, .ref (ad x)), (1, .int c)]) rfl (fun Z hZl C hR hret hname => ?_)
  refine g_aload_n C d_X_total_0 rfl 0 rfl ?_
  refine g_iload_n C d_X_total_1 rfl 1 rfl ?_
  refine g_callV 1 C (k_X_billAt_no _ X ad u sz x nC nB c hx hx2 h) (gmem wd_331 rfl) (gmem wd_333 rfl) (gmem ws_3 rfl) (gmem wd_1 rfl) (gmem wd_334 rfl) ⟨by decide, by decide, by decide +kernel⟩ ⟨Nat.le_of_ble_eq_true rfl, Nat.le_of_ble_eq_true rfl⟩ hx rfl rfl rfl (Nat.le_of_ble_eq_true rfl) d_X_total_2 ⟨Nat.le_of_ble_eq_true rfl, Nat.le_of_ble_eq_true rfl⟩ ?_
  rintro v9 u9 s9 ⟨h9, hu9, hs9⟩; rw [h9, hu9, hs9]; clear h9 hu9 hs9 v9 u9 s9
  show GW Z _ _ _ ad u sz [(0, .ref (ad x)), (1, .int c)] 0 0 5 [.null]
  refine g_astore_nN C d_X_total_5 rfl [(2, .null), (0, .ref (ad x)), (1, .int c)] (by decide) rfl ?_
  refine g_aload_nN C d_X_total_6 rfl 0 rfl ?_
  refine g_ifnonnullN C d_X_total_7 ?_
  refine g_ldc2 C (gmem wd_339 rfl) d_X_total_10 ?_
  refine g_goto 20 C d_X_total_13 (by decide) ?_
  exact g_lret C hR hret ⟨rfl, rfl, rfl⟩ d_X_total_20

set_option maxHeartbeats 4000000 in
set_option maxRecDepth 100000 in
theorem k_X_about_no (l : Launch) (X : gX) (ad : Nat → Nat) (u : gW) (sz : Nat) (x nC nB : Nat) (c a0 a1 : Int32) (hx : u x = some (.inr (5, [.ref (ad (x + 1)), .ref (ad (x + 2)), .ref (ad (x + 3)), .ref (ad (x + 6)), .int (nI nC), .int (nI nB)]))) (hx2 : u (x + 2) = some (.inl ((X.2 4), 64, .inr (.inr (.inr (.inr (bArr ad x nB))))))) (h : isMb c (nI nB) = false) : gMet l (EE X) y_X_about c_X_about 5 (some .long) ({ frames := 1, cells := 0, slots := 0, locals := 21 }) [.ref (ad x), .int c, .int a0, .int a1] ad u sz (fun v u' sz' => v = some (.long (-1)) ∧ u' = u ∧ sz' = sz) := by
  refine gMet_of "ExpenseClubs" rfl (by decide) (Nat.le_of_ble_eq_true rfl) (lv := [(0, .ref (ad x)), (1, .int c), (2, .int a0), (3, .int a1)]) rfl (fun Z hZl C hR hret hname => ?_)
  refine g_aload_n C d_X_about_0 rfl 0 rfl ?_
  refine g_iload_n C d_X_about_1 rfl 1 rfl ?_
  refine g_callV 1 C (k_X_billAt_no _ X ad u sz x nC nB c hx hx2 h) (gmem wd_331 rfl) (gmem wd_333 rfl) (gmem ws_3 rfl) (gmem wd_1 rfl) (gmem wd_334 rfl) ⟨by decide, by decide, by decide +kernel⟩ ⟨Nat.le_of_ble_eq_true rfl, Nat.le_of_ble_eq_true rfl⟩ hx rfl rfl rfl (Nat.le_of_ble_eq_true rfl) d_X_about_2 ⟨Nat.le_of_ble_eq_true rfl, Nat.le_of_ble_eq_true rfl⟩ ?_
  rintro v9 u9 s9 ⟨h9, hu9, hs9⟩; rw [h9, hu9, hs9]; clear h9 hu9 hs9 v9 u9 s9
  show GW Z _ _ _ ad u sz [(0, .ref (ad x)), (1, .int c), (2, .int a0), (3, .int a1)] 0 0 5 [.null]
  refine g_astoreN C d_X_about_5 [(4, .null), (0, .ref (ad x)), (1, .int c), (2, .int a0), (3, .int a1)] (by decide) rfl ?_
  refine g_aloadN C d_X_about_7 0 rfl ?_
  refine g_ifnullN 21 C d_X_about_9 (by decide) ?_
  refine g_ldc2 C (gmem wd_339 rfl) d_X_about_21 ?_
  exact g_lret C hR hret ⟨rfl, rfl, rfl⟩ d_X_about_24

set_option maxHeartbeats 4000000 in
set_option maxRecDepth 100000 in
theorem k_X_member_ok (l : Launch) (X : gX) (ad : Nat → Nat) (u : gW) (sz : Nat) (x nC nB k : Nat) (mc go mk : Int32) (hx : u x = some (.inr (5, [.ref (ad (x + 1)), .ref (ad (x + 2)), .ref (ad (x + 3)), .ref (ad (x + 6)), .int (nI nC), .int (nI nB)]))) (hx1 : u (x + 1) = some (.inl ((X.2 3), 4, .inr (.inr (.inr (.inr (cArr ad x nC))))))) (hB : u (x + 16 * k + 32) = some (.inr (1, [.ref (ad (x + 16 * k + 32 + 1)), .ref (ad (x + 16 * k + 32 + 2)), .ref (ad (x + 16 * k + 32 + 3)), .int mc, .int go, .int mk]))) (hk : k < nC) (hn : nC ≤ 4) : gMet l (EE X) y_X_member c_X_member 3 (some .int) ({ frames := 1, cells := 0, slots := 0, locals := 21 }) [.ref (ad x), .int (nI k)] ad u sz (fun v u' sz' => sz' = sz ∧ ((mc < 12 ∧ v = some (.int (mc + 1 - 1)) ∧ u' = gup u (x + 16 * k + 32) (.inr (1, [.ref (ad (x + 16 * k + 32 + 1)), .ref (ad (x + 16 * k + 32 + 2)), .ref (ad (x + 16 * k + 32 + 3)), .int (mc + 1), .int go, .int mk]))) ∨ (¬ mc < 12 ∧ v = some (.int (-1)) ∧ u' = u))) := by
  refine gMet_of "ExpenseClubs" rfl (by decide) (Nat.le_of_ble_eq_true rfl) (lv := [(0, .ref (ad x)), (1, .int (nI k))]) rfl (fun Z hZl C hR hret hname => ?_)
  refine g_aload_n C d_X_member_0 rfl 0 rfl ?_
  refine g_iload_n C d_X_member_1 rfl 1 rfl ?_
  refine g_callV 1 C (k_X_clubAt_ok _ X ad u sz x nC nB k hx hx1 hk hn) (gmem wd_189 rfl) (gmem wd_191 rfl) (gmem ws_0 rfl) (gmem wd_1 rfl) (gmem wd_192 rfl) ⟨by decide, by decide, by decide +kernel⟩ ⟨Nat.le_of_ble_eq_true rfl, Nat.le_of_ble_eq_true rfl⟩ hx rfl rfl rfl (Nat.le_of_ble_eq_true rfl) d_X_member_2 ⟨Nat.le_of_ble_eq_true rfl, Nat.le_of_ble_eq_true rfl⟩ ?_
  rintro v9 u9 s9 ⟨h9, hu9, hs9⟩; rw [h9, hu9, hs9]; clear h9 hu9 hs9 v9 u9 s9
  show GW Z _ _ _ ad u sz [(0, .ref (ad x)), (1, .int (nI k))] 0 0 5 [.ref (ad (x + 16 * k + 32))]
  refine g_astore_n C d_X_member_5 rfl [(2, .ref (ad (x + 16 * k + 32))), (0, .ref (ad x)), (1, .int (nI k))] (by decide) rfl ?_
  refine g_aload_n C d_X_member_6 rfl 0 rfl ?_
  refine g_ifnull C d_X_member_7 ?_
  refine g_aload_n C d_X_member_10 rfl 0 rfl ?_
  refine g_get (x + 16 * k + 32) 3 C hB rfl i_C (by decide) (gmem wd_167 rfl) rfl rfl d_X_member_11 ?_
  refine g_bipush (v := 12) C d_X_member_14 (by decide) ?_
  refine g_icmp_lt 21 C d_X_member_16 (by decide) (fun c16 => ?_) (fun c16 => ?_)
  · skip
    refine g_aload_n C d_X_member_21 rfl 0 rfl ?_
    refine g_dup C d_X_member_22 rfl ?_
    refine g_get (x + 16 * k + 32) 3 C hB rfl i_C (by decide) (gmem wd_167 rfl) rfl rfl d_X_member_23 ?_
    refine g_iconst (v := 1) C d_X_member_26 (by decide) ?_
    refine g_iadd C d_X_member_27 ?_
    refine g_topi (fun x28 ex28 => ?_)
    refine g_put (x + 16 * k + 32) 3 C hB rfl i_C t_C t_C_ok n_C (by decide) (gmem wd_167 rfl) rfl rfl rfl rfl (Nat.le_of_ble_eq_true rfl) d_X_member_28 ?_
    show GW Z _ _ _ ad (gup u (x + 16 * k + 32) (.inr (1, [.ref (ad (x + 16 * k + 32 + 1)), .ref (ad (x + 16 * k + 32 + 2)), .ref (ad (x + 16 * k + 32 + 3)), .int x28, .int go, .int mk]))) _ _ _ _ _ _
    obtain ⟨u1, hu1⟩ : ∃ z, z = gup u (x + 16 * k + 32) (.inr (1, [.ref (ad (x + 16 * k + 32 + 1)), .ref (ad (x + 16 * k + 32 + 2)), .ref (ad (x + 16 * k + 32 + 3)), .int x28, .int go, .int mk])) := ⟨_, rfl⟩
    rw [← hu1]
    have hu1_0 : u1 x = some (.inr (5, [.ref (ad (x + 1)), .ref (ad (x + 2)), .ref (ad (x + 3)), .ref (ad (x + 6)), .int (nI nC), .int (nI nB)])) := by rw [hu1, gup_ne (by omega)]; exact hx
    have hu1_1 : u1 (x + 1) = some (.inl ((X.2 3), 4, .inr (.inr (.inr (.inr (cArr ad x nC)))))) := by rw [hu1, gup_ne (by omega)]; exact hx1
    have hu1_2 : u1 (x + 16 * k + 32) = some (.inr (1, [.ref (ad (x + 16 * k + 32 + 1)), .ref (ad (x + 16 * k + 32 + 2)), .ref (ad (x + 16 * k + 32 + 3)), .int x28, .int go, .int mk])) := by rw [hu1]; exact gup_self _ _ _
    refine g_aload_n C d_X_member_31 rfl 0 rfl ?_
    refine g_get (x + 16 * k + 32) 3 C hu1_2 rfl i_C (by decide) (gmem wd_167 rfl) rfl rfl d_X_member_32 ?_
    refine g_iconst (v := 1) C d_X_member_35 (by decide) ?_
    refine g_isub C d_X_member_36 ?_
    exact g_iret C hR hret ⟨rfl, Or.inl ⟨c16, by simp only [ex28], (by first | (rw [hu1]; done) | (rw [hu1]; simp only [ex28]; done) | (rw [hu1]; simp only [ex28]; funext k; simp only [gup]; (repeat' split) <;> first | with_reducible rfl | (exfalso; omega)))⟩⟩ d_X_member_37
  · skip
    refine g_iconst (v := (-1)) C d_X_member_19 (by decide) ?_
    exact g_iret C hR hret ⟨rfl, Or.inr ⟨c16, rfl, rfl⟩⟩ d_X_member_20

set_option maxHeartbeats 4000000 in
set_option maxRecDepth 100000 in
theorem k_X_balance_ok (l : Launch) (X : gX) (ad : Nat → Nat) (u : gW) (sz : Nat) (x nC nB k : Nat) (mc go mk : Int32) (bal : Nat → Int64) (y : Int32) (hx : u x = some (.inr (5, [.ref (ad (x + 1)), .ref (ad (x + 2)), .ref (ad (x + 3)), .ref (ad (x + 6)), .int (nI nC), .int (nI nB)]))) (hx1 : u (x + 1) = some (.inl ((X.2 3), 4, .inr (.inr (.inr (.inr (cArr ad x nC))))))) (hB : u (x + 16 * k + 32) = some (.inr (1, [.ref (ad (x + 16 * k + 32 + 1)), .ref (ad (x + 16 * k + 32 + 2)), .ref (ad (x + 16 * k + 32 + 3)), .int mc, .int go, .int mk]))) (hB1 : u (x + 16 * k + 32 + 1) = some (.inl ((X.2 1), 12, .inr (.inl bal)))) (hk : k < nC) (hn : nC ≤ 4) (hmc : mc ≤ 12) : gMet l (EE X) y_X_balance c_X_balance 4 (some .long) ({ frames := 1, cells := 0, slots := 0, locals := 21 }) [.ref (ad x), .int (nI k), .int y] ad u sz (fun v u' sz' => v = some (.long (if isMb y mc = true then bal y.toNatClampNeg else 0)) ∧ u' = u ∧ sz' = sz) := by
  refine gMet_of "ExpenseClubs" rfl (by decide) (Nat.le_of_ble_eq_true rfl) (lv := [(0, .ref (ad x)), (1, .int (nI k)), (2, .int y)]) rfl (fun Z hZl C hR hret hname => ?_)
  refine g_aload_n C d_X_balance_0 rfl 0 rfl ?_
  refine g_iload_n C d_X_balance_1 rfl 1 rfl ?_
  refine g_callV 1 C (k_X_clubAt_ok _ X ad u sz x nC nB k hx hx1 hk hn) (gmem wd_189 rfl) (gmem wd_191 rfl) (gmem ws_0 rfl) (gmem wd_1 rfl) (gmem wd_192 rfl) ⟨by decide, by decide, by decide +kernel⟩ ⟨Nat.le_of_ble_eq_true rfl, Nat.le_of_ble_eq_true rfl⟩ hx rfl rfl rfl (Nat.le_of_ble_eq_true rfl) d_X_balance_2 ⟨Nat.le_of_ble_eq_true rfl, Nat.le_of_ble_eq_true rfl⟩ ?_
  rintro v9 u9 s9 ⟨h9, hu9, hs9⟩; rw [h9, hu9, hs9]; clear h9 hu9 hs9 v9 u9 s9
  show GW Z _ _ _ ad u sz [(0, .ref (ad x)), (1, .int (nI k)), (2, .int y)] 0 0 5 [.ref (ad (x + 16 * k + 32))]
  refine g_astore_n C d_X_balance_5 rfl [(3, .ref (ad (x + 16 * k + 32))), (0, .ref (ad x)), (1, .int (nI k)), (2, .int y)] (by decide) rfl ?_
  refine g_aload_n C d_X_balance_6 rfl 0 rfl ?_
  refine g_ifnull C d_X_balance_7 ?_
  refine g_aload_n C d_X_balance_10 rfl 0 rfl ?_
  refine g_iload_n C d_X_balance_11 rfl 3 rfl ?_
  refine g_callV 1 C (k_C_isMember _ X ad u sz (x + 16 * k + 32) _ _ _ mc go mk y hB) (gmem wd_348 rfl) (gmem wd_202 rfl) (gmem wd_203 rfl) (gmem wd_5 rfl) (gmem wd_204 rfl) ⟨by decide, by decide, by decide +kernel⟩ ⟨Nat.le_of_ble_eq_true rfl, Nat.le_of_ble_eq_true rfl⟩ hB rfl rfl rfl (Nat.le_of_ble_eq_true rfl) d_X_balance_12 ⟨Nat.le_of_ble_eq_true rfl, Nat.le_of_ble_eq_true rfl⟩ ?_
  rintro v9 u9 s9 ⟨h9, hu9, hs9⟩; rw [h9, hu9, hs9]; clear h9 hu9 hs9 v9 u9 s9
  show GW Z _ _ _ ad u sz [(3, .ref (ad (x + 16 * k + 32))), (0, .ref (ad x)), (1, .int (nI k)), (2, .int y)] 0 0 15 [.int (bI (isMb y mc))]
  refine g_if_ne 22 C d_X_balance_15 (by decide) (fun c15 => ?_) (fun c15 => ?_)
  · skip
    refine g_aload_n C d_X_balance_22 rfl 0 rfl ?_
    refine g_get (x + 16 * k + 32) 0 C hB rfl i_C (by decide) (gmem wd_161 rfl) rfl rfl d_X_balance_23 ?_
    refine g_iload_n C d_X_balance_26 rfl 3 rfl ?_
    refine g_lald (x + 16 * k + 32 + 1) 1 C hB1 rfl (in12m (bI_ne0.mp c15) hmc) d_X_balance_27 ?_
    exact g_lret C hR hret ⟨by rw [if_pos (bI_ne0.mp c15)], rfl, rfl⟩ d_X_balance_28
  · skip
    refine g_lconst (v := 0) C d_X_balance_18 (by decide) ?_
    refine g_goto 28 C d_X_balance_19 (by decide) ?_
    exact g_lret C hR hret ⟨by rw [if_neg (by rw [bI_eq0.mp c15]; decide)], rfl, rfl⟩ d_X_balance_28

set_option maxHeartbeats 4000000 in
set_option maxRecDepth 100000 in
theorem k_X_drift_ok (l : Launch) (X : gX) (ad : Nat → Nat) (u : gW) (sz : Nat) (x nC nB k : Nat) (mc go mk : Int32) (dri : Nat → Int64) (y : Int32) (hx : u x = some (.inr (5, [.ref (ad (x + 1)), .ref (ad (x + 2)), .ref (ad (x + 3)), .ref (ad (x + 6)), .int (nI nC), .int (nI nB)]))) (hx1 : u (x + 1) = some (.inl ((X.2 3), 4, .inr (.inr (.inr (.inr (cArr ad x nC))))))) (hB : u (x + 16 * k + 32) = some (.inr (1, [.ref (ad (x + 16 * k + 32 + 1)), .ref (ad (x + 16 * k + 32 + 2)), .ref (ad (x + 16 * k + 32 + 3)), .int mc, .int go, .int mk]))) (hB1 : u (x + 16 * k + 32 + 2) = some (.inl ((X.2 1), 12, .inr (.inl dri)))) (hk : k < nC) (hn : nC ≤ 4) (hmc : mc ≤ 12) : gMet l (EE X) y_X_drift c_X_drift 4 (some .long) ({ frames := 1, cells := 0, slots := 0, locals := 21 }) [.ref (ad x), .int (nI k), .int y] ad u sz (fun v u' sz' => v = some (.long (if isMb y mc = true then dri y.toNatClampNeg else 0)) ∧ u' = u ∧ sz' = sz) := by
  refine gMet_of "ExpenseClubs" rfl (by decide) (Nat.le_of_ble_eq_true rfl) (lv := [(0, .ref (ad x)), (1, .int (nI k)), (2, .int y)]) rfl (fun Z hZl C hR hret hname => ?_)
  refine g_aload_n C d_X_drift_0 rfl 0 rfl ?_
  refine g_iload_n C d_X_drift_1 rfl 1 rfl ?_
  refine g_callV 1 C (k_X_clubAt_ok _ X ad u sz x nC nB k hx hx1 hk hn) (gmem wd_189 rfl) (gmem wd_191 rfl) (gmem ws_0 rfl) (gmem wd_1 rfl) (gmem wd_192 rfl) ⟨by decide, by decide, by decide +kernel⟩ ⟨Nat.le_of_ble_eq_true rfl, Nat.le_of_ble_eq_true rfl⟩ hx rfl rfl rfl (Nat.le_of_ble_eq_true rfl) d_X_drift_2 ⟨Nat.le_of_ble_eq_true rfl, Nat.le_of_ble_eq_true rfl⟩ ?_
  rintro v9 u9 s9 ⟨h9, hu9, hs9⟩; rw [h9, hu9, hs9]; clear h9 hu9 hs9 v9 u9 s9
  show GW Z _ _ _ ad u sz [(0, .ref (ad x)), (1, .int (nI k)), (2, .int y)] 0 0 5 [.ref (ad (x + 16 * k + 32))]
  refine g_astore_n C d_X_drift_5 rfl [(3, .ref (ad (x + 16 * k + 32))), (0, .ref (ad x)), (1, .int (nI k)), (2, .int y)] (by decide) rfl ?_
  refine g_aload_n C d_X_drift_6 rfl 0 rfl ?_
  refine g_ifnull C d_X_drift_7 ?_
  refine g_aload_n C d_X_drift_10 rfl 0 rfl ?_
  refine g_iload_n C d_X_drift_11 rfl 3 rfl ?_
  refine g_callV 1 C (k_C_isMember _ X ad u sz (x + 16 * k + 32) _ _ _ mc go mk y hB) (gmem wd_348 rfl) (gmem wd_202 rfl) (gmem wd_203 rfl) (gmem wd_5 rfl) (gmem wd_204 rfl) ⟨by decide, by decide, by decide +kernel⟩ ⟨Nat.le_of_ble_eq_true rfl, Nat.le_of_ble_eq_true rfl⟩ hB rfl rfl rfl (Nat.le_of_ble_eq_true rfl) d_X_drift_12 ⟨Nat.le_of_ble_eq_true rfl, Nat.le_of_ble_eq_true rfl⟩ ?_
  rintro v9 u9 s9 ⟨h9, hu9, hs9⟩; rw [h9, hu9, hs9]; clear h9 hu9 hs9 v9 u9 s9
  show GW Z _ _ _ ad u sz [(3, .ref (ad (x + 16 * k + 32))), (0, .ref (ad x)), (1, .int (nI k)), (2, .int y)] 0 0 15 [.int (bI (isMb y mc))]
  refine g_if_ne 22 C d_X_drift_15 (by decide) (fun c15 => ?_) (fun c15 => ?_)
  · skip
    refine g_aload_n C d_X_drift_22 rfl 0 rfl ?_
    refine g_get (x + 16 * k + 32) 1 C hB rfl i_C (by decide) (gmem wd_163 rfl) rfl rfl d_X_drift_23 ?_
    refine g_iload_n C d_X_drift_26 rfl 3 rfl ?_
    refine g_lald (x + 16 * k + 32 + 2) 1 C hB1 rfl (in12m (bI_ne0.mp c15) hmc) d_X_drift_27 ?_
    exact g_lret C hR hret ⟨by rw [if_pos (bI_ne0.mp c15)], rfl, rfl⟩ d_X_drift_28
  · skip
    refine g_lconst (v := 0) C d_X_drift_18 (by decide) ?_
    refine g_goto 28 C d_X_drift_19 (by decide) ?_
    exact g_lret C hR hret ⟨by rw [if_neg (by rw [bI_eq0.mp c15]; decide)], rfl, rfl⟩ d_X_drift_28

set_option maxHeartbeats 4000000 in
set_option maxRecDepth 100000 in
theorem k_X_giveUp_ok (l : Launch) (X : gX) (ad : Nat → Nat) (u : gW) (sz : Nat) (x nC nB k : Nat) (mc go mk : Int32) (op gc tc wa : Int32) (hx : u x = some (.inr (5, [.ref (ad (x + 1)), .ref (ad (x + 2)), .ref (ad (x + 3)), .ref (ad (x + 6)), .int (nI nC), .int (nI nB)]))) (hx1 : u (x + 1) = some (.inl ((X.2 3), 4, .inr (.inr (.inr (.inr (cArr ad x nC))))))) (hB : u (x + 16 * k + 32) = some (.inr (1, [.ref (ad (x + 16 * k + 32 + 1)), .ref (ad (x + 16 * k + 32 + 2)), .ref (ad (x + 16 * k + 32 + 3)), .int mc, .int go, .int mk]))) (hB3 : u (x + 16 * k + 32 + 3) = some (.inr (4, [.ref (ad (x + 16 * k + 32 + 3 + 1)), .ref (ad (x + 16 * k + 32 + 3 + 2)), .ref (ad (x + 16 * k + 32 + 3 + 3)), .ref (ad (x + 16 * k + 32 + 3 + 4)), .ref (ad (x + 16 * k + 32 + 3 + 5)), .int op, .int gc, .int tc, .int wa]))) (hk : k < nC) (hn : nC ≤ 4) : gMet l (EE X) y_X_giveUp c_X_giveUp 3 (some .int) ({ frames := 1, cells := 0, slots := 0, locals := 21 }) [.ref (ad x), .int (nI k)] ad u sz (fun v u' sz' => sz' = sz ∧ (((!decide (op = 0)) = true ∧ v = some (.int wa) ∧ u' = gup u (x + 16 * k + 32 + 3) (.inr (4, [.ref (ad (x + 16 * k + 32 + 3 + 1)), .ref (ad (x + 16 * k + 32 + 3 + 2)), .ref (ad (x + 16 * k + 32 + 3 + 3)), .ref (ad (x + 16 * k + 32 + 3 + 4)), .ref (ad (x + 16 * k + 32 + 3 + 5)), .int 0, .int gc, .int tc, .int wa]))) ∨ ((!decide (op = 0)) = false ∧ v = some (.int (-1)) ∧ u' = u))) := by
  refine gMet_of "ExpenseClubs" rfl (by decide) (Nat.le_of_ble_eq_true rfl) (lv := [(0, .ref (ad x)), (1, .int (nI k))]) rfl (fun Z hZl C hR hret hname => ?_)
  refine g_aload_n C d_X_giveUp_0 rfl 0 rfl ?_
  refine g_iload_n C d_X_giveUp_1 rfl 1 rfl ?_
  refine g_callV 1 C (k_X_clubAt_ok _ X ad u sz x nC nB k hx hx1 hk hn) (gmem wd_189 rfl) (gmem wd_191 rfl) (gmem ws_0 rfl) (gmem wd_1 rfl) (gmem wd_192 rfl) ⟨by decide, by decide, by decide +kernel⟩ ⟨Nat.le_of_ble_eq_true rfl, Nat.le_of_ble_eq_true rfl⟩ hx rfl rfl rfl (Nat.le_of_ble_eq_true rfl) d_X_giveUp_2 ⟨Nat.le_of_ble_eq_true rfl, Nat.le_of_ble_eq_true rfl⟩ ?_
  rintro v9 u9 s9 ⟨h9, hu9, hs9⟩; rw [h9, hu9, hs9]; clear h9 hu9 hs9 v9 u9 s9
  show GW Z _ _ _ ad u sz [(0, .ref (ad x)), (1, .int (nI k))] 0 0 5 [.ref (ad (x + 16 * k + 32))]
  refine g_astore_n C d_X_giveUp_5 rfl [(2, .ref (ad (x + 16 * k + 32))), (0, .ref (ad x)), (1, .int (nI k))] (by decide) rfl ?_
  refine g_aload_n C d_X_giveUp_6 rfl 0 rfl ?_
  refine g_ifnull C d_X_giveUp_7 ?_
  refine g_aload_n C d_X_giveUp_10 rfl 0 rfl ?_
  refine g_get (x + 16 * k + 32) 2 C hB rfl i_C (by decide) (gmem wd_165 rfl) rfl rfl d_X_giveUp_11 ?_
  refine g_get (x + 16 * k + 32 + 3) 5 C hB3 rfl i_S (by decide) (gmem wd_131 rfl) rfl rfl d_X_giveUp_14 ?_
  refine g_if_ne 22 C d_X_giveUp_17 (by decide) (fun c17 => ?_) (fun c17 => ?_)
  · skip
    refine g_aload_n C d_X_giveUp_22 rfl 0 rfl ?_
    refine g_get (x + 16 * k + 32) 2 C hB rfl i_C (by decide) (gmem wd_165 rfl) rfl rfl d_X_giveUp_23 ?_
    refine g_iconst (v := 0) C d_X_giveUp_26 (by decide) ?_
    refine g_put (x + 16 * k + 32 + 3) 5 C hB3 rfl i_S t_S t_S_ok n_S (by decide) (gmem wd_131 rfl) rfl rfl rfl rfl (Nat.le_of_ble_eq_true rfl) d_X_giveUp_27 ?_
    show GW Z _ _ _ ad (gup u (x + 16 * k + 32 + 3) (.inr (4, [.ref (ad (x + 16 * k + 32 + 3 + 1)), .ref (ad (x + 16 * k + 32 + 3 + 2)), .ref (ad (x + 16 * k + 32 + 3 + 3)), .ref (ad (x + 16 * k + 32 + 3 + 4)), .ref (ad (x + 16 * k + 32 + 3 + 5)), .int 0, .int gc, .int tc, .int wa]))) _ _ _ _ _ _
    obtain ⟨u1, hu1⟩ : ∃ z, z = gup u (x + 16 * k + 32 + 3) (.inr (4, [.ref (ad (x + 16 * k + 32 + 3 + 1)), .ref (ad (x + 16 * k + 32 + 3 + 2)), .ref (ad (x + 16 * k + 32 + 3 + 3)), .ref (ad (x + 16 * k + 32 + 3 + 4)), .ref (ad (x + 16 * k + 32 + 3 + 5)), .int 0, .int gc, .int tc, .int wa])) := ⟨_, rfl⟩
    rw [← hu1]
    have hu1_0 : u1 x = some (.inr (5, [.ref (ad (x + 1)), .ref (ad (x + 2)), .ref (ad (x + 3)), .ref (ad (x + 6)), .int (nI nC), .int (nI nB)])) := by rw [hu1, gup_ne (by omega)]; exact hx
    have hu1_1 : u1 (x + 1) = some (.inl ((X.2 3), 4, .inr (.inr (.inr (.inr (cArr ad x nC)))))) := by rw [hu1, gup_ne (by omega)]; exact hx1
    have hu1_2 : u1 (x + 16 * k + 32) = some (.inr (1, [.ref (ad (x + 16 * k + 32 + 1)), .ref (ad (x + 16 * k + 32 + 2)), .ref (ad (x + 16 * k + 32 + 3)), .int mc, .int go, .int mk])) := by rw [hu1, gup_ne (by omega)]; exact hB
    have hu1_3 : u1 (x + 16 * k + 32 + 3) = some (.inr (4, [.ref (ad (x + 16 * k + 32 + 3 + 1)), .ref (ad (x + 16 * k + 32 + 3 + 2)), .ref (ad (x + 16 * k + 32 + 3 + 3)), .ref (ad (x + 16 * k + 32 + 3 + 4)), .ref (ad (x + 16 * k + 32 + 3 + 5)), .int 0, .int gc, .int tc, .int wa])) := by rw [hu1]; exact gup_self _ _ _
    refine g_aload_n C d_X_giveUp_30 rfl 0 rfl ?_
    refine g_get (x + 16 * k + 32) 2 C hu1_2 rfl i_C (by decide) (gmem wd_165 rfl) rfl rfl d_X_giveUp_31 ?_
    refine g_get (x + 16 * k + 32 + 3) 8 C hu1_3 rfl i_S (by decide) (gmem wd_139 rfl) rfl rfl d_X_giveUp_34 ?_
    exact g_iret C hR hret ⟨rfl, Or.inl ⟨by simp only [decide_eq_false c17, if_neg c17, Bool.not_true, Bool.not_false, Bool.and_true, Bool.true_and, Bool.false_and, Bool.and_false, bI_t, bI_f], rfl, (by first | (rw [hu1]; done) | (rw [hu1]; funext k; simp only [gup]; (repeat' split) <;> first | with_reducible rfl | (exfalso; omega)))⟩⟩ d_X_giveUp_37
  · skip
    refine g_iconst (v := (-1)) C d_X_giveUp_20 (by decide) ?_
    exact g_iret C hR hret ⟨rfl, Or.inr ⟨by simp only [decide_eq_true c17, if_pos c17, Bool.not_true, Bool.not_false, Bool.and_true, Bool.true_and, Bool.false_and, Bool.and_false, bI_t, bI_f], rfl, rfl⟩⟩ d_X_giveUp_21

set_option maxHeartbeats 4000000 in
set_option maxRecDepth 100000 in
theorem k_X_close_ok (l : Launch) (X : gX) (ad : Nat → Nat) (u : gW) (sz : Nat) (x nC nB k : Nat) (mc go mk : Int32) (op gc tc wa : Int32) (hx : u x = some (.inr (5, [.ref (ad (x + 1)), .ref (ad (x + 2)), .ref (ad (x + 3)), .ref (ad (x + 6)), .int (nI nC), .int (nI nB)]))) (hx1 : u (x + 1) = some (.inl ((X.2 3), 4, .inr (.inr (.inr (.inr (cArr ad x nC))))))) (hB : u (x + 16 * k + 32) = some (.inr (1, [.ref (ad (x + 16 * k + 32 + 1)), .ref (ad (x + 16 * k + 32 + 2)), .ref (ad (x + 16 * k + 32 + 3)), .int mc, .int go, .int mk]))) (hB3 : u (x + 16 * k + 32 + 3) = some (.inr (4, [.ref (ad (x + 16 * k + 32 + 3 + 1)), .ref (ad (x + 16 * k + 32 + 3 + 2)), .ref (ad (x + 16 * k + 32 + 3 + 3)), .ref (ad (x + 16 * k + 32 + 3 + 4)), .ref (ad (x + 16 * k + 32 + 3 + 5)), .int op, .int gc, .int tc, .int wa]))) (hk : k < nC) (hn : nC ≤ 4) : gMet l (EE X) y_X_close c_X_close 3 (some .boolean) ({ frames := 1, cells := 0, slots := 0, locals := 21 }) [.ref (ad x), .int (nI k)] ad u sz (fun v u' sz' => sz' = sz ∧ (((!decide (op = 0) && decide (wa = 0)) = true ∧ v = some (.int 1) ∧ u' = gup u (x + 16 * k + 32 + 3) (.inr (4, [.ref (ad (x + 16 * k + 32 + 3 + 1)), .ref (ad (x + 16 * k + 32 + 3 + 2)), .ref (ad (x + 16 * k + 32 + 3 + 3)), .ref (ad (x + 16 * k + 32 + 3 + 4)), .ref (ad (x + 16 * k + 32 + 3 + 5)), .int 0, .int gc, .int tc, .int wa]))) ∨ ((!decide (op = 0) && decide (wa = 0)) = false ∧ v = some (.int 0) ∧ u' = u))) := by
  refine gMet_of "ExpenseClubs" rfl (by decide) (Nat.le_of_ble_eq_true rfl) (lv := [(0, .ref (ad x)), (1, .int (nI k))]) rfl (fun Z hZl C hR hret hname => ?_)
  refine g_aload_n C d_X_close_0 rfl 0 rfl ?_
  refine g_iload_n C d_X_close_1 rfl 1 rfl ?_
  refine g_callV 1 C (k_X_clubAt_ok _ X ad u sz x nC nB k hx hx1 hk hn) (gmem wd_189 rfl) (gmem wd_191 rfl) (gmem ws_0 rfl) (gmem wd_1 rfl) (gmem wd_192 rfl) ⟨by decide, by decide, by decide +kernel⟩ ⟨Nat.le_of_ble_eq_true rfl, Nat.le_of_ble_eq_true rfl⟩ hx rfl rfl rfl (Nat.le_of_ble_eq_true rfl) d_X_close_2 ⟨Nat.le_of_ble_eq_true rfl, Nat.le_of_ble_eq_true rfl⟩ ?_
  rintro v9 u9 s9 ⟨h9, hu9, hs9⟩; rw [h9, hu9, hs9]; clear h9 hu9 hs9 v9 u9 s9
  show GW Z _ _ _ ad u sz [(0, .ref (ad x)), (1, .int (nI k))] 0 0 5 [.ref (ad (x + 16 * k + 32))]
  refine g_astore_n C d_X_close_5 rfl [(2, .ref (ad (x + 16 * k + 32))), (0, .ref (ad x)), (1, .int (nI k))] (by decide) rfl ?_
  refine g_aload_n C d_X_close_6 rfl 0 rfl ?_
  refine g_ifnull C d_X_close_7 ?_
  refine g_aload_n C d_X_close_10 rfl 0 rfl ?_
  refine g_get (x + 16 * k + 32) 2 C hB rfl i_C (by decide) (gmem wd_165 rfl) rfl rfl d_X_close_11 ?_
  refine g_get (x + 16 * k + 32 + 3) 5 C hB3 rfl i_S (by decide) (gmem wd_131 rfl) rfl rfl d_X_close_14 ?_
  refine g_if_eq 30 C d_X_close_17 (by decide) (fun c17 => ?_) (fun c17 => ?_)
  · skip
    refine g_iconst (v := 0) C d_X_close_30 (by decide) ?_
    exact g_zret C hR hret rfl ⟨rfl, Or.inr ⟨by simp only [decide_eq_true c17, if_pos c17, Bool.not_true, Bool.not_false, Bool.and_true, Bool.true_and, Bool.false_and, Bool.and_false, bI_t, bI_f], rfl, rfl⟩⟩ d_X_close_31
  · skip
    refine g_aload_n C d_X_close_20 rfl 0 rfl ?_
    refine g_get (x + 16 * k + 32) 2 C hB rfl i_C (by decide) (gmem wd_165 rfl) rfl rfl d_X_close_21 ?_
    refine g_get (x + 16 * k + 32 + 3) 8 C hB3 rfl i_S (by decide) (gmem wd_139 rfl) rfl rfl d_X_close_24 ?_
    refine g_if_eq 32 C d_X_close_27 (by decide) (fun c27 => ?_) (fun c27 => ?_)
    · skip
      refine g_aload_n C d_X_close_32 rfl 0 rfl ?_
      refine g_get (x + 16 * k + 32) 2 C hB rfl i_C (by decide) (gmem wd_165 rfl) rfl rfl d_X_close_33 ?_
      refine g_iconst (v := 0) C d_X_close_36 (by decide) ?_
      refine g_put (x + 16 * k + 32 + 3) 5 C hB3 rfl i_S t_S t_S_ok n_S (by decide) (gmem wd_131 rfl) rfl rfl rfl rfl (Nat.le_of_ble_eq_true rfl) d_X_close_37 ?_
      show GW Z _ _ _ ad (gup u (x + 16 * k + 32 + 3) (.inr (4, [.ref (ad (x + 16 * k + 32 + 3 + 1)), .ref (ad (x + 16 * k + 32 + 3 + 2)), .ref (ad (x + 16 * k + 32 + 3 + 3)), .ref (ad (x + 16 * k + 32 + 3 + 4)), .ref (ad (x + 16 * k + 32 + 3 + 5)), .int 0, .int gc, .int tc, .int wa]))) _ _ _ _ _ _
      obtain ⟨u1, hu1⟩ : ∃ z, z = gup u (x + 16 * k + 32 + 3) (.inr (4, [.ref (ad (x + 16 * k + 32 + 3 + 1)), .ref (ad (x + 16 * k + 32 + 3 + 2)), .ref (ad (x + 16 * k + 32 + 3 + 3)), .ref (ad (x + 16 * k + 32 + 3 + 4)), .ref (ad (x + 16 * k + 32 + 3 + 5)), .int 0, .int gc, .int tc, .int wa])) := ⟨_, rfl⟩
      rw [← hu1]
      have hu1_0 : u1 x = some (.inr (5, [.ref (ad (x + 1)), .ref (ad (x + 2)), .ref (ad (x + 3)), .ref (ad (x + 6)), .int (nI nC), .int (nI nB)])) := by rw [hu1, gup_ne (by omega)]; exact hx
      have hu1_1 : u1 (x + 1) = some (.inl ((X.2 3), 4, .inr (.inr (.inr (.inr (cArr ad x nC)))))) := by rw [hu1, gup_ne (by omega)]; exact hx1
      have hu1_2 : u1 (x + 16 * k + 32) = some (.inr (1, [.ref (ad (x + 16 * k + 32 + 1)), .ref (ad (x + 16 * k + 32 + 2)), .ref (ad (x + 16 * k + 32 + 3)), .int mc, .int go, .int mk])) := by rw [hu1, gup_ne (by omega)]; exact hB
      have hu1_3 : u1 (x + 16 * k + 32 + 3) = some (.inr (4, [.ref (ad (x + 16 * k + 32 + 3 + 1)), .ref (ad (x + 16 * k + 32 + 3 + 2)), .ref (ad (x + 16 * k + 32 + 3 + 3)), .ref (ad (x + 16 * k + 32 + 3 + 4)), .ref (ad (x + 16 * k + 32 + 3 + 5)), .int 0, .int gc, .int tc, .int wa])) := by rw [hu1]; exact gup_self _ _ _
      refine g_iconst (v := 1) C d_X_close_40 (by decide) ?_
      exact g_zret C hR hret rfl ⟨rfl, Or.inl ⟨by simp only [decide_eq_false c17, if_neg c17, decide_eq_true c27, if_pos c27, Bool.not_true, Bool.not_false, Bool.and_true, Bool.true_and, Bool.false_and, Bool.and_false, bI_t, bI_f], rfl, (by first | (rw [hu1]; done) | (rw [hu1]; funext k; simp only [gup]; (repeat' split) <;> first | with_reducible rfl | (exfalso; omega)))⟩⟩ d_X_close_41
    · skip
      refine g_iconst (v := 0) C d_X_close_30 (by decide) ?_
      exact g_zret C hR hret rfl ⟨rfl, Or.inr ⟨by simp only [decide_eq_false c17, if_neg c17, decide_eq_false c27, if_neg c27, Bool.not_true, Bool.not_false, Bool.and_true, Bool.true_and, Bool.false_and, Bool.and_false, bI_t, bI_f], rfl, rfl⟩⟩ d_X_close_31

set_option maxHeartbeats 4000000 in
set_option maxRecDepth 100000 in
theorem k_X_groupOf_ok (l : Launch) (X : gX) (ad : Nat → Nat) (u : gW) (sz : Nat) (x nC nB k : Nat) (mc go mk : Int32) (op gc tc wa : Int32) (gr : Nat → Int32) (y : Int32) (hx : u x = some (.inr (5, [.ref (ad (x + 1)), .ref (ad (x + 2)), .ref (ad (x + 3)), .ref (ad (x + 6)), .int (nI nC), .int (nI nB)]))) (hx1 : u (x + 1) = some (.inl ((X.2 3), 4, .inr (.inr (.inr (.inr (cArr ad x nC))))))) (hB : u (x + 16 * k + 32) = some (.inr (1, [.ref (ad (x + 16 * k + 32 + 1)), .ref (ad (x + 16 * k + 32 + 2)), .ref (ad (x + 16 * k + 32 + 3)), .int mc, .int go, .int mk]))) (hB3 : u (x + 16 * k + 32 + 3) = some (.inr (4, [.ref (ad (x + 16 * k + 32 + 3 + 1)), .ref (ad (x + 16 * k + 32 + 3 + 2)), .ref (ad (x + 16 * k + 32 + 3 + 3)), .ref (ad (x + 16 * k + 32 + 3 + 4)), .ref (ad (x + 16 * k + 32 + 3 + 5)), .int op, .int gc, .int tc, .int wa]))) (hB31 : u (x + 16 * k + 32 + 3 + 1) = some (.inl ((X.2 0), 12, .inl gr))) (hk : k < nC) (hn : nC ≤ 4) (hmc : mc ≤ 12) : gMet l (EE X) y_X_groupOf c_X_groupOf 4 (some .int) ({ frames := 1, cells := 0, slots := 0, locals := 21 }) [.ref (ad x), .int (nI k), .int y] ad u sz (fun v u' sz' => v = some (.int (if op = 0 then -1 else if isMb y mc = true then gr y.toNatClampNeg else -1)) ∧ u' = u ∧ sz' = sz) := by
  refine gMet_of "ExpenseClubs" rfl (by decide) (Nat.le_of_ble_eq_true rfl) (lv := [(0, .ref (ad x)), (1, .int (nI k)), (2, .int y)]) rfl (fun Z hZl C hR hret hname => ?_)
  refine g_aload_n C d_X_groupOf_0 rfl 0 rfl ?_
  refine g_iload_n C d_X_groupOf_1 rfl 1 rfl ?_
  refine g_callV 1 C (k_X_clubAt_ok _ X ad u sz x nC nB k hx hx1 hk hn) (gmem wd_189 rfl) (gmem wd_191 rfl) (gmem ws_0 rfl) (gmem wd_1 rfl) (gmem wd_192 rfl) ⟨by decide, by decide, by decide +kernel⟩ ⟨Nat.le_of_ble_eq_true rfl, Nat.le_of_ble_eq_true rfl⟩ hx rfl rfl rfl (Nat.le_of_ble_eq_true rfl) d_X_groupOf_2 ⟨Nat.le_of_ble_eq_true rfl, Nat.le_of_ble_eq_true rfl⟩ ?_
  rintro v9 u9 s9 ⟨h9, hu9, hs9⟩; rw [h9, hu9, hs9]; clear h9 hu9 hs9 v9 u9 s9
  show GW Z _ _ _ ad u sz [(0, .ref (ad x)), (1, .int (nI k)), (2, .int y)] 0 0 5 [.ref (ad (x + 16 * k + 32))]
  refine g_astore_n C d_X_groupOf_5 rfl [(3, .ref (ad (x + 16 * k + 32))), (0, .ref (ad x)), (1, .int (nI k)), (2, .int y)] (by decide) rfl ?_
  refine g_aload_n C d_X_groupOf_6 rfl 0 rfl ?_
  refine g_ifnull C d_X_groupOf_7 ?_
  refine g_aload_n C d_X_groupOf_10 rfl 0 rfl ?_
  refine g_get (x + 16 * k + 32) 2 C hB rfl i_C (by decide) (gmem wd_165 rfl) rfl rfl d_X_groupOf_11 ?_
  refine g_get (x + 16 * k + 32 + 3) 5 C hB3 rfl i_S (by decide) (gmem wd_131 rfl) rfl rfl d_X_groupOf_14 ?_
  refine g_if_eq 28 C d_X_groupOf_17 (by decide) (fun c17 => ?_) (fun c17 => ?_)
  · skip
    refine g_iconst (v := (-1)) C d_X_groupOf_28 (by decide) ?_
    exact g_iret C hR hret ⟨by rw [if_pos c17], rfl, rfl⟩ d_X_groupOf_29
  · skip
    refine g_aload_n C d_X_groupOf_20 rfl 0 rfl ?_
    refine g_iload_n C d_X_groupOf_21 rfl 3 rfl ?_
    refine g_callV 1 C (k_C_isMember _ X ad u sz (x + 16 * k + 32) _ _ _ mc go mk y hB) (gmem wd_348 rfl) (gmem wd_202 rfl) (gmem wd_203 rfl) (gmem wd_5 rfl) (gmem wd_204 rfl) ⟨by decide, by decide, by decide +kernel⟩ ⟨Nat.le_of_ble_eq_true rfl, Nat.le_of_ble_eq_true rfl⟩ hB rfl rfl rfl (Nat.le_of_ble_eq_true rfl) d_X_groupOf_22 ⟨Nat.le_of_ble_eq_true rfl, Nat.le_of_ble_eq_true rfl⟩ ?_
    rintro v9 u9 s9 ⟨h9, hu9, hs9⟩; rw [h9, hu9, hs9]; clear h9 hu9 hs9 v9 u9 s9
    show GW Z _ _ _ ad u sz [(3, .ref (ad (x + 16 * k + 32))), (0, .ref (ad x)), (1, .int (nI k)), (2, .int y)] 0 0 25 [.int (bI (isMb y mc))]
    refine g_if_ne 30 C d_X_groupOf_25 (by decide) (fun c25 => ?_) (fun c25 => ?_)
    · skip
      refine g_aload_n C d_X_groupOf_30 rfl 0 rfl ?_
      refine g_get (x + 16 * k + 32) 2 C hB rfl i_C (by decide) (gmem wd_165 rfl) rfl rfl d_X_groupOf_31 ?_
      refine g_get (x + 16 * k + 32 + 3) 0 C hB3 rfl i_S (by decide) (gmem wd_117 rfl) rfl rfl d_X_groupOf_34 ?_
      refine g_iload_n C d_X_groupOf_37 rfl 3 rfl ?_
      refine g_iald (x + 16 * k + 32 + 3 + 1) 0 C hB31 rfl (in12m (bI_ne0.mp c25) hmc) d_X_groupOf_38 ?_
      exact g_iret C hR hret ⟨by rw [if_neg c17, if_pos (bI_ne0.mp c25)], rfl, rfl⟩ d_X_groupOf_39
    · skip
      refine g_iconst (v := (-1)) C d_X_groupOf_28 (by decide) ?_
      exact g_iret C hR hret ⟨by rw [if_neg c17, if_neg (by rw [bI_eq0.mp c25]; decide)], rfl, rfl⟩ d_X_groupOf_29
