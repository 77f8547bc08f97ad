set_option maxHeartbeats 4000000 in
set_option maxRecDepth 100000 in
theorem k_X_transfer_io_no (l : Launch) (X : gX) (ad : Nat → Nat) (u : gW) (sz : Nat) (x nC nB : Nat) (c i w : Int32) (hx : u x = some (.inr (5, [.ref (ad (x + 1)), .ref (ad (x + 2)), .ref (ad (x + 3)), .ref (ad (x + 6)), .int (nI nC), .int (nI nB)]))) (hx1 : u (x + 1) = some (.inl ((X.2 3), 4, .inr (.inr (.inr (.inr (cArr ad x nC))))))) (h : isMb c (nI nC) = false) (htr : noTr l) : gMetT l (EE X) y_X_transfer c_X_transfer 5 (some .long) ({ frames := 6, cells := 1, slots := 6, locals := 82 }) [.ref (ad x), .int c, .int i, .int w] ad u sz "java/lang/IndexOutOfBoundsException" := by
  refine gMetT_of "ExpenseClubs" rfl (by decide) (Nat.le_of_ble_eq_true rfl) (lv := [(0, .ref (ad x)), (1, .int c), (2, .int i), (3, .int w)]) rfl (fun Z hZl C D => ?_)
  refine g_aload_n C d_X_transfer_0 rfl 0 rfl ?_
  refine g_iload_n C d_X_transfer_1 rfl 1 rfl ?_
  refine g_callV 1 C (k_X_clubAt_no _ X ad u sz x nC nB c hx hx1 h) (gmem wd_189 rfl) (gmem wd_191 rfl) (gmem ws_0 rfl) (gmem wd_1 rfl) (gmem wd_192 rfl) ⟨by decide, by decide, by decide +kernel⟩ ⟨Nat.le_of_ble_eq_true rfl, Nat.le_of_ble_eq_true rfl⟩ hx rfl rfl rfl (Nat.le_of_ble_eq_true rfl) d_X_transfer_2 ⟨Nat.le_of_ble_eq_true rfl, Nat.le_of_ble_eq_true rfl⟩ ?_
  rintro v9 u9 s9 ⟨h9, hu9, hs9⟩; rw [h9, hu9, hs9]; clear h9 hu9 hs9 v9 u9 s9
  show GW Z _ _ _ ad u sz [(0, .ref (ad x)), (1, .int c), (2, .int i), (3, .int w)] 0 0 5 [.null]
  refine g_astoreN C d_X_transfer_5 [(4, .null), (0, .ref (ad x)), (1, .int c), (2, .int i), (3, .int w)] (by decide) rfl ?_
  refine g_aloadN C d_X_transfer_7 0 rfl ?_
  refine g_ifnullN 24 C d_X_transfer_9 (by decide) ?_
  exact g_throwS C D (by rw [hZl]; exact htr) own_IO D.2.2.2.2.2.1.2.1 (by decide) (gmem wd_429 rfl) (gmem wd_430 rfl) (gmem wd_13 rfl) d_X_transfer_24 d_X_transfer_27 d_X_transfer_28 d_X_transfer_30 d_X_transfer_33 (by decide) (by decide) rfl rfl

set_option maxHeartbeats 4000000 in
set_option maxRecDepth 100000 in
theorem k_X_transfer_io (l : Launch) (X : gX) (ad : Nat → Nat) (u : gW) (sz : Nat) (x nC nB k : Nat) (mc go mk : Int32) (op gc tc wa : Int32) (i w : Int32) (hx : u x = some (.inr (5, [.ref (ad (x + 1)), .ref (ad (x + 2)), .ref (ad (x + 3)), .ref (ad (x + 6)), .int (nI nC), .int (nI nB)]))) (hx1 : u (x + 1) = some (.inl ((X.2 3), 4, .inr (.inr (.inr (.inr (cArr ad x nC))))))) (hB : u (x + 16 * k + 32) = some (.inr (1, [.ref (ad (x + 16 * k + 32 + 1)), .ref (ad (x + 16 * k + 32 + 2)), .ref (ad (x + 16 * k + 32 + 3)), .int mc, .int go, .int mk]))) (hB3 : u (x + 16 * k + 32 + 3) = some (.inr (4, [.ref (ad (x + 16 * k + 32 + 3 + 1)), .ref (ad (x + 16 * k + 32 + 3 + 2)), .ref (ad (x + 16 * k + 32 + 3 + 3)), .ref (ad (x + 16 * k + 32 + 3 + 4)), .ref (ad (x + 16 * k + 32 + 3 + 5)), .int op, .int gc, .int tc, .int wa]))) (hk : k < nC) (hn : nC ≤ 4) (hh : hasTr op tc i = false) (htr : noTr l) : gMetT l (EE X) y_X_transfer c_X_transfer 5 (some .long) ({ frames := 6, cells := 1, slots := 6, locals := 82 }) [.ref (ad x), .int (nI k), .int i, .int w] ad u sz "java/lang/IndexOutOfBoundsException" := by
  refine gMetT_of "ExpenseClubs" rfl (by decide) (Nat.le_of_ble_eq_true rfl) (lv := [(0, .ref (ad x)), (1, .int (nI k)), (2, .int i), (3, .int w)]) rfl (fun Z hZl C D => ?_)
  refine g_aload_n C d_X_transfer_0 rfl 0 rfl ?_
  refine g_iload_n C d_X_transfer_1 rfl 1 rfl ?_
  refine g_callV 1 C (k_X_clubAt_ok _ X ad u sz x nC nB k hx hx1 hk hn) (gmem wd_189 rfl) (gmem wd_191 rfl) (gmem ws_0 rfl) (gmem wd_1 rfl) (gmem wd_192 rfl) ⟨by decide, by decide, by decide +kernel⟩ ⟨Nat.le_of_ble_eq_true rfl, Nat.le_of_ble_eq_true rfl⟩ hx rfl rfl rfl (Nat.le_of_ble_eq_true rfl) d_X_transfer_2 ⟨Nat.le_of_ble_eq_true rfl, Nat.le_of_ble_eq_true rfl⟩ ?_
  rintro v9 u9 s9 ⟨h9, hu9, hs9⟩; rw [h9, hu9, hs9]; clear h9 hu9 hs9 v9 u9 s9
  show GW Z _ _ _ ad u sz [(0, .ref (ad x)), (1, .int (nI k)), (2, .int i), (3, .int w)] 0 0 5 [.ref (ad (x + 16 * k + 32))]
  refine g_astore C d_X_transfer_5 [(4, .ref (ad (x + 16 * k + 32))), (0, .ref (ad x)), (1, .int (nI k)), (2, .int i), (3, .int w)] (by decide) rfl ?_
  refine g_aload C d_X_transfer_7 0 rfl ?_
  refine g_ifnull C d_X_transfer_9 ?_
  refine g_aload C d_X_transfer_12 0 rfl ?_
  refine g_get (x + 16 * k + 32) 2 C hB rfl i_C (by decide) (gmem wd_165 rfl) rfl rfl d_X_transfer_14 ?_
  refine g_iload_n C d_X_transfer_17 rfl 3 rfl ?_
  refine g_callV 1 C (k_S_hasTransfer _ X ad u sz (x + 16 * k + 32 + 3) _ _ _ _ _ op gc tc wa i hB3) (gmem wd_396 rfl) (gmem wd_397 rfl) (gmem wd_398 rfl) (gmem wd_6 rfl) (gmem wd_399 rfl) ⟨by decide, by decide, by decide +kernel⟩ ⟨Nat.le_of_ble_eq_true rfl, Nat.le_of_ble_eq_true rfl⟩ hB3 rfl rfl rfl (Nat.le_of_ble_eq_true rfl) d_X_transfer_18 ⟨Nat.le_of_ble_eq_true rfl, Nat.le_of_ble_eq_true rfl⟩ ?_
  rintro v9 u9 s9 ⟨h9, hu9, hs9⟩; rw [h9, hu9, hs9]; clear h9 hu9 hs9 v9 u9 s9
  show GW Z _ _ _ ad u sz [(4, .ref (ad (x + 16 * k + 32))), (0, .ref (ad x)), (1, .int (nI k)), (2, .int i), (3, .int w)] 0 0 21 [.int (bI (hasTr op tc i))]
  refine g_if_ne 34 C d_X_transfer_21 (by decide) (fun c21 => ?_) (fun c21 => ?_)
  · rw [hh] at c21; exact absurd rfl c21
  exact g_throwS C D (by rw [hZl]; exact htr) own_IO D.2.2.2.2.2.1.2.1 (by decide) (gmem wd_429 rfl) (gmem wd_430 rfl) (gmem wd_13 rfl) d_X_transfer_24 d_X_transfer_27 d_X_transfer_28 d_X_transfer_30 d_X_transfer_33 (by decide) (by decide) rfl rfl

set_option maxHeartbeats 4000000 in
set_option maxRecDepth 100000 in
theorem k_X_transfer_ia (l : Launch) (X : gX) (ad : Nat → Nat) (u : gW) (sz : Nat) (x nC nB k : Nat) (mc go mk : Int32) (op gc tc wa : Int32) (i w : Int32) (hx : u x = some (.inr (5, [.ref (ad (x + 1)), .ref (ad (x + 2)), .ref (ad (x + 3)), .ref (ad (x + 6)), .int (nI nC), .int (nI nB)]))) (hx1 : u (x + 1) = some (.inl ((X.2 3), 4, .inr (.inr (.inr (.inr (cArr ad x nC))))))) (hB : u (x + 16 * k + 32) = some (.inr (1, [.ref (ad (x + 16 * k + 32 + 1)), .ref (ad (x + 16 * k + 32 + 2)), .ref (ad (x + 16 * k + 32 + 3)), .int mc, .int go, .int mk]))) (hB3 : u (x + 16 * k + 32 + 3) = some (.inr (4, [.ref (ad (x + 16 * k + 32 + 3 + 1)), .ref (ad (x + 16 * k + 32 + 3 + 2)), .ref (ad (x + 16 * k + 32 + 3 + 3)), .ref (ad (x + 16 * k + 32 + 3 + 4)), .ref (ad (x + 16 * k + 32 + 3 + 5)), .int op, .int gc, .int tc, .int wa]))) (hk : k < nC) (hn : nC ≤ 4) (hh : hasTr op tc i = true) (hw : ¬ w = 0 ∧ ¬ w = 1 ∧ ¬ w = 2 ∧ ¬ w = 3) (htr : noTr l) : gMetT l (EE X) y_X_transfer c_X_transfer 5 (some .long) ({ frames := 6, cells := 1, slots := 6, locals := 82 }) [.ref (ad x), .int (nI k), .int i, .int w] ad u sz "java/lang/IllegalArgumentException" := by
  refine gMetT_of "ExpenseClubs" rfl (by decide) (Nat.le_of_ble_eq_true rfl) (lv := [(0, .ref (ad x)), (1, .int (nI k)), (2, .int i), (3, .int w)]) rfl (fun Z hZl C D => ?_)
  refine g_aload_n C d_X_transfer_0 rfl 0 rfl ?_
  refine g_iload_n C d_X_transfer_1 rfl 1 rfl ?_
  refine g_callV 1 C (k_X_clubAt_ok _ X ad u sz x nC nB k hx hx1 hk hn) (gmem wd_189 rfl) (gmem wd_191 rfl) (gmem ws_0 rfl) (gmem wd_1 rfl) (gmem wd_192 rfl) ⟨by decide, by decide, by decide +kernel⟩ ⟨Nat.le_of_ble_eq_true rfl, Nat.le_of_ble_eq_true rfl⟩ hx rfl rfl rfl (Nat.le_of_ble_eq_true rfl) d_X_transfer_2 ⟨Nat.le_of_ble_eq_true rfl, Nat.le_of_ble_eq_true rfl⟩ ?_
  rintro v9 u9 s9 ⟨h9, hu9, hs9⟩; rw [h9, hu9, hs9]; clear h9 hu9 hs9 v9 u9 s9
  show GW Z _ _ _ ad u sz [(0, .ref (ad x)), (1, .int (nI k)), (2, .int i), (3, .int w)] 0 0 5 [.ref (ad (x + 16 * k + 32))]
  refine g_astore C d_X_transfer_5 [(4, .ref (ad (x + 16 * k + 32))), (0, .ref (ad x)), (1, .int (nI k)), (2, .int i), (3, .int w)] (by decide) rfl ?_
  refine g_aload C d_X_transfer_7 0 rfl ?_
  refine g_ifnull C d_X_transfer_9 ?_
  refine g_aload C d_X_transfer_12 0 rfl ?_
  refine g_get (x + 16 * k + 32) 2 C hB rfl i_C (by decide) (gmem wd_165 rfl) rfl rfl d_X_transfer_14 ?_
  refine g_iload_n C d_X_transfer_17 rfl 3 rfl ?_
  refine g_callV 1 C (k_S_hasTransfer _ X ad u sz (x + 16 * k + 32 + 3) _ _ _ _ _ op gc tc wa i hB3) (gmem wd_396 rfl) (gmem wd_397 rfl) (gmem wd_398 rfl) (gmem wd_6 rfl) (gmem wd_399 rfl) ⟨by decide, by decide, by decide +kernel⟩ ⟨Nat.le_of_ble_eq_true rfl, Nat.le_of_ble_eq_true rfl⟩ hB3 rfl rfl rfl (Nat.le_of_ble_eq_true rfl) d_X_transfer_18 ⟨Nat.le_of_ble_eq_true rfl, Nat.le_of_ble_eq_true rfl⟩ ?_
  rintro v9 u9 s9 ⟨h9, hu9, hs9⟩; rw [h9, hu9, hs9]; clear h9 hu9 hs9 v9 u9 s9
  show GW Z _ _ _ ad u sz [(4, .ref (ad (x + 16 * k + 32))), (0, .ref (ad x)), (1, .int (nI k)), (2, .int i), (3, .int w)] 0 0 21 [.int (bI (hasTr op tc i))]
  refine g_if_ne 34 C d_X_transfer_21 (by decide) (fun c21 => ?_) (fun c21 => ?_)
  rotate_left
  · rw [hh] at c21; exact absurd c21 (by decide)
  refine g_iload_n C d_X_transfer_34 rfl 4 rfl ?_
  by_cases c35_0 : w = 0
  · refine g_tableIn (off := 29) 64 C d_X_transfer_35 (by rw [c35_0]; decide) (by rw [c35_0]; decide) (by rw [c35_0]; rfl) (by decide) ?_
    exact absurd c35_0 hw.1
  by_cases c35_1 : w = 1
  · refine g_tableIn (off := 41) 76 C d_X_transfer_35 (by rw [c35_1]; decide) (by rw [c35_1]; decide) (by rw [c35_1]; rfl) (by decide) ?_
    exact absurd c35_1 hw.2.1
  by_cases c35_2 : w = 2
  · refine g_tableIn (off := 53) 88 C d_X_transfer_35 (by rw [c35_2]; decide) (by rw [c35_2]; decide) (by rw [c35_2]; rfl) (by decide) ?_
    exact absurd c35_2 hw.2.2.1
  by_cases c35_3 : w = 3
  · refine g_tableIn (off := 64) 99 C d_X_transfer_35 (by rw [c35_3]; decide) (by rw [c35_3]; decide) (by rw [c35_3]; rfl) (by decide) ?_
    exact absurd c35_3 hw.2.2.2
  refine g_tableOut 118 C d_X_transfer_35 (by have h0 := lv_neT c35_0 (a := 0) (by decide); have h1 := lv_neT c35_1 (a := 1) (by decide); have h2 := lv_neT c35_2 (a := 2) (by decide); have h3 := lv_neT c35_3 (a := 3) (by decide); omega) (by decide) ?_
  exact g_throwS C D (by rw [hZl]; exact htr) own_IA D.2.2.2.2.2.1.2.2.1 (by decide) (gmem wd_496 rfl) (gmem wd_497 rfl) (gmem wd_14 rfl) d_X_transfer_118 d_X_transfer_121 d_X_transfer_122 d_X_transfer_124 d_X_transfer_127 (by decide) (by decide) rfl rfl
