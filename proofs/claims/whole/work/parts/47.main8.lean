set_option maxHeartbeats 4000000 in
set_option maxRecDepth 100000 in
theorem k_X_strike_no (l : Launch) (X : gX) (ad : Nat → Nat) (u : gW) (sz : Nat) (x nC nB : Nat) (c : Int32) (hx : u x = some (.inr (5, [.ref (ad (x + 1)), .ref (ad (x + 2)), .ref (ad (x + 3)), .ref (ad (x + 6)), .int (nI nC), .int (nI nB)]))) (hx2 : u (x + 2) = some (.inl ((X.2 4), 64, .inr (.inr (.inr (.inr (bArr ad x nB))))))) (h : isMb c (nI nB) = false) : gMet l (EE X) y_X_strike c_X_strike 3 (some .boolean) ({ frames := 1, cells := 0, slots := 0, locals := 23 }) [.ref (ad x), .int c] ad u sz (fun v u' sz' => v = some (.int 0) ∧ u' = u ∧ sz' = sz) := by
  refine gMet_of "ExpenseClubs" rfl (by decide) (Nat.le_of_ble_eq_true rfl) (lv := [(0, .ref (ad x)), (1, .int c)]) rfl (fun Z hZl C hR hret hname => ?_)
  refine g_aload_n C d_X_strike_0 rfl 0 rfl ?_
  refine g_iload_n C d_X_strike_1 rfl 1 rfl ?_
  refine g_callV 1 C (k_X_billAt_no _ X ad u sz x nC nB c hx hx2 h) (gmem wd_331 rfl) (gmem wd_333 rfl) (gmem ws_3 rfl) (gmem wd_1 rfl) (gmem wd_334 rfl) ⟨by decide, by decide, by decide +kernel⟩ ⟨Nat.le_of_ble_eq_true rfl, Nat.le_of_ble_eq_true rfl⟩ hx rfl rfl rfl (Nat.le_of_ble_eq_true rfl) d_X_strike_2 ⟨Nat.le_of_ble_eq_true rfl, Nat.le_of_ble_eq_true rfl⟩ ?_
  rintro v9 u9 s9 ⟨h9, hu9, hs9⟩; rw [h9, hu9, hs9]; clear h9 hu9 hs9 v9 u9 s9
  show GW Z _ _ _ ad u sz [(0, .ref (ad x)), (1, .int c)] 0 0 5 [.null]
  refine g_astore_nN C d_X_strike_5 rfl [(2, .null), (0, .ref (ad x)), (1, .int c)] (by decide) rfl ?_
  refine g_aload_nN C d_X_strike_6 rfl 0 rfl ?_
  refine g_ifnullN 30 C d_X_strike_7 (by decide) ?_
  refine g_iconst (v := 0) C d_X_strike_30 (by decide) ?_
  exact g_zret C hR hret rfl ⟨rfl, rfl, rfl⟩ d_X_strike_31

set_option maxHeartbeats 4000000 in
set_option maxRecDepth 100000 in
theorem k_X_settle_no (l : Launch) (X : gX) (ad : Nat → Nat) (u : gW) (sz : Nat) (x nC nB : Nat) (c : Int32) (hx : u x = some (.inr (5, [.ref (ad (x + 1)), .ref (ad (x + 2)), .ref (ad (x + 3)), .ref (ad (x + 6)), .int (nI nC), .int (nI nB)]))) (hx1 : u (x + 1) = some (.inl ((X.2 3), 4, .inr (.inr (.inr (.inr (cArr ad x nC))))))) (h : isMb c (nI nC) = false) : gMet l (EE X) y_X_settle c_X_settle 3 (some .int) ({ frames := 1, cells := 0, slots := 0, locals := 21 }) [.ref (ad x), .int c] ad u sz (fun v u' sz' => v = some (.int (-1)) ∧ u' = u ∧ sz' = sz) := by
  refine gMet_of "ExpenseClubs" rfl (by decide) (Nat.le_of_ble_eq_true rfl) (lv := [(0, .ref (ad x)), (1, .int c)]) rfl (fun Z hZl C hR hret hname => ?_)
  refine g_aload_n C d_X_settle_0 rfl 0 rfl ?_
  refine g_iload_n C d_X_settle_1 rfl 1 rfl ?_
  refine g_callV 1 C (k_X_clubAt_no _ X ad u sz x nC nB c hx hx1 h) (gmem wd_189 rfl) (gmem wd_191 rfl) (gmem ws_0 rfl) (gmem wd_1 rfl) (gmem wd_192 rfl) ⟨by decide, by decide, by decide +kernel⟩ ⟨Nat.le_of_ble_eq_true rfl, Nat.le_of_ble_eq_true rfl⟩ hx rfl rfl rfl (Nat.le_of_ble_eq_true rfl) d_X_settle_2 ⟨Nat.le_of_ble_eq_true rfl, Nat.le_of_ble_eq_true rfl⟩ ?_
  rintro v9 u9 s9 ⟨h9, hu9, hs9⟩; rw [h9, hu9, hs9]; clear h9 hu9 hs9 v9 u9 s9
  show GW Z _ _ _ ad u sz [(0, .ref (ad x)), (1, .int c)] 0 0 5 [.null]
  refine g_astore_nN C d_X_settle_5 rfl [(2, .null), (0, .ref (ad x)), (1, .int c)] (by decide) rfl ?_
  refine g_aload_nN C d_X_settle_6 rfl 0 rfl ?_
  refine g_ifnullN 20 C d_X_settle_7 (by decide) ?_
  refine g_iconst (v := (-1)) C d_X_settle_20 (by decide) ?_
  exact g_iret C hR hret ⟨rfl, rfl, rfl⟩ d_X_settle_21

set_option maxHeartbeats 4000000 in
set_option maxRecDepth 100000 in
theorem k_X_settle_open (l : Launch) (X : gX) (ad : Nat → Nat) (u : gW) (sz : Nat) (x nC nB k : Nat) (mc go mk : Int32) (op gc tc wa : Int32) (hx : u x = some (.inr (5, [.ref (ad (x + 1)), .ref (ad (x + 2)), .ref (ad (x + 3)), .ref (ad (x + 6)), .int (nI nC), .int (nI nB)]))) (hx1 : u (x + 1) = some (.inl ((X.2 3), 4, .inr (.inr (.inr (.inr (cArr ad x nC))))))) (hB : u (x + 16 * k + 32) = some (.inr (1, [.ref (ad (x + 16 * k + 32 + 1)), .ref (ad (x + 16 * k + 32 + 2)), .ref (ad (x + 16 * k + 32 + 3)), .int mc, .int go, .int mk]))) (hB3 : u (x + 16 * k + 32 + 3) = some (.inr (4, [.ref (ad (x + 16 * k + 32 + 3 + 1)), .ref (ad (x + 16 * k + 32 + 3 + 2)), .ref (ad (x + 16 * k + 32 + 3 + 3)), .ref (ad (x + 16 * k + 32 + 3 + 4)), .ref (ad (x + 16 * k + 32 + 3 + 5)), .int op, .int gc, .int tc, .int wa]))) (hk : k < nC) (hn : nC ≤ 4) (hop : ¬ op = 0) : gMet l (EE X) y_X_settle c_X_settle 3 (some .int) ({ frames := 1, cells := 0, slots := 0, locals := 21 }) [.ref (ad x), .int (nI k)] ad u sz (fun v u' sz' => v = some (.int (-1)) ∧ u' = u ∧ sz' = sz) := by
  refine gMet_of "ExpenseClubs" rfl (by decide) (Nat.le_of_ble_eq_true rfl) (lv := [(0, .ref (ad x)), (1, .int (nI k))]) rfl (fun Z hZl C hR hret hname => ?_)
  refine g_aload_n C d_X_settle_0 rfl 0 rfl ?_
  refine g_iload_n C d_X_settle_1 rfl 1 rfl ?_
  refine g_callV 1 C (k_X_clubAt_ok _ X ad u sz x nC nB k hx hx1 hk hn) (gmem wd_189 rfl) (gmem wd_191 rfl) (gmem ws_0 rfl) (gmem wd_1 rfl) (gmem wd_192 rfl) ⟨by decide, by decide, by decide +kernel⟩ ⟨Nat.le_of_ble_eq_true rfl, Nat.le_of_ble_eq_true rfl⟩ hx rfl rfl rfl (Nat.le_of_ble_eq_true rfl) d_X_settle_2 ⟨Nat.le_of_ble_eq_true rfl, Nat.le_of_ble_eq_true rfl⟩ ?_
  rintro v9 u9 s9 ⟨h9, hu9, hs9⟩; rw [h9, hu9, hs9]; clear h9 hu9 hs9 v9 u9 s9
  show GW Z _ _ _ ad u sz [(0, .ref (ad x)), (1, .int (nI k))] 0 0 5 [.ref (ad (x + 16 * k + 32))]
  refine g_astore_n C d_X_settle_5 rfl [(2, .ref (ad (x + 16 * k + 32))), (0, .ref (ad x)), (1, .int (nI k))] (by decide) rfl ?_
  refine g_aload_n C d_X_settle_6 rfl 0 rfl ?_
  refine g_ifnull C d_X_settle_7 ?_
  refine g_aload_n C d_X_settle_10 rfl 0 rfl ?_
  refine g_get (x + 16 * k + 32) 2 C hB rfl i_C (by decide) (gmem wd_165 rfl) rfl rfl d_X_settle_11 ?_
  refine g_get (x + 16 * k + 32 + 3) 5 C hB3 rfl i_S (by decide) (gmem wd_131 rfl) rfl rfl d_X_settle_14 ?_
  refine g_if_eq 22 C d_X_settle_17 (by decide) (fun c17 => ?_) (fun c17 => ?_)
  · exact absurd c17 hop
  refine g_iconst (v := (-1)) C d_X_settle_20 (by decide) ?_
  exact g_iret C hR hret ⟨rfl, rfl, rfl⟩ d_X_settle_21
