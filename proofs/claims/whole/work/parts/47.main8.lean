set_option maxHeartbeats 4000000 in
set_option maxRecDepth 100000 in
theorem k_X_strike_no (l : Launch) (X : gX) (ad : Nat → Nat) (u : gW) (sz : Nat) (x nC nB : Nat) (c : Int32) (hx : u x = some (.inr (5, [.ref (ad (x + 1)), .ref (ad (x + 2)), .ref (ad (x + 3)), .ref (ad (x + 6)), .int (nI nC), .int (nI nB)]))) (hx2 : u (x + 2) = some (.inl ((X.2 4), 64, .inr (.inr (.inr (.inr (bArr ad x nB))))))) (h : isMb c (nI nB) = false) : gMet l (EE X) y_X_strike c_X_strike 3 (some .boolean) ({ frames := 1, cells := 0, slots := 0, locals := 23 }) [.ref (ad x), .int c] ad u sz (fun v u' sz' => v = some (.int 0) ∧ u' = u ∧ sz' = sz) := by
  refine gMet_of "ExpenseClubs" rfl (by decide) (Nat.le_of_ble_eq_true rfl) (lv := [(0, .ref (ad x)), (1, .int c)]) rfl (fun Z hZl C hR hret hname => ?_)
  refine g_aload_n C d_X_strike_0 rfl 0 rfl ?_
  refine g_iload_n C d_X_strike_1 rfl 1 rfl ?_
  refine g_callV 1 C (k_X_billAt_no _ X ad u sz x nC nB c hx hx2 h) (gmem wd_331 rfl) (gmem wd_333 rfl) (gmem ws_3 rfl) (gmem wd_1 rfl) (gmem wd_334 rfl) ⟨by decide, by decide, by decide +kernel⟩ ⟨Nat.le_of_ble_eq_true rfl, Nat.le_of_ble_eq_true rfl⟩ hx rfl rfl rfl (Nat.le_of_ble_eq_true rfl) d_X_strike_2 ⟨Nat.le_of_ble_eq_true rfl, Nat.le_of_ble_eq_true rfl⟩ ?_
  rintro v9 u9 s9 ⟨h9, hu9, hs9⟩; rw [h9, hu9, hs9]; clear h9 hu9 hs9 v9 u9 s9
  show GW Z _ _ _ ad u sz [(0, .ref (ad x)), (1, .int c)] 0 0 5 [.null]
  refine g_astore_nN C d_X_strike_5 rfl [(2, .null), (0, .ref (ad x)), (1, .int c)] (by decide) rfl ?_
  refine g_aload_nN C d_X_strike_6 rfl 0 rfl ?_
  refine g_ifnullN 30 C d_X_strike_7 (by decide) ?_
  refine g_iconst (v := 0) C d_X_strike_30 (by decide) ?_
  exact g_zret C hR hret rfl ⟨rfl, rfl, rfl⟩ d_X_strike_31
