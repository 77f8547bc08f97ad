theorem bArr_up (ad : Nat → Nat) (x nB : Nat) : va_up (bArr ad x nB) nB (some (ad (x + 4 * nB + 128))) = bArr ad x (nB + 1) := by
  funext j
  simp only [va_up, bArr]
  by_cases h : j = nB
  · subst h; simp
  · by_cases h2 : j < nB
    · simp [h, h2, show j < nB + 1 by omega]
    · simp [h, h2, show ¬ j < nB + 1 by omega]
theorem cArr_up (ad : Nat → Nat) (x nC : Nat) : va_up (cArr ad x nC) nC (some (ad (x + 16 * nC + 32))) = cArr ad x (nC + 1) := by
  funext j
  simp only [va_up, cArr]
  by_cases h : j = nC
  · subst h; simp
  · by_cases h2 : j < nC
    · simp [h, h2, show j < nC + 1 by omega]
    · simp [h, h2, show ¬ j < nC + 1 by omega]
set_option maxHeartbeats 4000000 in
set_option maxRecDepth 100000 in
theorem k_X_post_ok (l : Launch) (X : gX) (ad : Nat → Nat) (u : gW) (sz : Nat) (x nC nB k mk : Nat) (mc go way ce ra lc op gc tc wa : Int32) (py wt bal dri : Nat → Int64) (hx : u x = some (.inr (5, [.ref (ad (x + 1)), .ref (ad (x + 2)), .ref (ad (x + 3)), .ref (ad (x + 6)), .int (nI nC), .int (nI nB)]))) (hx2 : u (x + 2) = some (.inl ((X.2 4), 64, .inr (.inr (.inr (.inr (bArr ad x nB))))))) (hd : u (x + 3) = some (.inr (2, [.ref (ad (x + 3 + 1)), .ref (ad (x + 3 + 2)), .ref (ad (x + 16 * k + 32)), .int way, .int ce, .int ra, .int lc]))) (hd1 : u (x + 3 + 1) = some (.inl ((X.2 1), 12, .inr (.inl py)))) (hd2 : u (x + 3 + 2) = some (.inl ((X.2 1), 12, .inr (.inl wt)))) (hB : u (x + 16 * k + 32) = some (.inr (1, [.ref (ad (x + 16 * k + 32 + 1)), .ref (ad (x + 16 * k + 32 + 2)), .ref (ad (x + 16 * k + 32 + 3)), .int mc, .int go, .int (nI mk)]))) (hB3 : u (x + 16 * k + 32 + 3) = some (.inr (4, [.ref (ad (x + 16 * k + 32 + 3 + 1)), .ref (ad (x + 16 * k + 32 + 3 + 2)), .ref (ad (x + 16 * k + 32 + 3 + 3)), .ref (ad (x + 16 * k + 32 + 3 + 4)), .ref (ad (x + 16 * k + 32 + 3 + 5)), .int op, .int gc, .int tc, .int wa]))) (hB1 : u (x + 16 * k + 32 + 1) = some (.inl ((X.2 1), 12, .inr (.inl bal)))) (hB2 : u (x + 16 * k + 32 + 2) = some (.inl ((X.2 1), 12, .inr (.inl dri)))) (hk : k < 4) (hnB : nB ≤ 64) (hmk : mk < 12) (hf0 : u (x + 4 * nB + 128) = none) (ha0 : ad (x + 4 * nB + 128) = sz) (hf1 : u (x + 4 * nB + 128 + 1) = none) (ha1 : ad (x + 4 * nB + 128 + 1) = sz + 1) (hf2 : u (x + 4 * nB + 128 + 2) = none) (ha2 : ad (x + 4 * nB + 128 + 2) = sz + 2) (hf3 : u (x + 4 * nB + 128 + 3) = none) (ha3 : ad (x + 4 * nB + 128 + 3) = sz + 3) : gMet l (EE X) y_X_post c_X_post 4 (some .int) ({ frames := 3, cells := 4, slots := 42, locals := 92 }) [.ref (ad x)] ad u sz (fun v u' sz' => ∃ r : Int32, ((¬ op = 0 ∧ r = -2) ∨ (op = 0 ∧ ¬ nI nB < 64 ∧ r = -3) ∨ (op = 0 ∧ nI nB < 64 ∧ refuse py wt go way ce r)) ∧ ((¬ r = 0 ∧ v = some (.int r) ∧ u' = u ∧ sz' = sz) ∨ (r = 0 ∧ v = some (.int (nI (nB + 1) - 1)) ∧ u' = gup (gup (gup (gup (gup (gup (gup (gup (gup (gup u x (.inr (5, [.ref (ad (x + 1)), .ref (ad (x + 2)), .ref (ad (x + 3)), .ref (ad (x + 6)), .int (nI nC), .int (nI (nB + 1))]))) (x + 2) (.inl ((X.2 4), 64, .inr (.inr (.inr (.inr (bArr ad x (nB + 1)))))))) (x + 3) (.inr (2, [.ref (ad (x + 3 + 1)), .ref (ad (x + 3 + 2)), .null, .int way, .int ce, .int ra, .int lc]))) (x + 16 * k + 32) (.inr (1, [.ref (ad (x + 16 * k + 32 + 1)), .ref (ad (x + 16 * k + 32 + 2)), .ref (ad (x + 16 * k + 32 + 3)), .int mc, .int go, .int (nI (cutB (totS ce ra) wt mk (fun _ => 0)))]))) (x + 16 * k + 32 + 1) (.inl ((X.2 1), 12, .inr (.inl (mapL bal (fun j => bal j + (1 : Int32).toInt64 * ((cutA (totS ce ra) py 0 (fun _ => 0)) j - (cutA (totS ce ra) wt mk (fun _ => 0)) j)) 12))))) (x + 16 * k + 32 + 2) (.inl ((X.2 1), 12, .inr (.inl (mapL dri (fun j => dri j + (1 : Int32).toInt64 * (mapL (fun _ => 0) (driG (totS ce ra) wt (cutA (totS ce ra) wt mk (fun _ => 0))) 12) j) 12))))) (x + 4 * nB + 128) (.inr (0, [.ref (ad (x + 16 * k + 32)), .long (totS ce ra), .ref (ad (x + 4 * nB + 128 + 1)), .ref (ad (x + 4 * nB + 128 + 2)), .ref (ad (x + 4 * nB + 128 + 3)), .int 0]))) (x + 4 * nB + 128 + 1) (.inl ((X.2 1), 12, .inr (.inl (cutA (totS ce ra) py 0 (fun _ => 0)))))) (x + 4 * nB + 128 + 2) (.inl ((X.2 1), 12, .inr (.inl (cutA (totS ce ra) wt mk (fun _ => 0)))))) (x + 4 * nB + 128 + 3) (.inl ((X.2 1), 12, .inr (.inl (mapL (fun _ => 0) (driG (totS ce ra) wt (cutA (totS ce ra) wt mk (fun _ => 0))) 12)))) ∧ sz' = sz + 4))) := by
  refine gMet_of "ExpenseClubs" rfl (by decide) (Nat.le_of_ble_eq_true rfl) (lv := [(0, .ref (ad x))]) rfl (fun Z hZl C hR hret hname => ?_)
  refine g_aload_n C d_X_post_0 rfl 0 rfl ?_
  refine g_get x 2 C hx rfl i_X (by decide) (gmem wd_83 rfl) rfl rfl d_X_post_1 ?_
  refine g_get (x + 3) 2 C hd rfl i_D (by decide) (gmem wd_38 rfl) rfl rfl d_X_post_4 ?_
  refine g_astore_n C d_X_post_7 rfl [(1, .ref (ad (x + 16 * k + 32))), (0, .ref (ad x))] (by decide) rfl ?_
  refine g_aload_n C d_X_post_8 rfl 0 rfl ?_
  refine g_ifnonnull 14 C d_X_post_9 (by decide) ?_
  refine g_aload_n C d_X_post_14 rfl 1 rfl ?_
  refine g_aload_n C d_X_post_15 rfl 0 rfl ?_
  refine g_callV 1 C (k_X_refusalOfPost _ X ad u sz x nC nB k mc go (nI mk) way ce ra lc op gc tc wa py wt hx hd hd1 hd2 hB hB3) (gmem wd_252 rfl) (gmem wd_254 rfl) (gmem ws_1 rfl) (gmem wd_1 rfl) (gmem wd_255 rfl) ⟨by decide, by decide, by decide +kernel⟩ ⟨Nat.le_of_ble_eq_true rfl, Nat.le_of_ble_eq_true rfl⟩ hx rfl rfl rfl (Nat.le_of_ble_eq_true rfl) d_X_post_16 ⟨Nat.le_of_ble_eq_true rfl, Nat.le_of_ble_eq_true rfl⟩ ?_
  rintro v9 u9 s9 ⟨r, h9, hr9, hu9, hs9⟩; rw [h9, hu9, hs9]; clear h9 hu9 hs9 v9 u9 s9
  show GW Z _ _ _ ad u sz [(1, .ref (ad (x + 16 * k + 32))), (0, .ref (ad x))] 0 0 19 [.int r]
  refine g_istore_n C d_X_post_19 rfl [(2, .int r), (1, .ref (ad (x + 16 * k + 32))), (0, .ref (ad x))] (by decide) rfl ?_
  refine g_iload_n C d_X_post_20 rfl 0 rfl ?_
  refine g_if_eq 26 C d_X_post_21 (by decide) (fun c21 => ?_) (fun c21 => ?_)
  · skip
    have hb64 : nB < 64 := by
      rcases hr9 with h | h | h
      · exact absurd (c21.symm.trans h.2) (by decide)
      · exact absurd (c21.symm.trans h.2.2) (by decide)
      · exact (nI_ltI (by omega) (by decide)).mp h.2.1
    refine g_aload_n C d_X_post_26 rfl 2 rfl ?_
    refine g_get x 2 C hx rfl i_X (by decide) (gmem wd_83 rfl) rfl rfl d_X_post_27 ?_
    refine g_aload_n C d_X_post_30 rfl 1 rfl ?_
    refine g_callV 1 C (k_D_toBill _ X ad u sz (x + 3) (x + 16 * k + 32) (x + 4 * nB + 128) mk py wt (.ref (ad (x + 16 * k + 32))) _ _ _ way ce ra lc mc go hd hd1 hd2 hB hmk (by omega) (by omega) hf0 ha0 hf1 ha1 hf2 ha2 hf3 ha3) (gmem wd_270 rfl) (gmem wd_271 rfl) (gmem wd_272 rfl) (gmem wd_2 rfl) (gmem wd_273 rfl) ⟨by decide, by decide, by decide +kernel⟩ ⟨Nat.le_of_ble_eq_true rfl, Nat.le_of_ble_eq_true rfl⟩ hd rfl rfl rfl (Nat.le_of_ble_eq_true rfl) d_X_post_31 ⟨Nat.le_of_ble_eq_true rfl, Nat.le_of_ble_eq_true rfl⟩ ?_
    rintro v9 uk1 s9 ⟨h9, huk1, hs9⟩; rw [h9, hs9]; clear h9 hs9 v9 s9
    have huk1_0 : uk1 x = some (.inr (5, [.ref (ad (x + 1)), .ref (ad (x + 2)), .ref (ad (x + 3)), .ref (ad (x + 6)), .int (nI nC), .int (nI nB)])) := by rw [huk1, gup_ne (by omega), gup_ne (by omega), gup_ne (by omega), gup_ne (by omega), gup_ne (by omega)]; exact hx
    have huk1_1 : uk1 (x + 2) = some (.inl ((X.2 4), 64, .inr (.inr (.inr (.inr (bArr ad x nB)))))) := by rw [huk1, gup_ne (by omega), gup_ne (by omega), gup_ne (by omega), gup_ne (by omega), gup_ne (by omega)]; exact hx2
    have huk1_2 : uk1 (x + 3) = some (.inr (2, [.ref (ad (x + 3 + 1)), .ref (ad (x + 3 + 2)), .ref (ad (x + 16 * k + 32)), .int way, .int ce, .int ra, .int lc])) := by rw [huk1, gup_ne (by omega), gup_ne (by omega), gup_ne (by omega), gup_ne (by omega), gup_ne (by omega)]; exact hd
    have huk1_3 : uk1 (x + 3 + 1) = some (.inl ((X.2 1), 12, .inr (.inl py))) := by rw [huk1, gup_ne (by omega), gup_ne (by omega), gup_ne (by omega), gup_ne (by omega), gup_ne (by omega)]; exact hd1
    have huk1_4 : uk1 (x + 3 + 2) = some (.inl ((X.2 1), 12, .inr (.inl wt))) := by rw [huk1, gup_ne (by omega), gup_ne (by omega), gup_ne (by omega), gup_ne (by omega), gup_ne (by omega)]; exact hd2
    have huk1_5 : uk1 (x + 16 * k + 32) = some (.inr (1, [.ref (ad (x + 16 * k + 32 + 1)), .ref (ad (x + 16 * k + 32 + 2)), .ref (ad (x + 16 * k + 32 + 3)), .int mc, .int go, .int (nI (cutB (totS ce ra) wt mk (fun _ => 0)))])) := by rw [huk1, gup_self]
    have huk1_6 : uk1 (x + 16 * k + 32 + 3) = some (.inr (4, [.ref (ad (x + 16 * k + 32 + 3 + 1)), .ref (ad (x + 16 * k + 32 + 3 + 2)), .ref (ad (x + 16 * k + 32 + 3 + 3)), .ref (ad (x + 16 * k + 32 + 3 + 4)), .ref (ad (x + 16 * k + 32 + 3 + 5)), .int op, .int gc, .int tc, .int wa])) := by rw [huk1, gup_ne (by omega), gup_ne (by omega), gup_ne (by omega), gup_ne (by omega), gup_ne (by omega)]; exact hB3
    have huk1_7 : uk1 (x + 16 * k + 32 + 1) = some (.inl ((X.2 1), 12, .inr (.inl bal))) := by rw [huk1, gup_ne (by omega), gup_ne (by omega), gup_ne (by omega), gup_ne (by omega), gup_ne (by omega)]; exact hB1
    have huk1_8 : uk1 (x + 16 * k + 32 + 2) = some (.inl ((X.2 1), 12, .inr (.inl dri))) := by rw [huk1, gup_ne (by omega), gup_ne (by omega), gup_ne (by omega), gup_ne (by omega), gup_ne (by omega)]; exact hB2
    have huk1_9 : uk1 (x + 4 * nB + 128) = some (.inr (0, [.ref (ad (x + 16 * k + 32)), .long (totS ce ra), .ref (ad (x + 4 * nB + 128 + 1)), .ref (ad (x + 4 * nB + 128 + 2)), .ref (ad (x + 4 * nB + 128 + 3)), .int 0])) := by rw [huk1, gup_ne (by omega), gup_ne (by omega), gup_ne (by omega), gup_ne (by omega), gup_self]
    have huk1_10 : uk1 (x + 4 * nB + 128 + 1) = some (.inl ((X.2 1), 12, .inr (.inl (cutA (totS ce ra) py 0 (fun _ => 0))))) := by rw [huk1, gup_ne (by omega), gup_ne (by omega), gup_ne (by omega), gup_self]
    have huk1_11 : uk1 (x + 4 * nB + 128 + 2) = some (.inl ((X.2 1), 12, .inr (.inl (cutA (totS ce ra) wt mk (fun _ => 0))))) := by rw [huk1, gup_ne (by omega), gup_ne (by omega), gup_self]
    have huk1_12 : uk1 (x + 4 * nB + 128 + 3) = some (.inl ((X.2 1), 12, .inr (.inl (mapL (fun _ => 0) (driG (totS ce ra) wt (cutA (totS ce ra) wt mk (fun _ => 0))) 12)))) := by rw [huk1, gup_ne (by omega), gup_self]
    show GW Z _ _ _ ad uk1 (sz + 4) [(2, .int r), (1, .ref (ad (x + 16 * k + 32))), (0, .ref (ad x))] 4 42 34 [.ref (ad (x + 4 * nB + 128))]
    refine g_astore_n C d_X_post_34 rfl [(3, .ref (ad (x + 4 * nB + 128))), (2, .int r), (1, .ref (ad (x + 16 * k + 32))), (0, .ref (ad x))] (by decide) rfl ?_
    refine g_aload_n C d_X_post_35 rfl 2 rfl ?_
    refine g_aload_n C d_X_post_36 rfl 0 rfl ?_
    refine g_iconst (v := 1) C d_X_post_37 (by decide) ?_
    refine g_callV 2 C (k_C_book _ X ad uk1 (sz + 4) (x + 16 * k + 32) (x + 4 * nB + 128) bal dri (cutA (totS ce ra) py 0 (fun _ => 0)) (cutA (totS ce ra) wt mk (fun _ => 0)) (mapL (fun _ => 0) (driG (totS ce ra) wt (cutA (totS ce ra) wt mk (fun _ => 0))) 12) (.ref (ad (x + 16 * k + 32))) (totS ce ra) mc go (nI (cutB (totS ce ra) wt mk (fun _ => 0))) 0 1 huk1_5 huk1_7 huk1_8 huk1_9 huk1_10 huk1_11 huk1_12 (by omega)) (gmem wd_323 rfl) (gmem wd_324 rfl) (gmem wd_325 rfl) (gmem wd_5 rfl) (gmem wd_326 rfl) ⟨by decide, by decide, by decide +kernel⟩ ⟨Nat.le_of_ble_eq_true rfl, Nat.le_of_ble_eq_true rfl⟩ huk1_5 rfl rfl rfl (Nat.le_of_ble_eq_true rfl) d_X_post_38 ⟨Nat.le_of_ble_eq_true rfl, Nat.le_of_ble_eq_true rfl⟩ ?_
    rintro v9 uk2 s9 ⟨h9, huk2, hs9⟩; rw [h9, hs9]; clear h9 hs9 v9 s9
    have huk2_0 : uk2 x = some (.inr (5, [.ref (ad (x + 1)), .ref (ad (x + 2)), .ref (ad (x + 3)), .ref (ad (x + 6)), .int (nI nC), .int (nI nB)])) := by rw [huk2, gup_ne (by omega), gup_ne (by omega)]; exact huk1_0
    have huk2_1 : uk2 (x + 2) = some (.inl ((X.2 4), 64, .inr (.inr (.inr (.inr (bArr ad x nB)))))) := by rw [huk2, gup_ne (by omega), gup_ne (by omega)]; exact huk1_1
    have huk2_2 : uk2 (x + 3) = some (.inr (2, [.ref (ad (x + 3 + 1)), .ref (ad (x + 3 + 2)), .ref (ad (x + 16 * k + 32)), .int way, .int ce, .int ra, .int lc])) := by rw [huk2, gup_ne (by omega), gup_ne (by omega)]; exact huk1_2
    have huk2_3 : uk2 (x + 3 + 1) = some (.inl ((X.2 1), 12, .inr (.inl py))) := by rw [huk2, gup_ne (by omega), gup_ne (by omega)]; exact huk1_3
    have huk2_4 : uk2 (x + 3 + 2) = some (.inl ((X.2 1), 12, .inr (.inl wt))) := by rw [huk2, gup_ne (by omega), gup_ne (by omega)]; exact huk1_4
    have huk2_5 : uk2 (x + 16 * k + 32) = some (.inr (1, [.ref (ad (x + 16 * k + 32 + 1)), .ref (ad (x + 16 * k + 32 + 2)), .ref (ad (x + 16 * k + 32 + 3)), .int mc, .int go, .int (nI (cutB (totS ce ra) wt mk (fun _ => 0)))])) := by rw [huk2, gup_ne (by omega), gup_ne (by omega)]; exact huk1_5
    have huk2_6 : uk2 (x + 16 * k + 32 + 3) = some (.inr (4, [.ref (ad (x + 16 * k + 32 + 3 + 1)), .ref (ad (x + 16 * k + 32 + 3 + 2)), .ref (ad (x + 16 * k + 32 + 3 + 3)), .ref (ad (x + 16 * k + 32 + 3 + 4)), .ref (ad (x + 16 * k + 32 + 3 + 5)), .int op, .int gc, .int tc, .int wa])) := by rw [huk2, gup_ne (by omega), gup_ne (by omega)]; exact huk1_6
    have huk2_7 : uk2 (x + 16 * k + 32 + 1) = some (.inl ((X.2 1), 12, .inr (.inl (mapL bal (fun j => bal j + (1 : Int32).toInt64 * ((cutA (totS ce ra) py 0 (fun _ => 0)) j - (cutA (totS ce ra) wt mk (fun _ => 0)) j)) 12)))) := by rw [huk2, gup_ne (by omega), gup_self]
    have huk2_8 : uk2 (x + 16 * k + 32 + 2) = some (.inl ((X.2 1), 12, .inr (.inl (mapL dri (fun j => dri j + (1 : Int32).toInt64 * (mapL (fun _ => 0) (driG (totS ce ra) wt (cutA (totS ce ra) wt mk (fun _ => 0))) 12) j) 12)))) := by rw [huk2, gup_self]
    have huk2_9 : uk2 (x + 4 * nB + 128) = some (.inr (0, [.ref (ad (x + 16 * k + 32)), .long (totS ce ra), .ref (ad (x + 4 * nB + 128 + 1)), .ref (ad (x + 4 * nB + 128 + 2)), .ref (ad (x + 4 * nB + 128 + 3)), .int 0])) := by rw [huk2, gup_ne (by omega), gup_ne (by omega)]; exact huk1_9
    have huk2_10 : uk2 (x + 4 * nB + 128 + 1) = some (.inl ((X.2 1), 12, .inr (.inl (cutA (totS ce ra) py 0 (fun _ => 0))))) := by rw [huk2, gup_ne (by omega), gup_ne (by omega)]; exact huk1_10
    have huk2_11 : uk2 (x + 4 * nB + 128 + 2) = some (.inl ((X.2 1), 12, .inr (.inl (cutA (totS ce ra) wt mk (fun _ => 0))))) := by rw [huk2, gup_ne (by omega), gup_ne (by omega)]; exact huk1_11
    have huk2_12 : uk2 (x + 4 * nB + 128 + 3) = some (.inl ((X.2 1), 12, .inr (.inl (mapL (fun _ => 0) (driG (totS ce ra) wt (cutA (totS ce ra) wt mk (fun _ => 0))) 12)))) := by rw [huk2, gup_ne (by omega), gup_ne (by omega)]; exact huk1_12
    show GW Z _ _ _ ad uk2 (sz + 4) [(3, .ref (ad (x + 4 * nB + 128))), (2, .int r), (1, .ref (ad (x + 16 * k + 32))), (0, .ref (ad x))] 4 42 41 []
    refine g_aload_n C d_X_post_41 rfl 3 rfl ?_
    refine g_get x 2 C huk2_0 rfl i_X (by decide) (gmem wd_83 rfl) rfl rfl d_X_post_42 ?_
    refine g_null C d_X_post_45 ?_
    refine g_put (x + 3) 2 C huk2_2 rfl i_D t_D t_D_ok n_D (by decide) (gmem wd_38 rfl) rfl rfl rfl rfl (Nat.le_of_ble_eq_true rfl) d_X_post_46 ?_
    show GW Z _ _ _ ad (gup uk2 (x + 3) (.inr (2, [.ref (ad (x + 3 + 1)), .ref (ad (x + 3 + 2)), .null, .int way, .int ce, .int ra, .int lc]))) _ _ _ _ _ _
    obtain ⟨u3, hu3⟩ : ∃ z, z = gup uk2 (x + 3) (.inr (2, [.ref (ad (x + 3 + 1)), .ref (ad (x + 3 + 2)), .null, .int way, .int ce, .int ra, .int lc])) := ⟨_, rfl⟩
    rw [← hu3]
    have hu3_0 : u3 x = some (.inr (5, [.ref (ad (x + 1)), .ref (ad (x + 2)), .ref (ad (x + 3)), .ref (ad (x + 6)), .int (nI nC), .int (nI nB)])) := by rw [hu3, gup_ne (by omega)]; exact huk2_0
    have hu3_1 : u3 (x + 2) = some (.inl ((X.2 4), 64, .inr (.inr (.inr (.inr (bArr ad x nB)))))) := by rw [hu3, gup_ne (by omega)]; exact huk2_1
    have hu3_2 : u3 (x + 3) = some (.inr (2, [.ref (ad (x + 3 + 1)), .ref (ad (x + 3 + 2)), .null, .int way, .int ce, .int ra, .int lc])) := by rw [hu3]; exact gup_self _ _ _
    have hu3_3 : u3 (x + 3 + 1) = some (.inl ((X.2 1), 12, .inr (.inl py))) := by rw [hu3, gup_ne (by omega)]; exact huk2_3
    have hu3_4 : u3 (x + 3 + 2) = some (.inl ((X.2 1), 12, .inr (.inl wt))) := by rw [hu3, gup_ne (by omega)]; exact huk2_4
    have hu3_5 : u3 (x + 16 * k + 32) = some (.inr (1, [.ref (ad (x + 16 * k + 32 + 1)), .ref (ad (x + 16 * k + 32 + 2)), .ref (ad (x + 16 * k + 32 + 3)), .int mc, .int go, .int (nI (cutB (totS ce ra) wt mk (fun _ => 0)))])) := by rw [hu3, gup_ne (by omega)]; exact huk2_5
    have hu3_6 : u3 (x + 16 * k + 32 + 3) = some (.inr (4, [.ref (ad (x + 16 * k + 32 + 3 + 1)), .ref (ad (x + 16 * k + 32 + 3 + 2)), .ref (ad (x + 16 * k + 32 + 3 + 3)), .ref (ad (x + 16 * k + 32 + 3 + 4)), .ref (ad (x + 16 * k + 32 + 3 + 5)), .int op, .int gc, .int tc, .int wa])) := by rw [hu3, gup_ne (by omega)]; exact huk2_6
    have hu3_7 : u3 (x + 16 * k + 32 + 1) = some (.inl ((X.2 1), 12, .inr (.inl (mapL bal (fun j => bal j + (1 : Int32).toInt64 * ((cutA (totS ce ra) py 0 (fun _ => 0)) j - (cutA (totS ce ra) wt mk (fun _ => 0)) j)) 12)))) := by rw [hu3, gup_ne (by omega)]; exact huk2_7
    have hu3_8 : u3 (x + 16 * k + 32 + 2) = some (.inl ((X.2 1), 12, .inr (.inl (mapL dri (fun j => dri j + (1 : Int32).toInt64 * (mapL (fun _ => 0) (driG (totS ce ra) wt (cutA (totS ce ra) wt mk (fun _ => 0))) 12) j) 12)))) := by rw [hu3, gup_ne (by omega)]; exact huk2_8
    have hu3_9 : u3 (x + 4 * nB + 128) = some (.inr (0, [.ref (ad (x + 16 * k + 32)), .long (totS ce ra), .ref (ad (x + 4 * nB + 128 + 1)), .ref (ad (x + 4 * nB + 128 + 2)), .ref (ad (x + 4 * nB + 128 + 3)), .int 0])) := by rw [hu3, gup_ne (by omega)]; exact huk2_9
    have hu3_10 : u3 (x + 4 * nB + 128 + 1) = some (.inl ((X.2 1), 12, .inr (.inl (cutA (totS ce ra) py 0 (fun _ => 0))))) := by rw [hu3, gup_ne (by omega)]; exact huk2_10
    have hu3_11 : u3 (x + 4 * nB + 128 + 2) = some (.inl ((X.2 1), 12, .inr (.inl (cutA (totS ce ra) wt mk (fun _ => 0))))) := by rw [hu3, gup_ne (by omega)]; exact huk2_11
    have hu3_12 : u3 (x + 4 * nB + 128 + 3) = some (.inl ((X.2 1), 12, .inr (.inl (mapL (fun _ => 0) (driG (totS ce ra) wt (cutA (totS ce ra) wt mk (fun _ => 0))) 12)))) := by rw [hu3, gup_ne (by omega)]; exact huk2_12
    refine g_aload_n C d_X_post_49 rfl 3 rfl ?_
    refine g_get x 1 C hu3_0 rfl i_X (by decide) (gmem wd_82 rfl) rfl rfl d_X_post_50 ?_
    refine g_aload_n C d_X_post_53 rfl 3 rfl ?_
    refine g_get x 5 C hu3_0 rfl i_X (by decide) (gmem wd_86 rfl) rfl rfl d_X_post_54 ?_
    refine g_aload_n C d_X_post_57 rfl 0 rfl ?_
    refine g_aast (x + 2) (x + 4 * nB + 128) 4 C hu3_1 rfl hu3_9 rfl (vp_in_nI (by omega) (by decide)) d_X_post_58 ?_
    rw [nI_clamp (n := nB) (by omega), bArr_up]
    obtain ⟨u4, hu4⟩ : ∃ z, z = gup u3 (x + 2) (.inl ((X.2 4), 64, .inr (.inr (.inr (.inr (bArr ad x (nB + 1))))))) := ⟨_, rfl⟩
    rw [← hu4]
    have hu4_0 : u4 x = some (.inr (5, [.ref (ad (x + 1)), .ref (ad (x + 2)), .ref (ad (x + 3)), .ref (ad (x + 6)), .int (nI nC), .int (nI nB)])) := by rw [hu4, gup_ne (by omega)]; exact hu3_0
    have hu4_1 : u4 (x + 2) = some (.inl ((X.2 4), 64, .inr (.inr (.inr (.inr (bArr ad x (nB + 1))))))) := by rw [hu4]; exact gup_self _ _ _
    have hu4_2 : u4 (x + 3) = some (.inr (2, [.ref (ad (x + 3 + 1)), .ref (ad (x + 3 + 2)), .null, .int way, .int ce, .int ra, .int lc])) := by rw [hu4, gup_ne (by omega)]; exact hu3_2
    have hu4_3 : u4 (x + 3 + 1) = some (.inl ((X.2 1), 12, .inr (.inl py))) := by rw [hu4, gup_ne (by omega)]; exact hu3_3
    have hu4_4 : u4 (x + 3 + 2) = some (.inl ((X.2 1), 12, .inr (.inl wt))) := by rw [hu4, gup_ne (by omega)]; exact hu3_4
    have hu4_5 : u4 (x + 16 * k + 32) = some (.inr (1, [.ref (ad (x + 16 * k + 32 + 1)), .ref (ad (x + 16 * k + 32 + 2)), .ref (ad (x + 16 * k + 32 + 3)), .int mc, .int go, .int (nI (cutB (totS ce ra) wt mk (fun _ => 0)))])) := by rw [hu4, gup_ne (by omega)]; exact hu3_5
    have hu4_6 : u4 (x + 16 * k + 32 + 3) = some (.inr (4, [.ref (ad (x + 16 * k + 32 + 3 + 1)), .ref (ad (x + 16 * k + 32 + 3 + 2)), .ref (ad (x + 16 * k + 32 + 3 + 3)), .ref (ad (x + 16 * k + 32 + 3 + 4)), .ref (ad (x + 16 * k + 32 + 3 + 5)), .int op, .int gc, .int tc, .int wa])) := by rw [hu4, gup_ne (by omega)]; exact hu3_6
    have hu4_7 : u4 (x + 16 * k + 32 + 1) = some (.inl ((X.2 1), 12, .inr (.inl (mapL bal (fun j => bal j + (1 : Int32).toInt64 * ((cutA (totS ce ra) py 0 (fun _ => 0)) j - (cutA (totS ce ra) wt mk (fun _ => 0)) j)) 12)))) := by rw [hu4, gup_ne (by omega)]; exact hu3_7
    have hu4_8 : u4 (x + 16 * k + 32 + 2) = some (.inl ((X.2 1), 12, .inr (.inl (mapL dri (fun j => dri j + (1 : Int32).toInt64 * (mapL (fun _ => 0) (driG (totS ce ra) wt (cutA (totS ce ra) wt mk (fun _ => 0))) 12) j) 12)))) := by rw [hu4, gup_ne (by omega)]; exact hu3_8
    have hu4_9 : u4 (x + 4 * nB + 128) = some (.inr (0, [.ref (ad (x + 16 * k + 32)), .long (totS ce ra), .ref (ad (x + 4 * nB + 128 + 1)), .ref (ad (x + 4 * nB + 128 + 2)), .ref (ad (x + 4 * nB + 128 + 3)), .int 0])) := by rw [hu4, gup_ne (by omega)]; exact hu3_9
    have hu4_10 : u4 (x + 4 * nB + 128 + 1) = some (.inl ((X.2 1), 12, .inr (.inl (cutA (totS ce ra) py 0 (fun _ => 0))))) := by rw [hu4, gup_ne (by omega)]; exact hu3_10
    have hu4_11 : u4 (x + 4 * nB + 128 + 2) = some (.inl ((X.2 1), 12, .inr (.inl (cutA (totS ce ra) wt mk (fun _ => 0))))) := by rw [hu4, gup_ne (by omega)]; exact hu3_11
    have hu4_12 : u4 (x + 4 * nB + 128 + 3) = some (.inl ((X.2 1), 12, .inr (.inl (mapL (fun _ => 0) (driG (totS ce ra) wt (cutA (totS ce ra) wt mk (fun _ => 0))) 12)))) := by rw [hu4, gup_ne (by omega)]; exact hu3_12
    refine g_aload_n C d_X_post_59 rfl 3 rfl ?_
    refine g_dup C d_X_post_60 rfl ?_
    refine g_get x 5 C hu4_0 rfl i_X (by decide) (gmem wd_86 rfl) rfl rfl d_X_post_61 ?_
    refine g_iconst (v := 1) C d_X_post_64 (by decide) ?_
    refine g_iadd C d_X_post_65 ?_
    rw [nI_1]
    refine g_put x 5 C hu4_0 rfl i_X t_X t_X_ok n_X (by decide) (gmem wd_86 rfl) rfl rfl rfl rfl (Nat.le_of_ble_eq_true rfl) d_X_post_66 ?_
    show GW Z _ _ _ ad (gup u4 x (.inr (5, [.ref (ad (x + 1)), .ref (ad (x + 2)), .ref (ad (x + 3)), .ref (ad (x + 6)), .int (nI nC), .int (nI (nB + 1))]))) _ _ _ _ _ _
    obtain ⟨u5, hu5⟩ : ∃ z, z = gup u4 x (.inr (5, [.ref (ad (x + 1)), .ref (ad (x + 2)), .ref (ad (x + 3)), .ref (ad (x + 6)), .int (nI nC), .int (nI (nB + 1))])) := ⟨_, rfl⟩
    rw [← hu5]
    have hu5_0 : u5 x = some (.inr (5, [.ref (ad (x + 1)), .ref (ad (x + 2)), .ref (ad (x + 3)), .ref (ad (x + 6)), .int (nI nC), .int (nI (nB + 1))])) := by rw [hu5]; exact gup_self _ _ _
    have hu5_1 : u5 (x + 2) = some (.inl ((X.2 4), 64, .inr (.inr (.inr (.inr (bArr ad x (nB + 1))))))) := by rw [hu5, gup_ne (by omega)]; exact hu4_1
    have hu5_2 : u5 (x + 3) = some (.inr (2, [.ref (ad (x + 3 + 1)), .ref (ad (x + 3 + 2)), .null, .int way, .int ce, .int ra, .int lc])) := by rw [hu5, gup_ne (by omega)]; exact hu4_2
    have hu5_3 : u5 (x + 3 + 1) = some (.inl ((X.2 1), 12, .inr (.inl py))) := by rw [hu5, gup_ne (by omega)]; exact hu4_3
    have hu5_4 : u5 (x + 3 + 2) = some (.inl ((X.2 1), 12, .inr (.inl wt))) := by rw [hu5, gup_ne (by omega)]; exact hu4_4
    have hu5_5 : u5 (x + 16 * k + 32) = some (.inr (1, [.ref (ad (x + 16 * k + 32 + 1)), .ref (ad (x + 16 * k + 32 + 2)), .ref (ad (x + 16 * k + 32 + 3)), .int mc, .int go, .int (nI (cutB (totS ce ra) wt mk (fun _ => 0)))])) := by rw [hu5, gup_ne (by omega)]; exact hu4_5
    have hu5_6 : u5 (x + 16 * k + 32 + 3) = some (.inr (4, [.ref (ad (x + 16 * k + 32 + 3 + 1)), .ref (ad (x + 16 * k + 32 + 3 + 2)), .ref (ad (x + 16 * k + 32 + 3 + 3)), .ref (ad (x + 16 * k + 32 + 3 + 4)), .ref (ad (x + 16 * k + 32 + 3 + 5)), .int op, .int gc, .int tc, .int wa])) := by rw [hu5, gup_ne (by omega)]; exact hu4_6
    have hu5_7 : u5 (x + 16 * k + 32 + 1) = some (.inl ((X.2 1), 12, .inr (.inl (mapL bal (fun j => bal j + (1 : Int32).toInt64 * ((cutA (totS ce ra) py 0 (fun _ => 0)) j - (cutA (totS ce ra) wt mk (fun _ => 0)) j)) 12)))) := by rw [hu5, gup_ne (by omega)]; exact hu4_7
    have hu5_8 : u5 (x + 16 * k + 32 + 2) = some (.inl ((X.2 1), 12, .inr (.inl (mapL dri (fun j => dri j + (1 : Int32).toInt64 * (mapL (fun _ => 0) (driG (totS ce ra) wt (cutA (totS ce ra) wt mk (fun _ => 0))) 12) j) 12)))) := by rw [hu5, gup_ne (by omega)]; exact hu4_8
    have hu5_9 : u5 (x + 4 * nB + 128) = some (.inr (0, [.ref (ad (x + 16 * k + 32)), .long (totS ce ra), .ref (ad (x + 4 * nB + 128 + 1)), .ref (ad (x + 4 * nB + 128 + 2)), .ref (ad (x + 4 * nB + 128 + 3)), .int 0])) := by rw [hu5, gup_ne (by omega)]; exact hu4_9
    have hu5_10 : u5 (x + 4 * nB + 128 + 1) = some (.inl ((X.2 1), 12, .inr (.inl (cutA (totS ce ra) py 0 (fun _ => 0))))) := by rw [hu5, gup_ne (by omega)]; exact hu4_10
    have hu5_11 : u5 (x + 4 * nB + 128 + 2) = some (.inl ((X.2 1), 12, .inr (.inl (cutA (totS ce ra) wt mk (fun _ => 0))))) := by rw [hu5, gup_ne (by omega)]; exact hu4_11
    have hu5_12 : u5 (x + 4 * nB + 128 + 3) = some (.inl ((X.2 1), 12, .inr (.inl (mapL (fun _ => 0) (driG (totS ce ra) wt (cutA (totS ce ra) wt mk (fun _ => 0))) 12)))) := by rw [hu5, gup_ne (by omega)]; exact hu4_12
    refine g_aload_n C d_X_post_69 rfl 3 rfl ?_
    refine g_get x 5 C hu5_0 rfl i_X (by decide) (gmem wd_86 rfl) rfl rfl d_X_post_70 ?_
    refine g_iconst (v := 1) C d_X_post_73 (by decide) ?_
    refine g_isub C d_X_post_74 ?_
    have hfin6 : u5 = gup (gup (gup (gup (gup (gup (gup (gup (gup (gup u x (.inr (5, [.ref (ad (x + 1)), .ref (ad (x + 2)), .ref (ad (x + 3)), .ref (ad (x + 6)), .int (nI nC), .int (nI (nB + 1))]))) (x + 2) (.inl ((X.2 4), 64, .inr (.inr (.inr (.inr (bArr ad x (nB + 1)))))))) (x + 3) (.inr (2, [.ref (ad (x + 3 + 1)), .ref (ad (x + 3 + 2)), .null, .int way, .int ce, .int ra, .int lc]))) (x + 16 * k + 32) (.inr (1, [.ref (ad (x + 16 * k + 32 + 1)), .ref (ad (x + 16 * k + 32 + 2)), .ref (ad (x + 16 * k + 32 + 3)), .int mc, .int go, .int (nI (cutB (totS ce ra) wt mk (fun _ => 0)))]))) (x + 16 * k + 32 + 1) (.inl ((X.2 1), 12, .inr (.inl (mapL bal (fun j => bal j + (1 : Int32).toInt64 * ((cutA (totS ce ra) py 0 (fun _ => 0)) j - (cutA (totS ce ra) wt mk (fun _ => 0)) j)) 12))))) (x + 16 * k + 32 + 2) (.inl ((X.2 1), 12, .inr (.inl (mapL dri (fun j => dri j + (1 : Int32).toInt64 * (mapL (fun _ => 0) (driG (totS ce ra) wt (cutA (totS ce ra) wt mk (fun _ => 0))) 12) j) 12))))) (x + 4 * nB + 128) (.inr (0, [.ref (ad (x + 16 * k + 32)), .long (totS ce ra), .ref (ad (x + 4 * nB + 128 + 1)), .ref (ad (x + 4 * nB + 128 + 2)), .ref (ad (x + 4 * nB + 128 + 3)), .int 0]))) (x + 4 * nB + 128 + 1) (.inl ((X.2 1), 12, .inr (.inl (cutA (totS ce ra) py 0 (fun _ => 0)))))) (x + 4 * nB + 128 + 2) (.inl ((X.2 1), 12, .inr (.inl (cutA (totS ce ra) wt mk (fun _ => 0)))))) (x + 4 * nB + 128 + 3) (.inl ((X.2 1), 12, .inr (.inl (mapL (fun _ => 0) (driG (totS ce ra) wt (cutA (totS ce ra) wt mk (fun _ => 0))) 12)))) := by
      funext kq
      by_cases hk0 : kq = x
      · rw [hk0, hu5_0, gup_ne (by omega), gup_ne (by omega), gup_ne (by omega), gup_ne (by omega), gup_ne (by omega), gup_ne (by omega), gup_ne (by omega), gup_ne (by omega), gup_ne (by omega), gup_self]
      by_cases hk1 : kq = x + 2
      · rw [hk1, hu5_1, gup_ne (by omega), gup_ne (by omega), gup_ne (by omega), gup_ne (by omega), gup_ne (by omega), gup_ne (by omega), gup_ne (by omega), gup_ne (by omega), gup_self]
      by_cases hk2 : kq = x + 3
      · rw [hk2, hu5_2, gup_ne (by omega), gup_ne (by omega), gup_ne (by omega), gup_ne (by omega), gup_ne (by omega), gup_ne (by omega), gup_ne (by omega), gup_self]
      by_cases hk3 : kq = x + 16 * k + 32
      · rw [hk3, hu5_5, gup_ne (by omega), gup_ne (by omega), gup_ne (by omega), gup_ne (by omega), gup_ne (by omega), gup_ne (by omega), gup_self]
      by_cases hk4 : kq = x + 16 * k + 32 + 1
      · rw [hk4, hu5_7, gup_ne (by omega), gup_ne (by omega), gup_ne (by omega), gup_ne (by omega), gup_ne (by omega), gup_self]
      by_cases hk5 : kq = x + 16 * k + 32 + 2
      · rw [hk5, hu5_8, gup_ne (by omega), gup_ne (by omega), gup_ne (by omega), gup_ne (by omega), gup_self]
      by_cases hk6 : kq = x + 4 * nB + 128
      · rw [hk6, hu5_9, gup_ne (by omega), gup_ne (by omega), gup_ne (by omega), gup_self]
      by_cases hk7 : kq = x + 4 * nB + 128 + 1
      · rw [hk7, hu5_10, gup_ne (by omega), gup_ne (by omega), gup_self]
      by_cases hk8 : kq = x + 4 * nB + 128 + 2
      · rw [hk8, hu5_11, gup_ne (by omega), gup_self]
      by_cases hk9 : kq = x + 4 * nB + 128 + 3
      · rw [hk9, hu5_12, gup_self]
      rw [hu5, gup_ne hk0]
      rw [hu4, gup_ne hk1]
      rw [hu3, gup_ne hk2]
      rw [huk2, gup_ne hk5, gup_ne hk4]
      rw [huk1, gup_ne hk3, gup_ne hk9, gup_ne hk8, gup_ne hk7, gup_ne hk6]
      rw [gup_ne hk9, gup_ne hk8, gup_ne hk7, gup_ne hk6, gup_ne hk5, gup_ne hk4, gup_ne hk3, gup_ne hk2, gup_ne hk1, gup_ne hk0]
    exact g_iret C hR hret ⟨r, hr9, Or.inr ⟨c21, rfl, hfin6, rfl⟩⟩ d_X_post_75
  · skip
    refine g_iload_n C d_X_post_24 rfl 0 rfl ?_
    refine g_widen (k := 4) (n := 42) (by decide) (by decide) ?_
    exact g_iret C hR hret ⟨r, hr9, Or.inl ⟨c21, rfl, rfl, rfl⟩⟩ d_X_post_25

set_option maxHeartbeats 4000000 in
set_option maxRecDepth 100000 in
theorem k_X_post_no (l : Launch) (X : gX) (ad : Nat → Nat) (u : gW) (sz : Nat) (x nC nB : Nat) (way ce ra lc : Int32) (hx : u x = some (.inr (5, [.ref (ad (x + 1)), .ref (ad (x + 2)), .ref (ad (x + 3)), .ref (ad (x + 6)), .int (nI nC), .int (nI nB)]))) (hd : u (x + 3) = some (.inr (2, [.ref (ad (x + 3 + 1)), .ref (ad (x + 3 + 2)), .null, .int way, .int ce, .int ra, .int lc])))  : gMet l (EE X) y_X_post c_X_post 4 (some .int) ({ frames := 3, cells := 4, slots := 42, locals := 92 }) [.ref (ad x)] ad u sz (fun v u' sz' => v = some (.int (-1)) ∧ u' = u ∧ sz' = sz) := by
  refine gMet_of "ExpenseClubs" rfl (by decide) (Nat.le_of_ble_eq_true rfl) (lv := [(0, .ref (ad x))]) rfl (fun Z hZl C hR hret hname => ?_)
  refine g_aload_n C d_X_post_0 rfl 0 rfl ?_
  refine g_get x 2 C hx rfl i_X (by decide) (gmem wd_83 rfl) rfl rfl d_X_post_1 ?_
  refine g_get (x + 3) 2 C hd rfl i_D (by decide) (gmem wd_38 rfl) rfl rfl d_X_post_4 ?_
  refine g_astore_nN C d_X_post_7 rfl [(1, .null), (0, .ref (ad x))] (by decide) rfl ?_
  refine g_aload_nN C d_X_post_8 rfl 0 rfl ?_
  refine g_ifnonnullN C d_X_post_9 ?_
  refine g_iconst (v := (-1)) C d_X_post_12 (by decide) ?_
  refine g_widen (k := 4) (n := 42) (by decide) (by decide) ?_
  exact g_iret C hR hret ⟨rfl, rfl, rfl⟩ d_X_post_13
