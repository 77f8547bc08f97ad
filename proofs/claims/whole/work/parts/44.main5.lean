set_option maxHeartbeats 4000000 in
set_option maxRecDepth 100000 in
theorem k_X_payer_no (l : Launch) (X : gX) (ad : Nat → Nat) (u : gW) (sz : Nat) (x nC nB : Nat) (way ce ra lc a0 a1 : Int32) (hx : u x = some (.inr (5, [.ref (ad (x + 1)), .ref (ad (x + 2)), .ref (ad (x + 3)), .ref (ad (x + 6)), .int (nI nC), .int (nI nB)]))) (hd : u (x + 3) = some (.inr (2, [.ref (ad (x + 3 + 1)), .ref (ad (x + 3 + 2)), .null, .int way, .int ce, .int ra, .int lc])))  : gMet l (EE X) y_X_payer c_X_payer 4 (some .boolean) ({ frames := 2, cells := 0, slots := 0, locals := 42 }) [.ref (ad x), .int a0, .int a1] ad u sz (fun v u' sz' => v = some (.int 0) ∧ u' = u ∧ sz' = sz) := by
  refine gMet_of "ExpenseClubs" rfl (by decide) (Nat.le_of_ble_eq_true rfl) (lv := [(0, .ref (ad x)), (1, .int a0), (2, .int a1)]) rfl (fun Z hZl C hR hret hname => ?_)
  refine g_aload_n C d_X_payer_0 rfl 0 rfl ?_
  refine g_get x 2 C hx rfl i_X (by decide) (gmem wd_83 rfl) rfl rfl d_X_payer_1 ?_
  refine g_get (x + 3) 2 C hd rfl i_D (by decide) (gmem wd_38 rfl) rfl rfl d_X_payer_4 ?_
  refine g_astore_nN C d_X_payer_7 rfl [(3, .null), (0, .ref (ad x)), (1, .int a0), (2, .int a1)] (by decide) rfl ?_
  refine g_aload_nN C d_X_payer_8 rfl 0 rfl ?_
  refine g_ifnullN 30 C d_X_payer_9 (by decide) ?_
  refine g_iconst (v := 0) C d_X_payer_30 (by decide) ?_
  exact g_zret C hR hret rfl ⟨rfl, rfl, rfl⟩ d_X_payer_31

set_option maxHeartbeats 4000000 in
set_option maxRecDepth 100000 in
theorem k_X_weight_no (l : Launch) (X : gX) (ad : Nat → Nat) (u : gW) (sz : Nat) (x nC nB : Nat) (way ce ra lc a0 a1 : Int32) (hx : u x = some (.inr (5, [.ref (ad (x + 1)), .ref (ad (x + 2)), .ref (ad (x + 3)), .ref (ad (x + 6)), .int (nI nC), .int (nI nB)]))) (hd : u (x + 3) = some (.inr (2, [.ref (ad (x + 3 + 1)), .ref (ad (x + 3 + 2)), .null, .int way, .int ce, .int ra, .int lc])))  : gMet l (EE X) y_X_weight c_X_weight 4 (some .boolean) ({ frames := 2, cells := 0, slots := 0, locals := 42 }) [.ref (ad x), .int a0, .int a1] ad u sz (fun v u' sz' => v = some (.int 0) ∧ u' = u ∧ sz' = sz) := by
  refine gMet_of "ExpenseClubs" rfl (by decide) (Nat.le_of_ble_eq_true rfl) (lv := [(0, .ref (ad x)), (1, .int a0), (2, .int a1)]) rfl (fun Z hZl C hR hret hname => ?_)
  refine g_aload_n C d_X_weight_0 rfl 0 rfl ?_
  refine g_get x 2 C hx rfl i_X (by decide) (gmem wd_83 rfl) rfl rfl d_X_weight_1 ?_
  refine g_get (x + 3) 2 C hd rfl i_D (by decide) (gmem wd_38 rfl) rfl rfl d_X_weight_4 ?_
  refine g_astore_nN C d_X_weight_7 rfl [(3, .null), (0, .ref (ad x)), (1, .int a0), (2, .int a1)] (by decide) rfl ?_
  refine g_aload_nN C d_X_weight_8 rfl 0 rfl ?_
  refine g_ifnullN 49 C d_X_weight_9 (by decide) ?_
  refine g_iconst (v := 0) C d_X_weight_49 (by decide) ?_
  exact g_zret C hR hret rfl ⟨rfl, rfl, rfl⟩ d_X_weight_50

set_option maxHeartbeats 4000000 in
set_option maxRecDepth 100000 in
theorem k_X_line_no (l : Launch) (X : gX) (ad : Nat → Nat) (u : gW) (sz : Nat) (x nC nB : Nat) (way ce ra lc a0 a1 : Int32) (hx : u x = some (.inr (5, [.ref (ad (x + 1)), .ref (ad (x + 2)), .ref (ad (x + 3)), .ref (ad (x + 6)), .int (nI nC), .int (nI nB)]))) (hd : u (x + 3) = some (.inr (2, [.ref (ad (x + 3 + 1)), .ref (ad (x + 3 + 2)), .null, .int way, .int ce, .int ra, .int lc])))  : gMet l (EE X) y_X_line c_X_line 4 (some .boolean) ({ frames := 2, cells := 0, slots := 0, locals := 46 }) [.ref (ad x), .int a0, .int a1] ad u sz (fun v u' sz' => v = some (.int 0) ∧ u' = u ∧ sz' = sz) := by
  refine gMet_of "ExpenseClubs" rfl (by decide) (Nat.le_of_ble_eq_true rfl) (lv := [(0, .ref (ad x)), (1, .int a0), (2, .int a1)]) rfl (fun Z hZl C hR hret hname => ?_)
  refine g_aload_n C d_X_line_0 rfl 0 rfl ?_
  refine g_get x 2 C hx rfl i_X (by decide) (gmem wd_83 rfl) rfl rfl d_X_line_1 ?_
  refine g_get (x + 3) 2 C hd rfl i_D (by decide) (gmem wd_38 rfl) rfl rfl d_X_line_4 ?_
  refine g_astore_nN C d_X_line_7 rfl [(3, .null), (0, .ref (ad x)), (1, .int a0), (2, .int a1)] (by decide) rfl ?_
  refine g_aload_nN C d_X_line_8 rfl 0 rfl ?_
  refine g_ifnullN 61 C d_X_line_9 (by decide) ?_
  refine g_iconst (v := 0) C d_X_line_61 (by decide) ?_
  exact g_zret C hR hret rfl ⟨rfl, rfl, rfl⟩ d_X_line_62

set_option maxHeartbeats 4000000 in
set_option maxRecDepth 100000 in
theorem k_X_payer_ok (l : Launch) (X : gX) (ad : Nat → Nat) (u : gW) (sz : Nat) (x nC nB k : Nat) (mc go mk way ce ra lc : Int32) (py : Nat → Int64) (y n : Int32) (hx : u x = some (.inr (5, [.ref (ad (x + 1)), .ref (ad (x + 2)), .ref (ad (x + 3)), .ref (ad (x + 6)), .int (nI nC), .int (nI nB)]))) (hd : u (x + 3) = some (.inr (2, [.ref (ad (x + 3 + 1)), .ref (ad (x + 3 + 2)), .ref (ad (x + 16 * k + 32)), .int way, .int ce, .int ra, .int lc]))) (hB : u (x + 16 * k + 32) = some (.inr (1, [.ref (ad (x + 16 * k + 32 + 1)), .ref (ad (x + 16 * k + 32 + 2)), .ref (ad (x + 16 * k + 32 + 3)), .int mc, .int go, .int mk]))) (hd1 : u (x + 3 + 1) = some (.inl ((X.2 1), 12, .inr (.inl py)))) (hmc : mc ≤ 12) : gMet l (EE X) y_X_payer c_X_payer 4 (some .boolean) ({ frames := 2, cells := 0, slots := 0, locals := 42 }) [.ref (ad x), .int y, .int n] ad u sz (fun v u' sz' => sz' = sz ∧ (((isPr y mc go && (!decide (n < 0) && decide (n ≤ 100000000))) = true ∧ v = some (.int 1) ∧ u' = gup u (x + 3 + 1) (.inl ((X.2 1), 12, .inr (.inl (vp_updL py y.toNatClampNeg n.toInt64))))) ∨ ((isPr y mc go && (!decide (n < 0) && decide (n ≤ 100000000))) = false ∧ v = some (.int 0) ∧ u' = u))) := by
  refine gMet_of "ExpenseClubs" rfl (by decide) (Nat.le_of_ble_eq_true rfl) (lv := [(0, .ref (ad x)), (1, .int y), (2, .int n)]) rfl (fun Z hZl C hR hret hname => ?_)
  refine g_aload_n C d_X_payer_0 rfl 0 rfl ?_
  refine g_get x 2 C hx rfl i_X (by decide) (gmem wd_83 rfl) rfl rfl d_X_payer_1 ?_
  refine g_get (x + 3) 2 C hd rfl i_D (by decide) (gmem wd_38 rfl) rfl rfl d_X_payer_4 ?_
  refine g_astore_n C d_X_payer_7 rfl [(3, .ref (ad (x + 16 * k + 32))), (0, .ref (ad x)), (1, .int y), (2, .int n)] (by decide) rfl ?_
  refine g_aload_n C d_X_payer_8 rfl 0 rfl ?_
  refine g_ifnull C d_X_payer_9 ?_
  refine g_aload_n C d_X_payer_12 rfl 0 rfl ?_
  refine g_iload_n C d_X_payer_13 rfl 2 rfl ?_
  refine g_callV 1 C (k_C_isPresent _ X ad u sz (x + 16 * k + 32) _ _ _ mc go mk y hB) (gmem wd_197 rfl) (gmem wd_198 rfl) (gmem wd_199 rfl) (gmem wd_5 rfl) (gmem wd_200 rfl) ⟨by decide, by decide, by decide +kernel⟩ ⟨Nat.le_of_ble_eq_true rfl, Nat.le_of_ble_eq_true rfl⟩ hB rfl rfl rfl (Nat.le_of_ble_eq_true rfl) d_X_payer_14 ⟨Nat.le_of_ble_eq_true rfl, Nat.le_of_ble_eq_true rfl⟩ ?_
  rintro v9 u9 s9 ⟨h9, hu9, hs9⟩; rw [h9, hu9, hs9]; clear h9 hu9 hs9 v9 u9 s9
  show GW Z _ _ _ ad u sz [(3, .ref (ad (x + 16 * k + 32))), (0, .ref (ad x)), (1, .int y), (2, .int n)] 0 0 17 [.int (bI (isPr y mc go))]
  refine g_if_eq 30 C d_X_payer_17 (by decide) (fun c17 => ?_) (fun c17 => ?_)
  · skip
    refine g_iconst (v := 0) C d_X_payer_30 (by decide) ?_
    exact g_zret C hR hret rfl ⟨rfl, Or.inr ⟨by simp only [bI_eq0.mp c17, Bool.not_true, Bool.not_false, Bool.and_true, Bool.true_and, Bool.false_and, Bool.and_false, bI_t, bI_f], rfl, rfl⟩⟩ d_X_payer_31
  · skip
    refine g_iload_n C d_X_payer_20 rfl 3 rfl ?_
    refine g_if_lt 30 C d_X_payer_21 (by decide) (fun c21 => ?_) (fun c21 => ?_)
    · skip
      refine g_iconst (v := 0) C d_X_payer_30 (by decide) ?_
      exact g_zret C hR hret rfl ⟨rfl, Or.inr ⟨by simp only [bI_ne0.mp c17, decide_eq_true c21, if_pos c21, Bool.not_true, Bool.not_false, Bool.and_true, Bool.true_and, Bool.false_and, Bool.and_false, bI_t, bI_f], rfl, rfl⟩⟩ d_X_payer_31
    · skip
      refine g_iload_n C d_X_payer_24 rfl 3 rfl ?_
      refine g_ldc C (gmem wd_213 rfl) d_X_payer_25 ?_
      refine g_icmp_le 32 C d_X_payer_27 (by decide) (fun c27 => ?_) (fun c27 => ?_)
      · skip
        refine g_aload_n C d_X_payer_32 rfl 1 rfl ?_
        refine g_get x 2 C hx rfl i_X (by decide) (gmem wd_83 rfl) rfl rfl d_X_payer_33 ?_
        refine g_get (x + 3) 0 C hd rfl i_D (by decide) (gmem wd_34 rfl) rfl rfl d_X_payer_36 ?_
        refine g_iload_n C d_X_payer_39 rfl 2 rfl ?_
        refine g_iload_n C d_X_payer_40 rfl 3 rfl ?_
        refine g_i2l C d_X_payer_41 ?_
        refine g_topl (fun x42 ex42 => ?_)
        refine g_last (x + 3 + 1) 1 C hd1 rfl (isPr_in (bI_ne0.mp c17) hmc) d_X_payer_42 ?_
        obtain ⟨u1, hu1⟩ : ∃ z, z = gup u (x + 3 + 1) (.inl ((X.2 1), 12, .inr (.inl (vp_updL py (Int32.toNatClampNeg y) x42)))) := ⟨_, rfl⟩
        rw [← hu1]
        have hu1_0 : u1 x = some (.inr (5, [.ref (ad (x + 1)), .ref (ad (x + 2)), .ref (ad (x + 3)), .ref (ad (x + 6)), .int (nI nC), .int (nI nB)])) := by rw [hu1, gup_ne (by omega)]; exact hx
        have hu1_1 : u1 (x + 3) = some (.inr (2, [.ref (ad (x + 3 + 1)), .ref (ad (x + 3 + 2)), .ref (ad (x + 16 * k + 32)), .int way, .int ce, .int ra, .int lc])) := by rw [hu1, gup_ne (by omega)]; exact hd
        have hu1_2 : u1 (x + 16 * k + 32) = some (.inr (1, [.ref (ad (x + 16 * k + 32 + 1)), .ref (ad (x + 16 * k + 32 + 2)), .ref (ad (x + 16 * k + 32 + 3)), .int mc, .int go, .int mk])) := by rw [hu1, gup_ne (by omega)]; exact hB
        have hu1_3 : u1 (x + 3 + 1) = some (.inl ((X.2 1), 12, .inr (.inl (vp_updL py (Int32.toNatClampNeg y) x42)))) := by rw [hu1]; exact gup_self _ _ _
        refine g_iconst (v := 1) C d_X_payer_43 (by decide) ?_
        exact g_zret C hR hret rfl ⟨rfl, Or.inl ⟨by simp only [bI_ne0.mp c17, decide_eq_false c21, if_neg c21, decide_eq_true c27, if_pos c27, Bool.not_true, Bool.not_false, Bool.and_true, Bool.true_and, Bool.false_and, Bool.and_false, bI_t, bI_f], rfl, (by first | (rw [hu1]; done) | (rw [hu1]; simp only [ex42]; done) | (rw [hu1]; simp only [ex42]; funext k; simp only [gup]; (repeat' split) <;> first | with_reducible rfl | (exfalso; omega)))⟩⟩ d_X_payer_44
      · skip
        refine g_iconst (v := 0) C d_X_payer_30 (by decide) ?_
        exact g_zret C hR hret rfl ⟨rfl, Or.inr ⟨by simp only [bI_ne0.mp c17, decide_eq_false c21, if_neg c21, decide_eq_false c27, if_neg c27, Bool.not_true, Bool.not_false, Bool.and_true, Bool.true_and, Bool.false_and, Bool.and_false, bI_t, bI_f], rfl, rfl⟩⟩ d_X_payer_31

set_option maxHeartbeats 4000000 in
set_option maxRecDepth 100000 in
theorem k_X_weight_ok (l : Launch) (X : gX) (ad : Nat → Nat) (u : gW) (sz : Nat) (x nC nB k : Nat) (mc go mk way ce ra lc : Int32) (wt : Nat → Int64) (y n : Int32) (hx : u x = some (.inr (5, [.ref (ad (x + 1)), .ref (ad (x + 2)), .ref (ad (x + 3)), .ref (ad (x + 6)), .int (nI nC), .int (nI nB)]))) (hd : u (x + 3) = some (.inr (2, [.ref (ad (x + 3 + 1)), .ref (ad (x + 3 + 2)), .ref (ad (x + 16 * k + 32)), .int way, .int ce, .int ra, .int lc]))) (hB : u (x + 16 * k + 32) = some (.inr (1, [.ref (ad (x + 16 * k + 32 + 1)), .ref (ad (x + 16 * k + 32 + 2)), .ref (ad (x + 16 * k + 32 + 3)), .int mc, .int go, .int mk]))) (hd2 : u (x + 3 + 2) = some (.inl ((X.2 1), 12, .inr (.inl wt)))) (hmc : mc ≤ 12) : gMet l (EE X) y_X_weight c_X_weight 4 (some .boolean) ({ frames := 2, cells := 0, slots := 0, locals := 42 }) [.ref (ad x), .int y, .int n] ad u sz (fun v u' sz' => sz' = sz ∧ (((!decide (way = 5) && (isPr y mc go && (!decide (n < 0) && decide (n ≤ mostW way)))) = true ∧ v = some (.int 1) ∧ u' = gup u (x + 3 + 2) (.inl ((X.2 1), 12, .inr (.inl (vp_updL wt y.toNatClampNeg n.toInt64))))) ∨ ((!decide (way = 5) && (isPr y mc go && (!decide (n < 0) && decide (n ≤ mostW way)))) = false ∧ v = some (.int 0) ∧ u' = u))) := by
  refine gMet_of "ExpenseClubs" rfl (by decide) (Nat.le_of_ble_eq_true rfl) (lv := [(0, .ref (ad x)), (1, .int y), (2, .int n)]) rfl (fun Z hZl C hR hret hname => ?_)
  refine g_aload_n C d_X_weight_0 rfl 0 rfl ?_
  refine g_get x 2 C hx rfl i_X (by decide) (gmem wd_83 rfl) rfl rfl d_X_weight_1 ?_
  refine g_get (x + 3) 2 C hd rfl i_D (by decide) (gmem wd_38 rfl) rfl rfl d_X_weight_4 ?_
  refine g_astore_n C d_X_weight_7 rfl [(3, .ref (ad (x + 16 * k + 32))), (0, .ref (ad x)), (1, .int y), (2, .int n)] (by decide) rfl ?_
  refine g_aload_n C d_X_weight_8 rfl 0 rfl ?_
  refine g_ifnull C d_X_weight_9 ?_
  refine g_aload_n C d_X_weight_12 rfl 1 rfl ?_
  refine g_get x 2 C hx rfl i_X (by decide) (gmem wd_83 rfl) rfl rfl d_X_weight_13 ?_
  refine g_get (x + 3) 3 C hd rfl i_D (by decide) (gmem wd_40 rfl) rfl rfl d_X_weight_16 ?_
  refine g_iconst (v := 5) C d_X_weight_19 (by decide) ?_
  refine g_icmp_eq 49 C d_X_weight_20 (by decide) (fun c20 => ?_) (fun c20 => ?_)
  · skip
    refine g_iconst (v := 0) C d_X_weight_49 (by decide) ?_
    exact g_zret C hR hret rfl ⟨rfl, Or.inr ⟨by simp only [decide_eq_true c20, if_pos c20, Bool.not_true, Bool.not_false, Bool.and_true, Bool.true_and, Bool.false_and, Bool.and_false, bI_t, bI_f], rfl, rfl⟩⟩ d_X_weight_50
  · skip
    refine g_aload_n C d_X_weight_23 rfl 0 rfl ?_
    refine g_iload_n C d_X_weight_24 rfl 2 rfl ?_
    refine g_callV 1 C (k_C_isPresent _ X ad u sz (x + 16 * k + 32) _ _ _ mc go mk y hB) (gmem wd_197 rfl) (gmem wd_198 rfl) (gmem wd_199 rfl) (gmem wd_5 rfl) (gmem wd_200 rfl) ⟨by decide, by decide, by decide +kernel⟩ ⟨Nat.le_of_ble_eq_true rfl, Nat.le_of_ble_eq_true rfl⟩ hB rfl rfl rfl (Nat.le_of_ble_eq_true rfl) d_X_weight_25 ⟨Nat.le_of_ble_eq_true rfl, Nat.le_of_ble_eq_true rfl⟩ ?_
    rintro v9 u9 s9 ⟨h9, hu9, hs9⟩; rw [h9, hu9, hs9]; clear h9 hu9 hs9 v9 u9 s9
    show GW Z _ _ _ ad u sz [(3, .ref (ad (x + 16 * k + 32))), (0, .ref (ad x)), (1, .int y), (2, .int n)] 0 0 28 [.int (bI (isPr y mc go))]
    refine g_if_eq 49 C d_X_weight_28 (by decide) (fun c28 => ?_) (fun c28 => ?_)
    · skip
      refine g_iconst (v := 0) C d_X_weight_49 (by decide) ?_
      exact g_zret C hR hret rfl ⟨rfl, Or.inr ⟨by simp only [decide_eq_false c20, if_neg c20, bI_eq0.mp c28, Bool.not_true, Bool.not_false, Bool.and_true, Bool.true_and, Bool.false_and, Bool.and_false, bI_t, bI_f], rfl, rfl⟩⟩ d_X_weight_50
    · skip
      refine g_iload_n C d_X_weight_31 rfl 3 rfl ?_
      refine g_if_lt 49 C d_X_weight_32 (by decide) (fun c32 => ?_) (fun c32 => ?_)
      · skip
        refine g_iconst (v := 0) C d_X_weight_49 (by decide) ?_
        exact g_zret C hR hret rfl ⟨rfl, Or.inr ⟨by simp only [decide_eq_false c20, if_neg c20, bI_ne0.mp c28, decide_eq_true c32, if_pos c32, Bool.not_true, Bool.not_false, Bool.and_true, Bool.true_and, Bool.false_and, Bool.and_false, bI_t, bI_f], rfl, rfl⟩⟩ d_X_weight_50
      · skip
        refine g_iload_n C d_X_weight_35 rfl 3 rfl ?_
        refine g_aload_n C d_X_weight_36 rfl 1 rfl ?_
        refine g_get x 2 C hx rfl i_X (by decide) (gmem wd_83 rfl) rfl rfl d_X_weight_37 ?_
        refine g_get (x + 3) 3 C hd rfl i_D (by decide) (gmem wd_40 rfl) rfl rfl d_X_weight_40 ?_
        refine g_callS 1 C (k_X_mostWeight _ X ad u sz way) (gmem wd_227 rfl) (gmem wd_228 rfl) (gmem wd_1 rfl) (gmem wd_229 rfl) ⟨by decide, by decide, by decide +kernel⟩ ⟨Nat.le_of_ble_eq_true rfl, Nat.le_of_ble_eq_true rfl⟩ rfl rfl (Nat.le_of_ble_eq_true rfl) d_X_weight_43 ⟨Nat.le_of_ble_eq_true rfl, Nat.le_of_ble_eq_true rfl⟩ ?_
        rintro v9 u9 s9 ⟨h9, hu9, hs9⟩; rw [h9, hu9, hs9]; clear h9 hu9 hs9 v9 u9 s9
        show GW Z _ _ _ ad u sz [(3, .ref (ad (x + 16 * k + 32))), (0, .ref (ad x)), (1, .int y), (2, .int n)] 0 0 46 [.int (mostW way), .int n]
        refine g_icmp_le 51 C d_X_weight_46 (by decide) (fun c46 => ?_) (fun c46 => ?_)
        · skip
          refine g_aload_n C d_X_weight_51 rfl 1 rfl ?_
          refine g_get x 2 C hx rfl i_X (by decide) (gmem wd_83 rfl) rfl rfl d_X_weight_52 ?_
          refine g_get (x + 3) 1 C hd rfl i_D (by decide) (gmem wd_36 rfl) rfl rfl d_X_weight_55 ?_
          refine g_iload_n C d_X_weight_58 rfl 2 rfl ?_
          refine g_iload_n C d_X_weight_59 rfl 3 rfl ?_
          refine g_i2l C d_X_weight_60 ?_
          refine g_topl (fun x61 ex61 => ?_)
          refine g_last (x + 3 + 2) 1 C hd2 rfl (isPr_in (bI_ne0.mp c28) hmc) d_X_weight_61 ?_
          obtain ⟨u1, hu1⟩ : ∃ z, z = gup u (x + 3 + 2) (.inl ((X.2 1), 12, .inr (.inl (vp_updL wt (Int32.toNatClampNeg y) x61)))) := ⟨_, rfl⟩
          rw [← hu1]
          have hu1_0 : u1 x = some (.inr (5, [.ref (ad (x + 1)), .ref (ad (x + 2)), .ref (ad (x + 3)), .ref (ad (x + 6)), .int (nI nC), .int (nI nB)])) := by rw [hu1, gup_ne (by omega)]; exact hx
          have hu1_1 : u1 (x + 3) = some (.inr (2, [.ref (ad (x + 3 + 1)), .ref (ad (x + 3 + 2)), .ref (ad (x + 16 * k + 32)), .int way, .int ce, .int ra, .int lc])) := by rw [hu1, gup_ne (by omega)]; exact hd
          have hu1_2 : u1 (x + 16 * k + 32) = some (.inr (1, [.ref (ad (x + 16 * k + 32 + 1)), .ref (ad (x + 16 * k + 32 + 2)), .ref (ad (x + 16 * k + 32 + 3)), .int mc, .int go, .int mk])) := by rw [hu1, gup_ne (by omega)]; exact hB
          have hu1_3 : u1 (x + 3 + 2) = some (.inl ((X.2 1), 12, .inr (.inl (vp_updL wt (Int32.toNatClampNeg y) x61)))) := by rw [hu1]; exact gup_self _ _ _
          refine g_iconst (v := 1) C d_X_weight_62 (by decide) ?_
          exact g_zret C hR hret rfl ⟨rfl, Or.inl ⟨by simp only [decide_eq_false c20, if_neg c20, bI_ne0.mp c28, decide_eq_false c32, if_neg c32, decide_eq_true c46, if_pos c46, Bool.not_true, Bool.not_false, Bool.and_true, Bool.true_and, Bool.false_and, Bool.and_false, bI_t, bI_f], rfl, (by first | (rw [hu1]; done) | (rw [hu1]; simp only [ex61]; done) | (rw [hu1]; simp only [ex61]; funext k; simp only [gup]; (repeat' split) <;> first | with_reducible rfl | (exfalso; omega)))⟩⟩ d_X_weight_63
        · skip
          refine g_iconst (v := 0) C d_X_weight_49 (by decide) ?_
          exact g_zret C hR hret rfl ⟨rfl, Or.inr ⟨by simp only [decide_eq_false c20, if_neg c20, bI_ne0.mp c28, decide_eq_false c32, if_neg c32, decide_eq_false c46, if_neg c46, Bool.not_true, Bool.not_false, Bool.and_true, Bool.true_and, Bool.false_and, Bool.and_false, bI_t, bI_f], rfl, rfl⟩⟩ d_X_weight_50

def okLX (way n set lc mc go : Int32) : Bool := decide (way = 5) && (!decide (n < 1) && (!decide (100000000 < n) && (!decide (set = 0) && (decide (set &&& (prSet mc go ^^^ (-1)) = 0) && decide (lc < 16)))))
set_option maxHeartbeats 4000000 in
set_option maxRecDepth 100000 in
theorem k_X_line_ok (l : Launch) (X : gX) (ad : Nat → Nat) (u : gW) (sz : Nat) (x nC nB k : Nat) (mc go mk way ce ra lc : Int32) (wt : Nat → Int64) (n set : Int32) (hx : u x = some (.inr (5, [.ref (ad (x + 1)), .ref (ad (x + 2)), .ref (ad (x + 3)), .ref (ad (x + 6)), .int (nI nC), .int (nI nB)]))) (hd : u (x + 3) = some (.inr (2, [.ref (ad (x + 3 + 1)), .ref (ad (x + 3 + 2)), .ref (ad (x + 16 * k + 32)), .int way, .int ce, .int ra, .int lc]))) (hB : u (x + 16 * k + 32) = some (.inr (1, [.ref (ad (x + 16 * k + 32 + 1)), .ref (ad (x + 16 * k + 32 + 2)), .ref (ad (x + 16 * k + 32 + 3)), .int mc, .int go, .int mk]))) (hd2 : u (x + 3 + 2) = some (.inl ((X.2 1), 12, .inr (.inl wt)))) (hbc : ¬ set = 0 → set &&& (prSet mc go ^^^ (-1)) = 0 → ¬ bitC set = 0) : gMet l (EE X) y_X_line c_X_line 4 (some .boolean) ({ frames := 2, cells := 0, slots := 0, locals := 46 }) [.ref (ad x), .int n, .int set] ad u sz (fun v u' sz' => sz' = sz ∧ ((okLX way n set lc mc go = true ∧ v = some (.int 1) ∧ u' = gup (gup u (x + 3 + 2) (.inl ((X.2 1), 12, .inr (.inl (mapL wt (lineG wt set n) 12))))) (x + 3) (.inr (2, [.ref (ad (x + 3 + 1)), .ref (ad (x + 3 + 2)), .ref (ad (x + 16 * k + 32)), .int way, .int ce, .int ra, .int (lc + 1)]))) ∨ (okLX way n set lc mc go = false ∧ v = some (.int 0) ∧ u' = u))) := by
  refine gMet_of "ExpenseClubs" rfl (by decide) (Nat.le_of_ble_eq_true rfl) (lv := [(0, .ref (ad x)), (1, .int n), (2, .int set)]) rfl (fun Z hZl C hR hret hname => ?_)
  refine g_aload_n C d_X_line_0 rfl 0 rfl ?_
  refine g_get x 2 C hx rfl i_X (by decide) (gmem wd_83 rfl) rfl rfl d_X_line_1 ?_
  refine g_get (x + 3) 2 C hd rfl i_D (by decide) (gmem wd_38 rfl) rfl rfl d_X_line_4 ?_
  refine g_astore_n C d_X_line_7 rfl [(3, .ref (ad (x + 16 * k + 32))), (0, .ref (ad x)), (1, .int n), (2, .int set)] (by decide) rfl ?_
  refine g_aload_n C d_X_line_8 rfl 0 rfl ?_
  refine g_ifnull C d_X_line_9 ?_
  refine g_aload_n C d_X_line_12 rfl 1 rfl ?_
  refine g_get x 2 C hx rfl i_X (by decide) (gmem wd_83 rfl) rfl rfl d_X_line_13 ?_
  refine g_get (x + 3) 3 C hd rfl i_D (by decide) (gmem wd_40 rfl) rfl rfl d_X_line_16 ?_
  refine g_iconst (v := 5) C d_X_line_19 (by decide) ?_
  refine g_icmp_ne 61 C d_X_line_20 (by decide) (fun c20 => ?_) (fun c20 => ?_)
  · skip
    refine g_iconst (v := 0) C d_X_line_61 (by decide) ?_
    exact g_zret C hR hret rfl ⟨rfl, Or.inr ⟨by simp only [okLX, decide_eq_false c20, if_neg c20, Bool.not_true, Bool.not_false, Bool.and_true, Bool.true_and, Bool.false_and, Bool.and_false, bI_t, bI_f], rfl, rfl⟩⟩ d_X_line_62
  · skip
    refine g_iload_n C d_X_line_23 rfl 2 rfl ?_
    refine g_iconst (v := 1) C d_X_line_24 (by decide) ?_
    refine g_icmp_lt 61 C d_X_line_25 (by decide) (fun c25 => ?_) (fun c25 => ?_)
    · skip
      refine g_iconst (v := 0) C d_X_line_61 (by decide) ?_
      exact g_zret C hR hret rfl ⟨rfl, Or.inr ⟨by simp only [okLX, decide_eq_true c20, if_pos c20, decide_eq_true c25, if_pos c25, Bool.not_true, Bool.not_false, Bool.and_true, Bool.true_and, Bool.false_and, Bool.and_false, bI_t, bI_f], rfl, rfl⟩⟩ d_X_line_62
    · skip
      refine g_iload_n C d_X_line_28 rfl 2 rfl ?_
      refine g_ldc C (gmem wd_213 rfl) d_X_line_29 ?_
      refine g_icmp_gt 61 C d_X_line_31 (by decide) (fun c31 => ?_) (fun c31 => ?_)
      · skip
        refine g_iconst (v := 0) C d_X_line_61 (by decide) ?_
        exact g_zret C hR hret rfl ⟨rfl, Or.inr ⟨by simp only [okLX, decide_eq_true c20, if_pos c20, decide_eq_false c25, if_neg c25, decide_eq_true c31, if_pos c31, Bool.not_true, Bool.not_false, Bool.and_true, Bool.true_and, Bool.false_and, Bool.and_false, bI_t, bI_f], rfl, rfl⟩⟩ d_X_line_62
      · skip
        refine g_iload_n C d_X_line_34 rfl 3 rfl ?_
        refine g_if_eq 61 C d_X_line_35 (by decide) (fun c35 => ?_) (fun c35 => ?_)
        · skip
          refine g_iconst (v := 0) C d_X_line_61 (by decide) ?_
          exact g_zret C hR hret rfl ⟨rfl, Or.inr ⟨by simp only [okLX, decide_eq_true c20, if_pos c20, decide_eq_false c25, if_neg c25, decide_eq_false c31, if_neg c31, decide_eq_true c35, if_pos c35, Bool.not_true, Bool.not_false, Bool.and_true, Bool.true_and, Bool.false_and, Bool.and_false, bI_t, bI_f], rfl, rfl⟩⟩ d_X_line_62
        · skip
          refine g_iload_n C d_X_line_38 rfl 3 rfl ?_
          refine g_aload_n C d_X_line_39 rfl 0 rfl ?_
          refine g_callV 0 C (k_C_presentSet _ X ad u sz (x + 16 * k + 32) _ _ _ mc go mk hB) (gmem wd_234 rfl) (gmem wd_235 rfl) (gmem wd_236 rfl) (gmem wd_5 rfl) (gmem wd_237 rfl) ⟨by decide, by decide, by decide +kernel⟩ ⟨Nat.le_of_ble_eq_true rfl, Nat.le_of_ble_eq_true rfl⟩ hB rfl rfl rfl (Nat.le_of_ble_eq_true rfl) d_X_line_40 ⟨Nat.le_of_ble_eq_true rfl, Nat.le_of_ble_eq_true rfl⟩ ?_
          rintro v9 u9 s9 ⟨h9, hu9, hs9⟩; rw [h9, hu9, hs9]; clear h9 hu9 hs9 v9 u9 s9
          show GW Z _ _ _ ad u sz [(3, .ref (ad (x + 16 * k + 32))), (0, .ref (ad x)), (1, .int n), (2, .int set)] 0 0 43 [.int (prSet mc go), .int set]
          refine g_iconst (v := (-1)) C d_X_line_43 (by decide) ?_
          refine g_ixor C d_X_line_44 ?_
          refine g_iand C d_X_line_45 ?_
          refine g_if_ne 61 C d_X_line_46 (by decide) (fun c46 => ?_) (fun c46 => ?_)
          · skip
            refine g_iconst (v := 0) C d_X_line_61 (by decide) ?_
            exact g_zret C hR hret rfl ⟨rfl, Or.inr ⟨by simp only [okLX, decide_eq_true c20, if_pos c20, decide_eq_false c25, if_neg c25, decide_eq_false c31, if_neg c31, decide_eq_false c35, if_neg c35, decide_eq_false c46, if_neg c46, Bool.not_true, Bool.not_false, Bool.and_true, Bool.true_and, Bool.false_and, Bool.and_false, bI_t, bI_f], rfl, rfl⟩⟩ d_X_line_62
          · skip
            refine g_aload_n C d_X_line_49 rfl 1 rfl ?_
            refine g_get x 2 C hx rfl i_X (by decide) (gmem wd_83 rfl) rfl rfl d_X_line_50 ?_
            refine g_get (x + 3) 6 C hd rfl i_D (by decide) (gmem wd_44 rfl) rfl rfl d_X_line_53 ?_
            refine g_bipush (v := 16) C d_X_line_56 (by decide) ?_
            refine g_icmp_lt 63 C d_X_line_58 (by decide) (fun c58 => ?_) (fun c58 => ?_)
            · skip
              refine g_aload_n C d_X_line_63 rfl 1 rfl ?_
              refine g_get x 2 C hx rfl i_X (by decide) (gmem wd_83 rfl) rfl rfl d_X_line_64 ?_
              refine g_iload_n C d_X_line_67 rfl 2 rfl ?_
              refine g_iload_n C d_X_line_68 rfl 3 rfl ?_
              refine g_callV 2 C (k_D_addLine _ X ad u sz (x + 3) wt (.ref (ad (x + 16 * k + 32))) way ce ra lc n set hd hd2) (gmem wd_238 rfl) (gmem wd_239 rfl) (gmem wd_240 rfl) (gmem wd_2 rfl) (gmem wd_241 rfl) ⟨by decide, by decide, by decide +kernel⟩ ⟨Nat.le_of_ble_eq_true rfl, Nat.le_of_ble_eq_true rfl⟩ hd rfl rfl rfl (Nat.le_of_ble_eq_true rfl) d_X_line_69 ⟨Nat.le_of_ble_eq_true rfl, Nat.le_of_ble_eq_true rfl⟩ ?_
              rintro v9 uk1 s9 ⟨h9, hs9, huk1⟩; rw [h9, hs9]; clear h9 hs9 v9 s9
              rw [if_neg (hbc c35 c46)] at huk1
              have huk1_0 : uk1 x = some (.inr (5, [.ref (ad (x + 1)), .ref (ad (x + 2)), .ref (ad (x + 3)), .ref (ad (x + 6)), .int (nI nC), .int (nI nB)])) := by rw [huk1, gup_ne (by omega), gup_ne (by omega)]; exact hx
              have huk1_1 : uk1 (x + 3) = some (.inr (2, [.ref (ad (x + 3 + 1)), .ref (ad (x + 3 + 2)), .ref (ad (x + 16 * k + 32)), .int way, .int ce, .int ra, .int (lc + 1)])) := by rw [huk1, gup_self]
              have huk1_2 : uk1 (x + 16 * k + 32) = some (.inr (1, [.ref (ad (x + 16 * k + 32 + 1)), .ref (ad (x + 16 * k + 32 + 2)), .ref (ad (x + 16 * k + 32 + 3)), .int mc, .int go, .int mk])) := by rw [huk1, gup_ne (by omega), gup_ne (by omega)]; exact hB
              have huk1_3 : uk1 (x + 3 + 2) = some (.inl ((X.2 1), 12, .inr (.inl (mapL wt (lineG wt set n) 12)))) := by rw [huk1, gup_ne (by omega), gup_self]
              show GW Z _ _ _ ad uk1 sz [(3, .ref (ad (x + 16 * k + 32))), (0, .ref (ad x)), (1, .int n), (2, .int set)] 0 0 72 []
              refine g_iconst (v := 1) C d_X_line_72 (by decide) ?_
              exact g_zret C hR hret rfl ⟨rfl, Or.inl ⟨by simp only [okLX, decide_eq_true c20, if_pos c20, decide_eq_false c25, if_neg c25, decide_eq_false c31, if_neg c31, decide_eq_false c35, if_neg c35, decide_eq_true c46, if_pos c46, decide_eq_true c58, if_pos c58, Bool.not_true, Bool.not_false, Bool.and_true, Bool.true_and, Bool.false_and, Bool.and_false, bI_t, bI_f], rfl, (by first | (rw [huk1]; done) | (rw [huk1]; funext k; simp only [gup]; (repeat' split) <;> first | with_reducible rfl | (exfalso; omega)))⟩⟩ d_X_line_73
            · skip
              refine g_iconst (v := 0) C d_X_line_61 (by decide) ?_
              exact g_zret C hR hret rfl ⟨rfl, Or.inr ⟨by simp only [okLX, decide_eq_true c20, if_pos c20, decide_eq_false c25, if_neg c25, decide_eq_false c31, if_neg c31, decide_eq_false c35, if_neg c35, decide_eq_true c46, if_pos c46, decide_eq_false c58, if_neg c58, Bool.not_true, Bool.not_false, Bool.and_true, Bool.true_and, Bool.false_and, Bool.and_false, bI_t, bI_f], rfl, rfl⟩⟩ d_X_line_62

set_option maxHeartbeats 4000000 in
set_option maxRecDepth 100000 in
theorem k_X_refusalOfPost (l : Launch) (X : gX) (ad : Nat → Nat) (u : gW) (sz : Nat) (x nC nB k : Nat) (mc go mk way ce ra lc : Int32) (op gc tc wa : Int32) (py wt : Nat → Int64) (hx : u x = some (.inr (5, [.ref (ad (x + 1)), .ref (ad (x + 2)), .ref (ad (x + 3)), .ref (ad (x + 6)), .int (nI nC), .int (nI nB)]))) (hd : u (x + 3) = some (.inr (2, [.ref (ad (x + 3 + 1)), .ref (ad (x + 3 + 2)), .ref (ad (x + 16 * k + 32)), .int way, .int ce, .int ra, .int lc]))) (hd1 : u (x + 3 + 1) = some (.inl ((X.2 1), 12, .inr (.inl py)))) (hd2 : u (x + 3 + 2) = some (.inl ((X.2 1), 12, .inr (.inl wt)))) (hB : u (x + 16 * k + 32) = some (.inr (1, [.ref (ad (x + 16 * k + 32 + 1)), .ref (ad (x + 16 * k + 32 + 2)), .ref (ad (x + 16 * k + 32 + 3)), .int mc, .int go, .int mk]))) (hB3 : u (x + 16 * k + 32 + 3) = some (.inr (4, [.ref (ad (x + 16 * k + 32 + 3 + 1)), .ref (ad (x + 16 * k + 32 + 3 + 2)), .ref (ad (x + 16 * k + 32 + 3 + 3)), .ref (ad (x + 16 * k + 32 + 3 + 4)), .ref (ad (x + 16 * k + 32 + 3 + 5)), .int op, .int gc, .int tc, .int wa])))  : gMet l (EE X) y_X_refusalOfPost c_X_refusalOfPost 2 (some .int) ({ frames := 2, cells := 0, slots := 0, locals := 46 }) [.ref (ad x), .ref (ad (x + 16 * k + 32))] ad u sz (fun v u' sz' => ∃ r : Int32, v = some (.int r) ∧ ((¬ op = 0 ∧ r = -2) ∨ (op = 0 ∧ ¬ nI nB < 64 ∧ r = -3) ∨ (op = 0 ∧ nI nB < 64 ∧ refuse py wt go way ce r)) ∧ u' = u ∧ sz' = sz) := by
  refine gMet_of "ExpenseClubs" rfl (by decide) (Nat.le_of_ble_eq_true rfl) (lv := [(0, .ref (ad x)), (1, .ref (ad (x + 16 * k + 32)))]) rfl (fun Z hZl C hR hret hname => ?_)
  refine g_aload_n C d_X_refusalOfPost_0 rfl 1 rfl ?_
  refine g_get (x + 16 * k + 32) 2 C hB rfl i_C (by decide) (gmem wd_165 rfl) rfl rfl d_X_refusalOfPost_1 ?_
  refine g_get (x + 16 * k + 32 + 3) 5 C hB3 rfl i_S (by decide) (gmem wd_131 rfl) rfl rfl d_X_refusalOfPost_4 ?_
  refine g_if_eq 13 C d_X_refusalOfPost_7 (by decide) (fun c7 => ?_) (fun c7 => ?_)
  · skip
    refine g_aload_n C d_X_refusalOfPost_13 rfl 0 rfl ?_
    refine g_get x 5 C hx rfl i_X (by decide) (gmem wd_86 rfl) rfl rfl d_X_refusalOfPost_14 ?_
    refine g_bipush (v := 64) C d_X_refusalOfPost_17 (by decide) ?_
    refine g_icmp_lt 25 C d_X_refusalOfPost_19 (by decide) (fun c19 => ?_) (fun c19 => ?_)
    · skip
      refine g_aload_n C d_X_refusalOfPost_25 rfl 0 rfl ?_
      refine g_get x 2 C hx rfl i_X (by decide) (gmem wd_83 rfl) rfl rfl d_X_refusalOfPost_26 ?_
      refine g_aload_n C d_X_refusalOfPost_29 rfl 1 rfl ?_
      refine g_callV 1 C (k_D_refusalFor _ X ad u sz (x + 3) (x + 16 * k + 32) py wt (.ref (ad (x + 16 * k + 32))) _ _ _ way ce ra lc mc go mk hd hd1 hd2 hB) (gmem wd_256 rfl) (gmem wd_257 rfl) (gmem wd_258 rfl) (gmem wd_2 rfl) (gmem wd_259 rfl) ⟨by decide, by decide, by decide +kernel⟩ ⟨Nat.le_of_ble_eq_true rfl, Nat.le_of_ble_eq_true rfl⟩ hd rfl rfl rfl (Nat.le_of_ble_eq_true rfl) d_X_refusalOfPost_30 ⟨Nat.le_of_ble_eq_true rfl, Nat.le_of_ble_eq_true rfl⟩ ?_
      rintro v9 u9 s9 ⟨r9, h9, hr9, hu9, hs9⟩; rw [h9, hu9, hs9]; clear h9 hu9 hs9 v9 u9 s9
      show GW Z _ _ _ ad u sz [(0, .ref (ad x)), (1, .ref (ad (x + 16 * k + 32)))] 0 0 33 [.int r9]
      exact g_iret C hR hret ⟨_, rfl, Or.inr (Or.inr ⟨c7, c19, hr9⟩), rfl, rfl⟩ d_X_refusalOfPost_33
    · skip
      refine g_bipush (v := (-3)) C d_X_refusalOfPost_22 (by decide) ?_
      exact g_iret C hR hret ⟨_, rfl, Or.inr (Or.inl ⟨c7, c19, rfl⟩), rfl, rfl⟩ d_X_refusalOfPost_24
  · skip
    refine g_bipush (v := (-2)) C d_X_refusalOfPost_10 (by decide) ?_
    exact g_iret C hR hret ⟨_, rfl, Or.inl ⟨c7, rfl⟩, rfl, rfl⟩ d_X_refusalOfPost_12

set_option maxHeartbeats 4000000 in
set_option maxRecDepth 100000 in
theorem k_X_strike_ok (l : Launch) (X : gX) (ad : Nat → Nat) (u : gW) (sz : Nat) (x nC nB k j : Nat) (mc go mk op gc tc wa stk : Int32) (tt : Int64) (bal dri pd sh df : Nat → Int64) (hx : u x = some (.inr (5, [.ref (ad (x + 1)), .ref (ad (x + 2)), .ref (ad (x + 3)), .ref (ad (x + 6)), .int (nI nC), .int (nI nB)]))) (hx2 : u (x + 2) = some (.inl ((X.2 4), 64, .inr (.inr (.inr (.inr (bArr ad x nB))))))) (hb : u (x + 4 * j + 128) = some (.inr (0, [.ref (ad (x + 16 * k + 32)), .long tt, .ref (ad (x + 4 * j + 128 + 1)), .ref (ad (x + 4 * j + 128 + 2)), .ref (ad (x + 4 * j + 128 + 3)), .int stk]))) (hB : u (x + 16 * k + 32) = some (.inr (1, [.ref (ad (x + 16 * k + 32 + 1)), .ref (ad (x + 16 * k + 32 + 2)), .ref (ad (x + 16 * k + 32 + 3)), .int mc, .int go, .int mk]))) (hB3 : u (x + 16 * k + 32 + 3) = some (.inr (4, [.ref (ad (x + 16 * k + 32 + 3 + 1)), .ref (ad (x + 16 * k + 32 + 3 + 2)), .ref (ad (x + 16 * k + 32 + 3 + 3)), .ref (ad (x + 16 * k + 32 + 3 + 4)), .ref (ad (x + 16 * k + 32 + 3 + 5)), .int op, .int gc, .int tc, .int wa]))) (hB1 : u (x + 16 * k + 32 + 1) = some (.inl ((X.2 1), 12, .inr (.inl bal)))) (hB2 : u (x + 16 * k + 32 + 2) = some (.inl ((X.2 1), 12, .inr (.inl dri)))) (hb1 : u (x + 4 * j + 128 + 1) = some (.inl ((X.2 1), 12, .inr (.inl pd)))) (hb2 : u (x + 4 * j + 128 + 2) = some (.inl ((X.2 1), 12, .inr (.inl sh)))) (hb3 : u (x + 4 * j + 128 + 3) = some (.inl ((X.2 1), 12, .inr (.inl df)))) (hj : j < nB) (hnB : nB ≤ 64) (hk : k < 4) : gMet l (EE X) y_X_strike c_X_strike 3 (some .boolean) ({ frames := 1, cells := 0, slots := 0, locals := 23 }) [.ref (ad x), .int (nI j)] ad u sz (fun v u' sz' => sz' = sz ∧ (((decide (stk = 0) && decide (op = 0)) = true ∧ v = some (.int 1) ∧ u' = gup (gup (gup u (x + 4 * j + 128) (.inr (0, [.ref (ad (x + 16 * k + 32)), .long tt, .ref (ad (x + 4 * j + 128 + 1)), .ref (ad (x + 4 * j + 128 + 2)), .ref (ad (x + 4 * j + 128 + 3)), .int 1]))) (x + 16 * k + 32 + 1) (.inl ((X.2 1), 12, .inr (.inl (mapL bal (fun j => bal j + (-1 : Int32).toInt64 * (pd j - sh j)) 12))))) (x + 16 * k + 32 + 2) (.inl ((X.2 1), 12, .inr (.inl (mapL dri (fun j => dri j + (-1 : Int32).toInt64 * df j) 12))))) ∨ ((decide (stk = 0) && decide (op = 0)) = false ∧ v = some (.int 0) ∧ u' = u))) := by
  refine gMet_of "ExpenseClubs" rfl (by decide) (Nat.le_of_ble_eq_true rfl) (lv := [(0, .ref (ad x)), (1, .int (nI j))]) rfl (fun Z hZl C hR hret hname => ?_)
  refine g_aload_n C d_X_strike_0 rfl 0 rfl ?_
  refine g_iload_n C d_X_strike_1 rfl 1 rfl ?_
  refine g_callV 1 C (k_X_billAt_ok _ X ad u sz x nC nB j hx hx2 hj hnB) (gmem wd_331 rfl) (gmem wd_333 rfl) (gmem ws_3 rfl) (gmem wd_1 rfl) (gmem wd_334 rfl) ⟨by decide, by decide, by decide +kernel⟩ ⟨Nat.le_of_ble_eq_true rfl, Nat.le_of_ble_eq_true rfl⟩ hx rfl rfl rfl (Nat.le_of_ble_eq_true rfl) d_X_strike_2 ⟨Nat.le_of_ble_eq_true rfl, Nat.le_of_ble_eq_true rfl⟩ ?_
  rintro v9 u9 s9 ⟨h9, hu9, hs9⟩; rw [h9, hu9, hs9]; clear h9 hu9 hs9 v9 u9 s9
  show GW Z _ _ _ ad u sz [(0, .ref (ad x)), (1, .int (nI j))] 0 0 5 [.ref (ad (x + 4 * j + 128))]
  refine g_astore_n C d_X_strike_5 rfl [(2, .ref (ad (x + 4 * j + 128))), (0, .ref (ad x)), (1, .int (nI j))] (by decide) rfl ?_
  refine g_aload_n C d_X_strike_6 rfl 0 rfl ?_
  refine g_ifnull C d_X_strike_7 ?_
  refine g_aload_n C d_X_strike_10 rfl 0 rfl ?_
  refine g_get (x + 4 * j + 128) 5 C hb rfl i_B (by decide) (gmem wd_299 rfl) rfl rfl d_X_strike_11 ?_
  refine g_if_ne 30 C d_X_strike_14 (by decide) (fun c14 => ?_) (fun c14 => ?_)
  · skip
    refine g_iconst (v := 0) C d_X_strike_30 (by decide) ?_
    exact g_zret C hR hret rfl ⟨rfl, Or.inr ⟨by simp only [decide_eq_false c14, if_neg c14, Bool.not_true, Bool.not_false, Bool.and_true, Bool.true_and, Bool.false_and, Bool.and_false, bI_t, bI_f], rfl, rfl⟩⟩ d_X_strike_31
  · skip
    refine g_aload_n C d_X_strike_17 rfl 0 rfl ?_
    refine g_get (x + 4 * j + 128) 0 C hb rfl i_B (by decide) (gmem wd_283 rfl) rfl rfl d_X_strike_18 ?_
    refine g_get (x + 16 * k + 32) 2 C hB rfl i_C (by decide) (gmem wd_165 rfl) rfl rfl d_X_strike_21 ?_
    refine g_get (x + 16 * k + 32 + 3) 5 C hB3 rfl i_S (by decide) (gmem wd_131 rfl) rfl rfl d_X_strike_24 ?_
    refine g_if_eq 32 C d_X_strike_27 (by decide) (fun c27 => ?_) (fun c27 => ?_)
    · skip
      refine g_aload_n C d_X_strike_32 rfl 0 rfl ?_
      refine g_iconst (v := 1) C d_X_strike_33 (by decide) ?_
      refine g_put (x + 4 * j + 128) 5 C hb rfl i_B t_B t_B_ok n_B (by decide) (gmem wd_299 rfl) rfl rfl rfl rfl (Nat.le_of_ble_eq_true rfl) d_X_strike_34 ?_
      show GW Z _ _ _ ad (gup u (x + 4 * j + 128) (.inr (0, [.ref (ad (x + 16 * k + 32)), .long tt, .ref (ad (x + 4 * j + 128 + 1)), .ref (ad (x + 4 * j + 128 + 2)), .ref (ad (x + 4 * j + 128 + 3)), .int 1]))) _ _ _ _ _ _
      obtain ⟨u1, hu1⟩ : ∃ z, z = gup u (x + 4 * j + 128) (.inr (0, [.ref (ad (x + 16 * k + 32)), .long tt, .ref (ad (x + 4 * j + 128 + 1)), .ref (ad (x + 4 * j + 128 + 2)), .ref (ad (x + 4 * j + 128 + 3)), .int 1])) := ⟨_, rfl⟩
      rw [← hu1]
      have hu1_0 : u1 x = some (.inr (5, [.ref (ad (x + 1)), .ref (ad (x + 2)), .ref (ad (x + 3)), .ref (ad (x + 6)), .int (nI nC), .int (nI nB)])) := by rw [hu1, gup_ne (by omega)]; exact hx
      have hu1_1 : u1 (x + 2) = some (.inl ((X.2 4), 64, .inr (.inr (.inr (.inr (bArr ad x nB)))))) := by rw [hu1, gup_ne (by omega)]; exact hx2
      have hu1_2 : u1 (x + 4 * j + 128) = some (.inr (0, [.ref (ad (x + 16 * k + 32)), .long tt, .ref (ad (x + 4 * j + 128 + 1)), .ref (ad (x + 4 * j + 128 + 2)), .ref (ad (x + 4 * j + 128 + 3)), .int 1])) := by rw [hu1]; exact gup_self _ _ _
      have hu1_3 : u1 (x + 16 * k + 32) = some (.inr (1, [.ref (ad (x + 16 * k + 32 + 1)), .ref (ad (x + 16 * k + 32 + 2)), .ref (ad (x + 16 * k + 32 + 3)), .int mc, .int go, .int mk])) := by rw [hu1, gup_ne (by omega)]; exact hB
      have hu1_4 : u1 (x + 16 * k + 32 + 3) = some (.inr (4, [.ref (ad (x + 16 * k + 32 + 3 + 1)), .ref (ad (x + 16 * k + 32 + 3 + 2)), .ref (ad (x + 16 * k + 32 + 3 + 3)), .ref (ad (x + 16 * k + 32 + 3 + 4)), .ref (ad (x + 16 * k + 32 + 3 + 5)), .int op, .int gc, .int tc, .int wa])) := by rw [hu1, gup_ne (by omega)]; exact hB3
      have hu1_5 : u1 (x + 16 * k + 32 + 1) = some (.inl ((X.2 1), 12, .inr (.inl bal))) := by rw [hu1, gup_ne (by omega)]; exact hB1
      have hu1_6 : u1 (x + 16 * k + 32 + 2) = some (.inl ((X.2 1), 12, .inr (.inl dri))) := by rw [hu1, gup_ne (by omega)]; exact hB2
      have hu1_7 : u1 (x + 4 * j + 128 + 1) = some (.inl ((X.2 1), 12, .inr (.inl pd))) := by rw [hu1, gup_ne (by omega)]; exact hb1
      have hu1_8 : u1 (x + 4 * j + 128 + 2) = some (.inl ((X.2 1), 12, .inr (.inl sh))) := by rw [hu1, gup_ne (by omega)]; exact hb2
      have hu1_9 : u1 (x + 4 * j + 128 + 3) = some (.inl ((X.2 1), 12, .inr (.inl df))) := by rw [hu1, gup_ne (by omega)]; exact hb3
      refine g_aload_n C d_X_strike_37 rfl 0 rfl ?_
      refine g_get (x + 4 * j + 128) 0 C hu1_2 rfl i_B (by decide) (gmem wd_283 rfl) rfl rfl d_X_strike_38 ?_
      refine g_aload_n C d_X_strike_41 rfl 0 rfl ?_
      refine g_iconst (v := (-1)) C d_X_strike_42 (by decide) ?_
      refine g_callV 2 C (k_C_book _ X ad u1 sz (x + 16 * k + 32) (x + 4 * j + 128) bal dri pd sh df (.ref (ad (x + 16 * k + 32))) tt mc go mk 1 (-1) hu1_3 hu1_5 hu1_6 hu1_2 hu1_7 hu1_8 hu1_9 (by omega)) (gmem wd_323 rfl) (gmem wd_324 rfl) (gmem wd_325 rfl) (gmem wd_5 rfl) (gmem wd_326 rfl) ⟨by decide, by decide, by decide +kernel⟩ ⟨Nat.le_of_ble_eq_true rfl, Nat.le_of_ble_eq_true rfl⟩ hu1_3 rfl rfl rfl (Nat.le_of_ble_eq_true rfl) d_X_strike_43 ⟨Nat.le_of_ble_eq_true rfl, Nat.le_of_ble_eq_true rfl⟩ ?_
      rintro v9 uk2 s9 ⟨h9, huk2, hs9⟩; rw [h9, hs9]; clear h9 hs9 v9 s9
      have huk2_0 : uk2 x = some (.inr (5, [.ref (ad (x + 1)), .ref (ad (x + 2)), .ref (ad (x + 3)), .ref (ad (x + 6)), .int (nI nC), .int (nI nB)])) := by rw [huk2, gup_ne (by omega), gup_ne (by omega)]; exact hu1_0
      have huk2_1 : uk2 (x + 2) = some (.inl ((X.2 4), 64, .inr (.inr (.inr (.inr (bArr ad x nB)))))) := by rw [huk2, gup_ne (by omega), gup_ne (by omega)]; exact hu1_1
      have huk2_2 : uk2 (x + 4 * j + 128) = some (.inr (0, [.ref (ad (x + 16 * k + 32)), .long tt, .ref (ad (x + 4 * j + 128 + 1)), .ref (ad (x + 4 * j + 128 + 2)), .ref (ad (x + 4 * j + 128 + 3)), .int 1])) := by rw [huk2, gup_ne (by omega), gup_ne (by omega)]; exact hu1_2
      have huk2_3 : uk2 (x + 16 * k + 32) = some (.inr (1, [.ref (ad (x + 16 * k + 32 + 1)), .ref (ad (x + 16 * k + 32 + 2)), .ref (ad (x + 16 * k + 32 + 3)), .int mc, .int go, .int mk])) := by rw [huk2, gup_ne (by omega), gup_ne (by omega)]; exact hu1_3
      have huk2_4 : uk2 (x + 16 * k + 32 + 3) = some (.inr (4, [.ref (ad (x + 16 * k + 32 + 3 + 1)), .ref (ad (x + 16 * k + 32 + 3 + 2)), .ref (ad (x + 16 * k + 32 + 3 + 3)), .ref (ad (x + 16 * k + 32 + 3 + 4)), .ref (ad (x + 16 * k + 32 + 3 + 5)), .int op, .int gc, .int tc, .int wa])) := by rw [huk2, gup_ne (by omega), gup_ne (by omega)]; exact hu1_4
      have huk2_5 : uk2 (x + 16 * k + 32 + 1) = some (.inl ((X.2 1), 12, .inr (.inl (mapL bal (fun j => bal j + (-1 : Int32).toInt64 * (pd j - sh j)) 12)))) := by rw [huk2, gup_ne (by omega), gup_self]
      have huk2_6 : uk2 (x + 16 * k + 32 + 2) = some (.inl ((X.2 1), 12, .inr (.inl (mapL dri (fun j => dri j + (-1 : Int32).toInt64 * df j) 12)))) := by rw [huk2, gup_self]
      have huk2_7 : uk2 (x + 4 * j + 128 + 1) = some (.inl ((X.2 1), 12, .inr (.inl pd))) := by rw [huk2, gup_ne (by omega), gup_ne (by omega)]; exact hu1_7
      have huk2_8 : uk2 (x + 4 * j + 128 + 2) = some (.inl ((X.2 1), 12, .inr (.inl sh))) := by rw [huk2, gup_ne (by omega), gup_ne (by omega)]; exact hu1_8
      have huk2_9 : uk2 (x + 4 * j + 128 + 3) = some (.inl ((X.2 1), 12, .inr (.inl df))) := by rw [huk2, gup_ne (by omega), gup_ne (by omega)]; exact hu1_9
      show GW Z _ _ _ ad uk2 sz [(2, .ref (ad (x + 4 * j + 128))), (0, .ref (ad x)), (1, .int (nI j))] 0 0 46 []
      refine g_iconst (v := 1) C d_X_strike_46 (by decide) ?_
      exact g_zret C hR hret rfl ⟨rfl, Or.inl ⟨by simp only [decide_eq_true c14, if_pos c14, decide_eq_true c27, if_pos c27, Bool.not_true, Bool.not_false, Bool.and_true, Bool.true_and, Bool.false_and, Bool.and_false, bI_t, bI_f], rfl, (by first | (rw [huk2, hu1]; done) | (rw [huk2, hu1]; funext k; simp only [gup]; (repeat' split) <;> first | with_reducible rfl | (exfalso; omega)))⟩⟩ d_X_strike_47
    · skip
      refine g_iconst (v := 0) C d_X_strike_30 (by decide) ?_
      exact g_zret C hR hret rfl ⟨rfl, Or.inr ⟨by simp only [decide_eq_true c14, if_pos c14, decide_eq_false c27, if_neg c27, Bool.not_true, Bool.not_false, Bool.and_true, Bool.true_and, Bool.false_and, Bool.and_false, bI_t, bI_f], rfl, rfl⟩⟩ d_X_strike_31
