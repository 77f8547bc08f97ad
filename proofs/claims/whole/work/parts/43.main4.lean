theorem hasTr_in {op tc i : Int32} (h : hasTr op tc i = true) (htc : tc ≤ 12) : vp_in i 12 := by
  simp only [hasTr, Bool.and_eq_true, Bool.not_eq_true', decide_eq_false_iff_not] at h
  have h1 := h.1.2
  have h2 := h.2
  rw [vp_in_iff]
  rw [Int32.lt_iff_toInt_lt] at h1
  rw [Int32.le_iff_toInt_le] at h2 htc
  have e1 : (0 : Int32).toInt = 0 := by decide
  have e2 : (12 : Int32).toInt = 12 := by decide
  omega
theorem isPr_in {y mc go : Int32} (h : isPr y mc go = true) (hmc : mc ≤ 12) : vp_in y 12 := in12m (Bool.and_eq_true_iff.mp h).1 hmc
set_option maxHeartbeats 4000000 in
set_option maxRecDepth 100000 in
theorem k_X_leave_ok (l : Launch) (X : gX) (ad : Nat → Nat) (u : gW) (sz : Nat) (x nC nB k : Nat) (mc go mk : Int32) (op gc tc wa : Int32) (bal : Nat → Int64) (y : Int32) (hx : u x = some (.inr (5, [.ref (ad (x + 1)), .ref (ad (x + 2)), .ref (ad (x + 3)), .ref (ad (x + 6)), .int (nI nC), .int (nI nB)]))) (hx1 : u (x + 1) = some (.inl ((X.2 3), 4, .inr (.inr (.inr (.inr (cArr ad x nC))))))) (hB : u (x + 16 * k + 32) = some (.inr (1, [.ref (ad (x + 16 * k + 32 + 1)), .ref (ad (x + 16 * k + 32 + 2)), .ref (ad (x + 16 * k + 32 + 3)), .int mc, .int go, .int mk]))) (hB3 : u (x + 16 * k + 32 + 3) = some (.inr (4, [.ref (ad (x + 16 * k + 32 + 3 + 1)), .ref (ad (x + 16 * k + 32 + 3 + 2)), .ref (ad (x + 16 * k + 32 + 3 + 3)), .ref (ad (x + 16 * k + 32 + 3 + 4)), .ref (ad (x + 16 * k + 32 + 3 + 5)), .int op, .int gc, .int tc, .int wa]))) (hB1 : u (x + 16 * k + 32 + 1) = some (.inl ((X.2 1), 12, .inr (.inl bal)))) (hk : k < nC) (hn : nC ≤ 4) (hmc : mc ≤ 12) : gMet l (EE X) y_X_leave c_X_leave 4 (some .boolean) ({ frames := 2, cells := 0, slots := 0, locals := 42 }) [.ref (ad x), .int (nI k), .int y] ad u sz (fun v u' sz' => sz' = sz ∧ (((isPr y mc go && (decide (bal y.toNatClampNeg = 0) && decide (op = 0))) = true ∧ v = some (.int 1) ∧ u' = gup u (x + 16 * k + 32) (.inr (1, [.ref (ad (x + 16 * k + 32 + 1)), .ref (ad (x + 16 * k + 32 + 2)), .ref (ad (x + 16 * k + 32 + 3)), .int mc, .int (go ||| 1 <<< (y &&& 31)), .int mk]))) ∨ ((isPr y mc go && (decide (bal y.toNatClampNeg = 0) && decide (op = 0))) = false ∧ v = some (.int 0) ∧ u' = u))) := by
  refine gMet_of "ExpenseClubs" rfl (by decide) (Nat.le_of_ble_eq_true rfl) (lv := [(0, .ref (ad x)), (1, .int (nI k)), (2, .int y)]) rfl (fun Z hZl C hR hret hname => ?_)
  refine g_aload_n C d_X_leave_0 rfl 0 rfl ?_
  refine g_iload_n C d_X_leave_1 rfl 1 rfl ?_
  refine g_callV 1 C (k_X_clubAt_ok _ X ad u sz x nC nB k hx hx1 hk hn) (gmem wd_189 rfl) (gmem wd_191 rfl) (gmem ws_0 rfl) (gmem wd_1 rfl) (gmem wd_192 rfl) ⟨by decide, by decide, by decide +kernel⟩ ⟨Nat.le_of_ble_eq_true rfl, Nat.le_of_ble_eq_true rfl⟩ hx rfl rfl rfl (Nat.le_of_ble_eq_true rfl) d_X_leave_2 ⟨Nat.le_of_ble_eq_true rfl, Nat.le_of_ble_eq_true rfl⟩ ?_
  rintro v9 u9 s9 ⟨h9, hu9, hs9⟩; rw [h9, hu9, hs9]; clear h9 hu9 hs9 v9 u9 s9
  show GW Z _ _ _ ad u sz [(0, .ref (ad x)), (1, .int (nI k)), (2, .int y)] 0 0 5 [.ref (ad (x + 16 * k + 32))]
  refine g_astore_n C d_X_leave_5 rfl [(3, .ref (ad (x + 16 * k + 32))), (0, .ref (ad x)), (1, .int (nI k)), (2, .int y)] (by decide) rfl ?_
  refine g_aload_n C d_X_leave_6 rfl 0 rfl ?_
  refine g_ifnull C d_X_leave_7 ?_
  refine g_aload_n C d_X_leave_10 rfl 0 rfl ?_
  refine g_iload_n C d_X_leave_11 rfl 3 rfl ?_
  refine g_callV 1 C (k_C_isPresent _ X ad u sz (x + 16 * k + 32) _ _ _ mc go mk y hB) (gmem wd_197 rfl) (gmem wd_198 rfl) (gmem wd_199 rfl) (gmem wd_5 rfl) (gmem wd_200 rfl) ⟨by decide, by decide, by decide +kernel⟩ ⟨Nat.le_of_ble_eq_true rfl, Nat.le_of_ble_eq_true rfl⟩ hB rfl rfl rfl (Nat.le_of_ble_eq_true rfl) d_X_leave_12 ⟨Nat.le_of_ble_eq_true rfl, Nat.le_of_ble_eq_true rfl⟩ ?_
  rintro v9 u9 s9 ⟨h9, hu9, hs9⟩; rw [h9, hu9, hs9]; clear h9 hu9 hs9 v9 u9 s9
  show GW Z _ _ _ ad u sz [(3, .ref (ad (x + 16 * k + 32))), (0, .ref (ad x)), (1, .int (nI k)), (2, .int y)] 0 0 15 [.int (bI (isPr y mc go))]
  refine g_if_eq 39 C d_X_leave_15 (by decide) (fun c15 => ?_) (fun c15 => ?_)
  · skip
    refine g_iconst (v := 0) C d_X_leave_39 (by decide) ?_
    exact g_zret C hR hret rfl ⟨rfl, Or.inr ⟨by simp only [bI_eq0.mp c15, Bool.not_true, Bool.not_false, Bool.and_true, Bool.true_and, Bool.false_and, Bool.and_false, bI_t, bI_f], rfl, rfl⟩⟩ d_X_leave_40
  · skip
    refine g_aload_n C d_X_leave_18 rfl 0 rfl ?_
    refine g_get (x + 16 * k + 32) 0 C hB rfl i_C (by decide) (gmem wd_161 rfl) rfl rfl d_X_leave_19 ?_
    refine g_iload_n C d_X_leave_22 rfl 3 rfl ?_
    refine g_lald (x + 16 * k + 32 + 1) 1 C hB1 rfl (isPr_in (bI_ne0.mp c15) hmc) d_X_leave_23 ?_
    refine g_lconst (v := 0) C d_X_leave_24 (by decide) ?_
    refine g_lcmp C d_X_leave_25 ?_
    refine g_if_ne 39 C d_X_leave_26 (by decide) (fun c26 => ?_) (fun c26 => ?_)
    · rw [lg_cmp_eq] at c26
      refine g_iconst (v := 0) C d_X_leave_39 (by decide) ?_
      exact g_zret C hR hret rfl ⟨rfl, Or.inr ⟨by simp only [bI_ne0.mp c15, decide_eq_false c26, if_neg c26, Bool.not_true, Bool.not_false, Bool.and_true, Bool.true_and, Bool.false_and, Bool.and_false, bI_t, bI_f], rfl, rfl⟩⟩ d_X_leave_40
    · rw [lg_cmp_eq] at c26
      refine g_aload_n C d_X_leave_29 rfl 0 rfl ?_
      refine g_get (x + 16 * k + 32) 2 C hB rfl i_C (by decide) (gmem wd_165 rfl) rfl rfl d_X_leave_30 ?_
      refine g_get (x + 16 * k + 32 + 3) 5 C hB3 rfl i_S (by decide) (gmem wd_131 rfl) rfl rfl d_X_leave_33 ?_
      refine g_if_eq 41 C d_X_leave_36 (by decide) (fun c36 => ?_) (fun c36 => ?_)
      · skip
        refine g_aload_n C d_X_leave_41 rfl 0 rfl ?_
        refine g_dup C d_X_leave_42 rfl ?_
        refine g_get (x + 16 * k + 32) 4 C hB rfl i_C (by decide) (gmem wd_169 rfl) rfl rfl d_X_leave_43 ?_
        refine g_iconst (v := 1) C d_X_leave_46 (by decide) ?_
        refine g_iload_n C d_X_leave_47 rfl 3 rfl ?_
        refine g_ishl C d_X_leave_48 ?_
        refine g_ior C d_X_leave_49 ?_
        refine g_topi (fun x50 ex50 => ?_)
        refine g_put (x + 16 * k + 32) 4 C hB rfl i_C t_C t_C_ok n_C (by decide) (gmem wd_169 rfl) rfl rfl rfl rfl (Nat.le_of_ble_eq_true rfl) d_X_leave_50 ?_
        show GW Z _ _ _ ad (gup u (x + 16 * k + 32) (.inr (1, [.ref (ad (x + 16 * k + 32 + 1)), .ref (ad (x + 16 * k + 32 + 2)), .ref (ad (x + 16 * k + 32 + 3)), .int mc, .int x50, .int mk]))) _ _ _ _ _ _
        obtain ⟨u1, hu1⟩ : ∃ z, z = gup u (x + 16 * k + 32) (.inr (1, [.ref (ad (x + 16 * k + 32 + 1)), .ref (ad (x + 16 * k + 32 + 2)), .ref (ad (x + 16 * k + 32 + 3)), .int mc, .int x50, .int mk])) := ⟨_, rfl⟩
        rw [← hu1]
        have hu1_0 : u1 x = some (.inr (5, [.ref (ad (x + 1)), .ref (ad (x + 2)), .ref (ad (x + 3)), .ref (ad (x + 6)), .int (nI nC), .int (nI nB)])) := by rw [hu1, gup_ne (by omega)]; exact hx
        have hu1_1 : u1 (x + 1) = some (.inl ((X.2 3), 4, .inr (.inr (.inr (.inr (cArr ad x nC)))))) := by rw [hu1, gup_ne (by omega)]; exact hx1
        have hu1_2 : u1 (x + 16 * k + 32) = some (.inr (1, [.ref (ad (x + 16 * k + 32 + 1)), .ref (ad (x + 16 * k + 32 + 2)), .ref (ad (x + 16 * k + 32 + 3)), .int mc, .int x50, .int mk])) := by rw [hu1]; exact gup_self _ _ _
        have hu1_3 : u1 (x + 16 * k + 32 + 3) = some (.inr (4, [.ref (ad (x + 16 * k + 32 + 3 + 1)), .ref (ad (x + 16 * k + 32 + 3 + 2)), .ref (ad (x + 16 * k + 32 + 3 + 3)), .ref (ad (x + 16 * k + 32 + 3 + 4)), .ref (ad (x + 16 * k + 32 + 3 + 5)), .int op, .int gc, .int tc, .int wa])) := by rw [hu1, gup_ne (by omega)]; exact hB3
        have hu1_4 : u1 (x + 16 * k + 32 + 1) = some (.inl ((X.2 1), 12, .inr (.inl bal))) := by rw [hu1, gup_ne (by omega)]; exact hB1
        refine g_iconst (v := 1) C d_X_leave_53 (by decide) ?_
        exact g_zret C hR hret rfl ⟨rfl, Or.inl ⟨by simp only [bI_ne0.mp c15, decide_eq_true c26, if_pos c26, decide_eq_true c36, if_pos c36, Bool.not_true, Bool.not_false, Bool.and_true, Bool.true_and, Bool.false_and, Bool.and_false, bI_t, bI_f], rfl, (by first | (rw [hu1]; done) | (rw [hu1]; simp only [ex50]; done) | (rw [hu1]; simp only [ex50]; funext k; simp only [gup]; (repeat' split) <;> first | with_reducible rfl | (exfalso; omega)))⟩⟩ d_X_leave_54
      · skip
        refine g_iconst (v := 0) C d_X_leave_39 (by decide) ?_
        exact g_zret C hR hret rfl ⟨rfl, Or.inr ⟨by simp only [bI_ne0.mp c15, decide_eq_true c26, if_pos c26, decide_eq_false c36, if_neg c36, Bool.not_true, Bool.not_false, Bool.and_true, Bool.true_and, Bool.false_and, Bool.and_false, bI_t, bI_f], rfl, rfl⟩⟩ d_X_leave_40

set_option maxHeartbeats 4000000 in
set_option maxRecDepth 100000 in
theorem k_X_tick_ok (l : Launch) (X : gX) (ad : Nat → Nat) (u : gW) (sz : Nat) (x nC nB k : Nat) (mc go mk : Int32) (op gc tc wa : Int32) (bal am : Nat → Int64) (se ge ti : Nat → Int32) (i : Int32) (hx : u x = some (.inr (5, [.ref (ad (x + 1)), .ref (ad (x + 2)), .ref (ad (x + 3)), .ref (ad (x + 6)), .int (nI nC), .int (nI nB)]))) (hx1 : u (x + 1) = some (.inl ((X.2 3), 4, .inr (.inr (.inr (.inr (cArr ad x nC))))))) (hB : u (x + 16 * k + 32) = some (.inr (1, [.ref (ad (x + 16 * k + 32 + 1)), .ref (ad (x + 16 * k + 32 + 2)), .ref (ad (x + 16 * k + 32 + 3)), .int mc, .int go, .int mk]))) (hB3 : u (x + 16 * k + 32 + 3) = some (.inr (4, [.ref (ad (x + 16 * k + 32 + 3 + 1)), .ref (ad (x + 16 * k + 32 + 3 + 2)), .ref (ad (x + 16 * k + 32 + 3 + 3)), .ref (ad (x + 16 * k + 32 + 3 + 4)), .ref (ad (x + 16 * k + 32 + 3 + 5)), .int op, .int gc, .int tc, .int wa]))) (hB1 : u (x + 16 * k + 32 + 1) = some (.inl ((X.2 1), 12, .inr (.inl bal)))) (hS2 : u (x + 16 * k + 32 + 3 + 2) = some (.inl ((X.2 0), 12, .inl se))) (hS3 : u (x + 16 * k + 32 + 3 + 3) = some (.inl ((X.2 0), 12, .inl ge))) (hS4 : u (x + 16 * k + 32 + 3 + 4) = some (.inl ((X.2 1), 12, .inr (.inl am)))) (hS5 : u (x + 16 * k + 32 + 3 + 5) = some (.inl ((X.2 2), 12, .inl ti))) (hk : k < nC) (hn : nC ≤ 4) (htc : tc ≤ 12) (hse : ∀ j, vp_in (se j) 12) (hge : ∀ j, vp_in (ge j) 12) : gMet l (EE X) y_X_tick c_X_tick 4 (some .boolean) ({ frames := 1, cells := 0, slots := 0, locals := 21 }) [.ref (ad x), .int (nI k), .int i] ad u sz (fun v u' sz' => sz' = sz ∧ (((hasTr op tc i && decide (ti i.toNatClampNeg = 0)) = true ∧ v = some (.int 1) ∧ u' = gup (gup (gup u (x + 16 * k + 32 + 3 + 5) (.inl ((X.2 2), 12, .inl (upd ti i.toNatClampNeg 1)))) (x + 16 * k + 32 + 3) (.inr (4, [.ref (ad (x + 16 * k + 32 + 3 + 1)), .ref (ad (x + 16 * k + 32 + 3 + 2)), .ref (ad (x + 16 * k + 32 + 3 + 3)), .ref (ad (x + 16 * k + 32 + 3 + 4)), .ref (ad (x + 16 * k + 32 + 3 + 5)), .int op, .int gc, .int tc, .int (wa - 1)]))) (x + 16 * k + 32 + 1) (.inl ((X.2 1), 12, .inr (.inl (vp_updL (vp_updL bal ((se i.toNatClampNeg).toNatClampNeg) (bal ((se i.toNatClampNeg).toNatClampNeg) + am i.toNatClampNeg)) ((ge i.toNatClampNeg).toNatClampNeg) ((vp_updL bal ((se i.toNatClampNeg).toNatClampNeg) (bal ((se i.toNatClampNeg).toNatClampNeg) + am i.toNatClampNeg)) ((ge i.toNatClampNeg).toNatClampNeg) - am i.toNatClampNeg)))))) ∨ ((hasTr op tc i && decide (ti i.toNatClampNeg = 0)) = false ∧ v = some (.int 0) ∧ u' = u))) := by
  refine gMet_of "ExpenseClubs" rfl (by decide) (Nat.le_of_ble_eq_true rfl) (lv := [(0, .ref (ad x)), (1, .int (nI k)), (2, .int i)]) rfl (fun Z hZl C hR hret hname => ?_)
  refine g_aload_n C d_X_tick_0 rfl 0 rfl ?_
  refine g_iload_n C d_X_tick_1 rfl 1 rfl ?_
  refine g_callV 1 C (k_X_clubAt_ok _ X ad u sz x nC nB k hx hx1 hk hn) (gmem wd_189 rfl) (gmem wd_191 rfl) (gmem ws_0 rfl) (gmem wd_1 rfl) (gmem wd_192 rfl) ⟨by decide, by decide, by decide +kernel⟩ ⟨Nat.le_of_ble_eq_true rfl, Nat.le_of_ble_eq_true rfl⟩ hx rfl rfl rfl (Nat.le_of_ble_eq_true rfl) d_X_tick_2 ⟨Nat.le_of_ble_eq_true rfl, Nat.le_of_ble_eq_true rfl⟩ ?_
  rintro v9 u9 s9 ⟨h9, hu9, hs9⟩; rw [h9, hu9, hs9]; clear h9 hu9 hs9 v9 u9 s9
  show GW Z _ _ _ ad u sz [(0, .ref (ad x)), (1, .int (nI k)), (2, .int i)] 0 0 5 [.ref (ad (x + 16 * k + 32))]
  refine g_astore_n C d_X_tick_5 rfl [(3, .ref (ad (x + 16 * k + 32))), (0, .ref (ad x)), (1, .int (nI k)), (2, .int i)] (by decide) rfl ?_
  refine g_aload_n C d_X_tick_6 rfl 0 rfl ?_
  refine g_ifnull C d_X_tick_7 ?_
  refine g_aload_n C d_X_tick_10 rfl 0 rfl ?_
  refine g_get (x + 16 * k + 32) 2 C hB rfl i_C (by decide) (gmem wd_165 rfl) rfl rfl d_X_tick_11 ?_
  refine g_iload_n C d_X_tick_14 rfl 3 rfl ?_
  refine g_callV 1 C (k_S_hasTransfer _ X ad u sz (x + 16 * k + 32 + 3) _ _ _ _ _ op gc tc wa i hB3) (gmem wd_396 rfl) (gmem wd_397 rfl) (gmem wd_398 rfl) (gmem wd_6 rfl) (gmem wd_399 rfl) ⟨by decide, by decide, by decide +kernel⟩ ⟨Nat.le_of_ble_eq_true rfl, Nat.le_of_ble_eq_true rfl⟩ hB3 rfl rfl rfl (Nat.le_of_ble_eq_true rfl) d_X_tick_15 ⟨Nat.le_of_ble_eq_true rfl, Nat.le_of_ble_eq_true rfl⟩ ?_
  rintro v9 u9 s9 ⟨h9, hu9, hs9⟩; rw [h9, hu9, hs9]; clear h9 hu9 hs9 v9 u9 s9
  show GW Z _ _ _ ad u sz [(3, .ref (ad (x + 16 * k + 32))), (0, .ref (ad x)), (1, .int (nI k)), (2, .int i)] 0 0 18 [.int (bI (hasTr op tc i))]
  refine g_if_eq 33 C d_X_tick_18 (by decide) (fun c18 => ?_) (fun c18 => ?_)
  · skip
    refine g_iconst (v := 0) C d_X_tick_33 (by decide) ?_
    exact g_zret C hR hret rfl ⟨rfl, Or.inr ⟨by simp only [bI_eq0.mp c18, Bool.not_true, Bool.not_false, Bool.and_true, Bool.true_and, Bool.false_and, Bool.and_false, bI_t, bI_f], rfl, rfl⟩⟩ d_X_tick_34
  · skip
    refine g_aload_n C d_X_tick_21 rfl 0 rfl ?_
    refine g_get (x + 16 * k + 32) 2 C hB rfl i_C (by decide) (gmem wd_165 rfl) rfl rfl d_X_tick_22 ?_
    refine g_get (x + 16 * k + 32 + 3) 4 C hB3 rfl i_S (by decide) (gmem wd_129 rfl) rfl rfl d_X_tick_25 ?_
    refine g_iload_n C d_X_tick_28 rfl 3 rfl ?_
    refine g_zald (x + 16 * k + 32 + 3 + 5) 2 C hS5 rfl (hasTr_in (bI_ne0.mp c18) htc) d_X_tick_29 ?_
    refine g_if_eq 35 C d_X_tick_30 (by decide) (fun c30 => ?_) (fun c30 => ?_)
    · skip
      refine g_aload_n C d_X_tick_35 rfl 0 rfl ?_
      refine g_iload_n C d_X_tick_36 rfl 3 rfl ?_
      refine g_callV 1 C (k_C_makeTransfer _ X ad u sz (x + 16 * k + 32) bal se ge am ti mc go mk op gc tc wa i hB hB1 hB3 hS2 hS3 hS4 hS5 (hasTr_in (bI_ne0.mp c18) htc) (hse _) (hge _)) (gmem wd_400 rfl) (gmem wd_401 rfl) (gmem wd_402 rfl) (gmem wd_5 rfl) (gmem wd_403 rfl) ⟨by decide, by decide, by decide +kernel⟩ ⟨Nat.le_of_ble_eq_true rfl, Nat.le_of_ble_eq_true rfl⟩ hB rfl rfl rfl (Nat.le_of_ble_eq_true rfl) d_X_tick_37 ⟨Nat.le_of_ble_eq_true rfl, Nat.le_of_ble_eq_true rfl⟩ ?_
      rintro v9 uk1 s9 ⟨h9, huk1, hs9⟩; rw [h9, hs9]; clear h9 hs9 v9 s9
      have huk1_0 : uk1 x = some (.inr (5, [.ref (ad (x + 1)), .ref (ad (x + 2)), .ref (ad (x + 3)), .ref (ad (x + 6)), .int (nI nC), .int (nI nB)])) := by rw [huk1, gup_ne (by omega), gup_ne (by omega), gup_ne (by omega)]; exact hx
      have huk1_1 : uk1 (x + 1) = some (.inl ((X.2 3), 4, .inr (.inr (.inr (.inr (cArr ad x nC)))))) := by rw [huk1, gup_ne (by omega), gup_ne (by omega), gup_ne (by omega)]; exact hx1
      have huk1_2 : uk1 (x + 16 * k + 32) = some (.inr (1, [.ref (ad (x + 16 * k + 32 + 1)), .ref (ad (x + 16 * k + 32 + 2)), .ref (ad (x + 16 * k + 32 + 3)), .int mc, .int go, .int mk])) := by rw [huk1, gup_ne (by omega), gup_ne (by omega), gup_ne (by omega)]; exact hB
      have huk1_3 : uk1 (x + 16 * k + 32 + 3) = some (.inr (4, [.ref (ad (x + 16 * k + 32 + 3 + 1)), .ref (ad (x + 16 * k + 32 + 3 + 2)), .ref (ad (x + 16 * k + 32 + 3 + 3)), .ref (ad (x + 16 * k + 32 + 3 + 4)), .ref (ad (x + 16 * k + 32 + 3 + 5)), .int op, .int gc, .int tc, .int (wa - 1)])) := by rw [huk1, gup_ne (by omega), gup_self]
      have huk1_4 : uk1 (x + 16 * k + 32 + 1) = some (.inl ((X.2 1), 12, .inr (.inl (vp_updL (vp_updL bal ((se i.toNatClampNeg).toNatClampNeg) (bal ((se i.toNatClampNeg).toNatClampNeg) + am i.toNatClampNeg)) ((ge i.toNatClampNeg).toNatClampNeg) ((vp_updL bal ((se i.toNatClampNeg).toNatClampNeg) (bal ((se i.toNatClampNeg).toNatClampNeg) + am i.toNatClampNeg)) ((ge i.toNatClampNeg).toNatClampNeg) - am i.toNatClampNeg))))) := by rw [huk1, gup_self]
      have huk1_5 : uk1 (x + 16 * k + 32 + 3 + 2) = some (.inl ((X.2 0), 12, .inl se)) := by rw [huk1, gup_ne (by omega), gup_ne (by omega), gup_ne (by omega)]; exact hS2
      have huk1_6 : uk1 (x + 16 * k + 32 + 3 + 3) = some (.inl ((X.2 0), 12, .inl ge)) := by rw [huk1, gup_ne (by omega), gup_ne (by omega), gup_ne (by omega)]; exact hS3
      have huk1_7 : uk1 (x + 16 * k + 32 + 3 + 4) = some (.inl ((X.2 1), 12, .inr (.inl am))) := by rw [huk1, gup_ne (by omega), gup_ne (by omega), gup_ne (by omega)]; exact hS4
      have huk1_8 : uk1 (x + 16 * k + 32 + 3 + 5) = some (.inl ((X.2 2), 12, .inl (upd ti i.toNatClampNeg 1))) := by rw [huk1, gup_ne (by omega), gup_ne (by omega), gup_self]
      show GW Z _ _ _ ad uk1 sz [(3, .ref (ad (x + 16 * k + 32))), (0, .ref (ad x)), (1, .int (nI k)), (2, .int i)] 0 0 40 []
      refine g_iconst (v := 1) C d_X_tick_40 (by decide) ?_
      exact g_zret C hR hret rfl ⟨rfl, Or.inl ⟨by simp only [bI_ne0.mp c18, decide_eq_true c30, if_pos c30, Bool.not_true, Bool.not_false, Bool.and_true, Bool.true_and, Bool.false_and, Bool.and_false, bI_t, bI_f], rfl, (by first | (rw [huk1]; done) | (rw [huk1]; funext k; simp only [gup]; (repeat' split) <;> first | with_reducible rfl | (exfalso; omega)))⟩⟩ d_X_tick_41
    · skip
      refine g_iconst (v := 0) C d_X_tick_33 (by decide) ?_
      exact g_zret C hR hret rfl ⟨rfl, Or.inr ⟨by simp only [bI_ne0.mp c18, decide_eq_false c30, if_neg c30, Bool.not_true, Bool.not_false, Bool.and_true, Bool.true_and, Bool.false_and, Bool.and_false, bI_t, bI_f], rfl, rfl⟩⟩ d_X_tick_34

def okBX (w n r : Int32) : Bool := !decide (w < 1) && (!decide (5 < w) && (!decide (n < 1) && (!decide (100000000 < n) && (!decide (r < 1) && decide (r ≤ 1000000000)))))
set_option maxHeartbeats 4000000 in
set_option maxRecDepth 100000 in
theorem k_X_bill_ok (l : Launch) (X : gX) (ad : Nat → Nat) (u : gW) (sz : Nat) (x nC nB k : Nat) (cv : Value) (way ce ra lc : Int32) (py wt : Nat → Int64) (w n r : Int32) (hx : u x = some (.inr (5, [.ref (ad (x + 1)), .ref (ad (x + 2)), .ref (ad (x + 3)), .ref (ad (x + 6)), .int (nI nC), .int (nI nB)]))) (hx1 : u (x + 1) = some (.inl ((X.2 3), 4, .inr (.inr (.inr (.inr (cArr ad x nC))))))) (hd : u (x + 3) = some (.inr (2, [.ref (ad (x + 3 + 1)), .ref (ad (x + 3 + 2)), cv, .int way, .int ce, .int ra, .int lc]))) (hd1 : u (x + 3 + 1) = some (.inl ((X.2 1), 12, .inr (.inl py)))) (hd2 : u (x + 3 + 2) = some (.inl ((X.2 1), 12, .inr (.inl wt)))) (hk : k < nC) (hn : nC ≤ 4) : gMet l (EE X) y_X_bill c_X_bill 6 (some .boolean) ({ frames := 1, cells := 0, slots := 0, locals := 25 }) [.ref (ad x), .int (nI k), .int w, .int n, .int r] ad u sz (fun v u' sz' => sz' = sz ∧ ((okBX w n r = true ∧ v = some (.int 1) ∧ u' = gup (gup (gup u (x + 3) (.inr (2, [.ref (ad (x + 3 + 1)), .ref (ad (x + 3 + 2)), .ref (ad (x + 16 * k + 32)), .int w, .int n, .int r, .int 0]))) (x + 3 + 1) (.inl ((X.2 1), 12, .inr (.inl (fillL py 0 12))))) (x + 3 + 2) (.inl ((X.2 1), 12, .inr (.inl (fillL wt 0 12))))) ∨ (okBX w n r = false ∧ v = some (.int 0) ∧ u' = u))) := by
  refine gMet_of "ExpenseClubs" rfl (by decide) (Nat.le_of_ble_eq_true rfl) (lv := [(0, .ref (ad x)), (1, .int (nI k)), (2, .int w), (3, .int n), (4, .int r)]) rfl (fun Z hZl C hR hret hname => ?_)
  refine g_aload_n C d_X_bill_0 rfl 0 rfl ?_
  refine g_iload_n C d_X_bill_1 rfl 1 rfl ?_
  refine g_callV 1 C (k_X_clubAt_ok _ X ad u sz x nC nB k hx hx1 hk hn) (gmem wd_189 rfl) (gmem wd_191 rfl) (gmem ws_0 rfl) (gmem wd_1 rfl) (gmem wd_192 rfl) ⟨by decide, by decide, by decide +kernel⟩ ⟨Nat.le_of_ble_eq_true rfl, Nat.le_of_ble_eq_true rfl⟩ hx rfl rfl rfl (Nat.le_of_ble_eq_true rfl) d_X_bill_2 ⟨Nat.le_of_ble_eq_true rfl, Nat.le_of_ble_eq_true rfl⟩ ?_
  rintro v9 u9 s9 ⟨h9, hu9, hs9⟩; rw [h9, hu9, hs9]; clear h9 hu9 hs9 v9 u9 s9
  show GW Z _ _ _ ad u sz [(0, .ref (ad x)), (1, .int (nI k)), (2, .int w), (3, .int n), (4, .int r)] 0 0 5 [.ref (ad (x + 16 * k + 32))]
  refine g_astore C d_X_bill_5 [(5, .ref (ad (x + 16 * k + 32))), (0, .ref (ad x)), (1, .int (nI k)), (2, .int w), (3, .int n), (4, .int r)] (by decide) rfl ?_
  refine g_aload C d_X_bill_7 0 rfl ?_
  refine g_ifnull C d_X_bill_9 ?_
  refine g_iload_n C d_X_bill_12 rfl 3 rfl ?_
  refine g_iconst (v := 1) C d_X_bill_13 (by decide) ?_
  refine g_icmp_lt 46 C d_X_bill_14 (by decide) (fun c14 => ?_) (fun c14 => ?_)
  · skip
    refine g_iconst (v := 0) C d_X_bill_46 (by decide) ?_
    exact g_zret C hR hret rfl ⟨rfl, Or.inr ⟨by simp only [okBX, decide_eq_true c14, if_pos c14, Bool.not_true, Bool.not_false, Bool.and_true, Bool.true_and, Bool.false_and, Bool.and_false, bI_t, bI_f], rfl, rfl⟩⟩ d_X_bill_47
  · skip
    refine g_iload_n C d_X_bill_17 rfl 3 rfl ?_
    refine g_iconst (v := 5) C d_X_bill_18 (by decide) ?_
    refine g_icmp_gt 46 C d_X_bill_19 (by decide) (fun c19 => ?_) (fun c19 => ?_)
    · skip
      refine g_iconst (v := 0) C d_X_bill_46 (by decide) ?_
      exact g_zret C hR hret rfl ⟨rfl, Or.inr ⟨by simp only [okBX, decide_eq_false c14, if_neg c14, decide_eq_true c19, if_pos c19, Bool.not_true, Bool.not_false, Bool.and_true, Bool.true_and, Bool.false_and, Bool.and_false, bI_t, bI_f], rfl, rfl⟩⟩ d_X_bill_47
    · skip
      refine g_iload_n C d_X_bill_22 rfl 4 rfl ?_
      refine g_iconst (v := 1) C d_X_bill_23 (by decide) ?_
      refine g_icmp_lt 46 C d_X_bill_24 (by decide) (fun c24 => ?_) (fun c24 => ?_)
      · skip
        refine g_iconst (v := 0) C d_X_bill_46 (by decide) ?_
        exact g_zret C hR hret rfl ⟨rfl, Or.inr ⟨by simp only [okBX, decide_eq_false c14, if_neg c14, decide_eq_false c19, if_neg c19, decide_eq_true c24, if_pos c24, Bool.not_true, Bool.not_false, Bool.and_true, Bool.true_and, Bool.false_and, Bool.and_false, bI_t, bI_f], rfl, rfl⟩⟩ d_X_bill_47
      · skip
        refine g_iload_n C d_X_bill_27 rfl 4 rfl ?_
        refine g_ldc C (gmem wd_213 rfl) d_X_bill_28 ?_
        refine g_icmp_gt 46 C d_X_bill_30 (by decide) (fun c30 => ?_) (fun c30 => ?_)
        · skip
          refine g_iconst (v := 0) C d_X_bill_46 (by decide) ?_
          exact g_zret C hR hret rfl ⟨rfl, Or.inr ⟨by simp only [okBX, decide_eq_false c14, if_neg c14, decide_eq_false c19, if_neg c19, decide_eq_false c24, if_neg c24, decide_eq_true c30, if_pos c30, Bool.not_true, Bool.not_false, Bool.and_true, Bool.true_and, Bool.false_and, Bool.and_false, bI_t, bI_f], rfl, rfl⟩⟩ d_X_bill_47
        · skip
          refine g_iload C d_X_bill_33 5 rfl ?_
          refine g_iconst (v := 1) C d_X_bill_35 (by decide) ?_
          refine g_icmp_lt 46 C d_X_bill_36 (by decide) (fun c36 => ?_) (fun c36 => ?_)
          · skip
            refine g_iconst (v := 0) C d_X_bill_46 (by decide) ?_
            exact g_zret C hR hret rfl ⟨rfl, Or.inr ⟨by simp only [okBX, decide_eq_false c14, if_neg c14, decide_eq_false c19, if_neg c19, decide_eq_false c24, if_neg c24, decide_eq_false c30, if_neg c30, decide_eq_true c36, if_pos c36, Bool.not_true, Bool.not_false, Bool.and_true, Bool.true_and, Bool.false_and, Bool.and_false, bI_t, bI_f], rfl, rfl⟩⟩ d_X_bill_47
          · skip
            refine g_iload C d_X_bill_39 5 rfl ?_
            refine g_ldc C (gmem wd_214 rfl) d_X_bill_41 ?_
            refine g_icmp_le 48 C d_X_bill_43 (by decide) (fun c43 => ?_) (fun c43 => ?_)
            · skip
              refine g_aload_n C d_X_bill_48 rfl 1 rfl ?_
              refine g_get x 2 C hx rfl i_X (by decide) (gmem wd_83 rfl) rfl rfl d_X_bill_49 ?_
              refine g_aload C d_X_bill_52 0 rfl ?_
              refine g_iload_n C d_X_bill_54 rfl 3 rfl ?_
              refine g_iload_n C d_X_bill_55 rfl 4 rfl ?_
              refine g_iload C d_X_bill_56 5 rfl ?_
              refine g_callV 4 C (k_D_begin _ X ad u sz (x + 3) (x + 16 * k + 32) py wt cv way ce ra lc w n r hd hd1 hd2) (gmem wd_215 rfl) (gmem wd_216 rfl) (gmem wd_217 rfl) (gmem wd_2 rfl) (gmem wd_218 rfl) ⟨by decide, by decide, by decide +kernel⟩ ⟨Nat.le_of_ble_eq_true rfl, Nat.le_of_ble_eq_true rfl⟩ hd rfl rfl rfl (Nat.le_of_ble_eq_true rfl) d_X_bill_58 ⟨Nat.le_of_ble_eq_true rfl, Nat.le_of_ble_eq_true rfl⟩ ?_
              rintro v9 uk1 s9 ⟨h9, huk1, hs9⟩; rw [h9, hs9]; clear h9 hs9 v9 s9
              have huk1_0 : uk1 x = some (.inr (5, [.ref (ad (x + 1)), .ref (ad (x + 2)), .ref (ad (x + 3)), .ref (ad (x + 6)), .int (nI nC), .int (nI nB)])) := by rw [huk1, gup_ne (by omega), gup_ne (by omega), gup_ne (by omega)]; exact hx
              have huk1_1 : uk1 (x + 1) = some (.inl ((X.2 3), 4, .inr (.inr (.inr (.inr (cArr ad x nC)))))) := by rw [huk1, gup_ne (by omega), gup_ne (by omega), gup_ne (by omega)]; exact hx1
              have huk1_2 : uk1 (x + 3) = some (.inr (2, [.ref (ad (x + 3 + 1)), .ref (ad (x + 3 + 2)), .ref (ad (x + 16 * k + 32)), .int w, .int n, .int r, .int 0])) := by rw [huk1, gup_ne (by omega), gup_ne (by omega), gup_self]
              have huk1_3 : uk1 (x + 3 + 1) = some (.inl ((X.2 1), 12, .inr (.inl (fillL py 0 12)))) := by rw [huk1, gup_ne (by omega), gup_self]
              have huk1_4 : uk1 (x + 3 + 2) = some (.inl ((X.2 1), 12, .inr (.inl (fillL wt 0 12)))) := by rw [huk1, gup_self]
              show GW Z _ _ _ ad uk1 sz [(5, .ref (ad (x + 16 * k + 32))), (0, .ref (ad x)), (1, .int (nI k)), (2, .int w), (3, .int n), (4, .int r)] 0 0 61 []
              refine g_iconst (v := 1) C d_X_bill_61 (by decide) ?_
              exact g_zret C hR hret rfl ⟨rfl, Or.inl ⟨by simp only [okBX, decide_eq_false c14, if_neg c14, decide_eq_false c19, if_neg c19, decide_eq_false c24, if_neg c24, decide_eq_false c30, if_neg c30, decide_eq_false c36, if_neg c36, decide_eq_true c43, if_pos c43, Bool.not_true, Bool.not_false, Bool.and_true, Bool.true_and, Bool.false_and, Bool.and_false, bI_t, bI_f], rfl, (by first | (rw [huk1]; done) | (rw [huk1]; funext k; simp only [gup]; (repeat' split) <;> first | with_reducible rfl | (exfalso; omega)))⟩⟩ d_X_bill_62
            · skip
              refine g_iconst (v := 0) C d_X_bill_46 (by decide) ?_
              exact g_zret C hR hret rfl ⟨rfl, Or.inr ⟨by simp only [okBX, decide_eq_false c14, if_neg c14, decide_eq_false c19, if_neg c19, decide_eq_false c24, if_neg c24, decide_eq_false c30, if_neg c30, decide_eq_false c36, if_neg c36, decide_eq_false c43, if_neg c43, Bool.not_true, Bool.not_false, Bool.and_true, Bool.true_and, Bool.false_and, Bool.and_false, bI_t, bI_f], rfl, rfl⟩⟩ d_X_bill_47
