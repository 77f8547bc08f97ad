def traX (se ge : Nat → Int32) (am : Nat → Int64) (ti : Nat → Int32) (i w : Int32) : Int64 := if w = 0 then (se i.toNatClampNeg).toInt64 else if w = 1 then (ge i.toNatClampNeg).toInt64 else if w = 2 then am i.toNatClampNeg else if ti i.toNatClampNeg = 0 then 0 else 1
theorem w03 {w : Int32} (h : (!decide (w < 0) && decide (w ≤ 3)) = true) : w = 0 ∨ w = 1 ∨ w = 2 ∨ w = 3 := by
  rw [Bool.and_eq_true, Bool.not_eq_true', decide_eq_false_iff_not, decide_eq_true_iff] at h
  obtain ⟨c, c1, rfl⟩ := nI_of h.1
  rw [show (3 : Int32) = nI 3 from rfl, nI_leI c1 (by decide)] at h
  rcases (show c = 0 ∨ c = 1 ∨ c = 2 ∨ c = 3 by omega) with rfl | rfl | rfl | rfl
  · exact Or.inl rfl
  · exact Or.inr (Or.inl rfl)
  · exact Or.inr (Or.inr (Or.inl rfl))
  · exact Or.inr (Or.inr (Or.inr rfl))
set_option maxHeartbeats 4000000 in
set_option maxRecDepth 100000 in
theorem k_X_transfer_ok (l : Launch) (X : gX) (ad : Nat → Nat) (u : gW) (sz : Nat) (x nC nB k : Nat) (mc go mk : Int32) (op gc tc wa : Int32) (am : Nat → Int64) (se ge ti : Nat → Int32) (i w : Int32) (hx : u x = some (.inr (5, [.ref (ad (x + 1)), .ref (ad (x + 2)), .ref (ad (x + 3)), .ref (ad (x + 6)), .int (nI nC), .int (nI nB)]))) (hx1 : u (x + 1) = some (.inl ((X.2 3), 4, .inr (.inr (.inr (.inr (cArr ad x nC))))))) (hB : u (x + 16 * k + 32) = some (.inr (1, [.ref (ad (x + 16 * k + 32 + 1)), .ref (ad (x + 16 * k + 32 + 2)), .ref (ad (x + 16 * k + 32 + 3)), .int mc, .int go, .int mk]))) (hB3 : u (x + 16 * k + 32 + 3) = some (.inr (4, [.ref (ad (x + 16 * k + 32 + 3 + 1)), .ref (ad (x + 16 * k + 32 + 3 + 2)), .ref (ad (x + 16 * k + 32 + 3 + 3)), .ref (ad (x + 16 * k + 32 + 3 + 4)), .ref (ad (x + 16 * k + 32 + 3 + 5)), .int op, .int gc, .int tc, .int wa]))) (hS2 : u (x + 16 * k + 32 + 3 + 2) = some (.inl ((X.2 0), 12, .inl se))) (hS3 : u (x + 16 * k + 32 + 3 + 3) = some (.inl ((X.2 0), 12, .inl ge))) (hS4 : u (x + 16 * k + 32 + 3 + 4) = some (.inl ((X.2 1), 12, .inr (.inl am)))) (hS5 : u (x + 16 * k + 32 + 3 + 5) = some (.inl ((X.2 2), 12, .inl ti))) (hk : k < nC) (hn : nC ≤ 4) (htc : tc ≤ 12) (hh : hasTr op tc i = true) (hw : (!decide (w < 0) && decide (w ≤ 3)) = true) : gMet l (EE X) y_X_transfer c_X_transfer 5 (some .long) ({ frames := 1, cells := 0, slots := 0, locals := 21 }) [.ref (ad x), .int (nI k), .int i, .int w] ad u sz (fun v u' sz' => v = some (.long (traX se ge am ti i w)) ∧ u' = u ∧ sz' = sz) := by
  refine gMet_of "ExpenseClubs" rfl (by decide) (Nat.le_of_ble_eq_true rfl) (lv := [(0, .ref (ad x)), (1, .int (nI k)), (2, .int i), (3, .int w)]) rfl (fun Z hZl C hR hret hname => ?_)
  refine g_aload_n C d_X_transfer_0 rfl 0 rfl ?_
  refine g_iload_n C d_X_transfer_1 rfl 1 rfl ?_
  refine g_callV 1 C (k_X_clubAt_ok _ X ad u sz x nC nB k hx hx1 hk hn) (gmem wd_189 rfl) (gmem wd_191 rfl) (gmem ws_0 rfl) (gmem wd_1 rfl) (gmem wd_192 rfl) ⟨by decide, by decide, by decide +kernel⟩ ⟨Nat.le_of_ble_eq_true rfl, Nat.le_of_ble_eq_true rfl⟩ hx rfl rfl rfl (Nat.le_of_ble_eq_true rfl) d_X_transfer_2 ⟨Nat.le_of_ble_eq_true rfl, Nat.le_of_ble_eq_true rfl⟩ ?_
  rintro v9 u9 s9 ⟨h9, hu9, hs9⟩; rw [h9, hu9, hs9]; clear h9 hu9 hs9 v9 u9 s9
  show GW Z _ _ _ ad u sz [(0, .ref (ad x)), (1, .int (nI k)), (2, .int i), (3, .int w)] 0 0 5 [.ref (ad (x + 16 * k + 32))]
  refine g_astore C d_X_transfer_5 [(4, .ref (ad (x + 16 * k + 32))), (0, .ref (ad x)), (1, .int (nI k)), (2, .int i), (3, .int w)] (by decide) rfl ?_
  refine g_aload C d_X_transfer_7 0 rfl ?_
  refine g_ifnull C d_X_transfer_9 ?_
  refine g_aload C d_X_transfer_12 0 rfl ?_
  refine g_get (x + 16 * k + 32) 2 C hB rfl i_C (by decide) (gmem wd_165 rfl) rfl rfl d_X_transfer_14 ?_
  refine g_iload_n C d_X_transfer_17 rfl 3 rfl ?_
  refine g_callV 1 C (k_S_hasTransfer _ X ad u sz (x + 16 * k + 32 + 3) _ _ _ _ _ op gc tc wa i hB3) (gmem wd_396 rfl) (gmem wd_397 rfl) (gmem wd_398 rfl) (gmem wd_6 rfl) (gmem wd_399 rfl) ⟨by decide, by decide, by decide +kernel⟩ ⟨Nat.le_of_ble_eq_true rfl, Nat.le_of_ble_eq_true rfl⟩ hB3 rfl rfl rfl (Nat.le_of_ble_eq_true rfl) d_X_transfer_18 ⟨Nat.le_of_ble_eq_true rfl, Nat.le_of_ble_eq_true rfl⟩ ?_
  rintro v9 u9 s9 ⟨h9, hu9, hs9⟩; rw [h9, hu9, hs9]; clear h9 hu9 hs9 v9 u9 s9
  show GW Z _ _ _ ad u sz [(4, .ref (ad (x + 16 * k + 32))), (0, .ref (ad x)), (1, .int (nI k)), (2, .int i), (3, .int w)] 0 0 21 [.int (bI (hasTr op tc i))]
  refine g_if_ne 34 C d_X_transfer_21 (by decide) (fun c21 => ?_) (fun c21 => ?_)
  rotate_left
  · rw [hh] at c21; exact absurd c21 (by decide)
  refine g_iload_n C d_X_transfer_34 rfl 4 rfl ?_
  by_cases c35_0 : w = 0
  · refine g_tableIn (off := 29) 64 C d_X_transfer_35 (by rw [c35_0]; decide) (by rw [c35_0]; decide) (by rw [c35_0]; rfl) (by decide) ?_
    refine g_aload C d_X_transfer_64 0 rfl ?_
    refine g_get (x + 16 * k + 32) 2 C hB rfl i_C (by decide) (gmem wd_165 rfl) rfl rfl d_X_transfer_66 ?_
    refine g_get (x + 16 * k + 32 + 3) 1 C hB3 rfl i_S (by decide) (gmem wd_120 rfl) rfl rfl d_X_transfer_69 ?_
    refine g_iload_n C d_X_transfer_72 rfl 3 rfl ?_
    refine g_iald (x + 16 * k + 32 + 3 + 2) 0 C hS2 rfl (hasTr_in hh htc) d_X_transfer_73 ?_
    refine g_i2l C d_X_transfer_74 ?_
    exact g_lret C hR hret ⟨by rw [traX, if_pos c35_0], rfl, rfl⟩ d_X_transfer_75
  by_cases c35_1 : w = 1
  · refine g_tableIn (off := 41) 76 C d_X_transfer_35 (by rw [c35_1]; decide) (by rw [c35_1]; decide) (by rw [c35_1]; rfl) (by decide) ?_
    refine g_aload C d_X_transfer_76 0 rfl ?_
    refine g_get (x + 16 * k + 32) 2 C hB rfl i_C (by decide) (gmem wd_165 rfl) rfl rfl d_X_transfer_78 ?_
    refine g_get (x + 16 * k + 32 + 3) 2 C hB3 rfl i_S (by decide) (gmem wd_123 rfl) rfl rfl d_X_transfer_81 ?_
    refine g_iload_n C d_X_transfer_84 rfl 3 rfl ?_
    refine g_iald (x + 16 * k + 32 + 3 + 3) 0 C hS3 rfl (hasTr_in hh htc) d_X_transfer_85 ?_
    refine g_i2l C d_X_transfer_86 ?_
    exact g_lret C hR hret ⟨by rw [traX, if_neg (by rw [c35_1]; decide), if_pos c35_1], rfl, rfl⟩ d_X_transfer_87
  by_cases c35_2 : w = 2
  · refine g_tableIn (off := 53) 88 C d_X_transfer_35 (by rw [c35_2]; decide) (by rw [c35_2]; decide) (by rw [c35_2]; rfl) (by decide) ?_
    refine g_aload C d_X_transfer_88 0 rfl ?_
    refine g_get (x + 16 * k + 32) 2 C hB rfl i_C (by decide) (gmem wd_165 rfl) rfl rfl d_X_transfer_90 ?_
    refine g_get (x + 16 * k + 32 + 3) 3 C hB3 rfl i_S (by decide) (gmem wd_126 rfl) rfl rfl d_X_transfer_93 ?_
    refine g_iload_n C d_X_transfer_96 rfl 3 rfl ?_
    refine g_lald (x + 16 * k + 32 + 3 + 4) 1 C hS4 rfl (hasTr_in hh htc) d_X_transfer_97 ?_
    exact g_lret C hR hret ⟨by rw [traX, if_neg (by rw [c35_2]; decide), if_neg (by rw [c35_2]; decide), if_pos c35_2], rfl, rfl⟩ d_X_transfer_98
  by_cases c35_3 : w = 3
  · refine g_tableIn (off := 64) 99 C d_X_transfer_35 (by rw [c35_3]; decide) (by rw [c35_3]; decide) (by rw [c35_3]; rfl) (by decide) ?_
    refine g_aload C d_X_transfer_99 0 rfl ?_
    refine g_get (x + 16 * k + 32) 2 C hB rfl i_C (by decide) (gmem wd_165 rfl) rfl rfl d_X_transfer_101 ?_
    refine g_get (x + 16 * k + 32 + 3) 4 C hB3 rfl i_S (by decide) (gmem wd_129 rfl) rfl rfl d_X_transfer_104 ?_
    refine g_iload_n C d_X_transfer_107 rfl 3 rfl ?_
    refine g_zald (x + 16 * k + 32 + 3 + 5) 2 C hS5 rfl (hasTr_in hh htc) d_X_transfer_108 ?_
    refine g_if_eq 116 C d_X_transfer_109 (by decide) (fun c109 => ?_) (fun c109 => ?_)
    · skip
      refine g_lconst (v := 0) C d_X_transfer_116 (by decide) ?_
      exact g_lret C hR hret ⟨by rw [traX, if_neg (by rw [c35_3]; decide), if_neg (by rw [c35_3]; decide), if_neg (by rw [c35_3]; decide)]; rw [if_pos c109], rfl, rfl⟩ d_X_transfer_117
    · skip
      refine g_lconst (v := 1) C d_X_transfer_112 (by decide) ?_
      refine g_goto 117 C d_X_transfer_113 (by decide) ?_
      exact g_lret C hR hret ⟨by rw [traX, if_neg (by rw [c35_3]; decide), if_neg (by rw [c35_3]; decide), if_neg (by rw [c35_3]; decide)]; rw [if_neg c109], rfl, rfl⟩ d_X_transfer_117
  refine g_tableOut 118 C d_X_transfer_35 (by have h0 := lv_neT c35_0 (a := 0) (by decide); have h1 := lv_neT c35_1 (a := 1) (by decide); have h2 := lv_neT c35_2 (a := 2) (by decide); have h3 := lv_neT c35_3 (a := 3) (by decide); omega) (by decide) ?_
  exact absurd (w03 hw) (fun q => q.elim c35_0 (fun q => q.elim c35_1 (fun q => q.elim c35_2 c35_3)))

theorem thr0 {M : mM} {c i w : Int32} : th_tr M c i w = 0 ↔ isTr (M.1 1) (M.2.1 16) (M.2.1 19) c i = true ∧ (!decide (w < 0) && decide (w ≤ 3)) = true := by
  rw [th_tr, thrM]
  cases h1 : isTr (M.1 1) (M.2.1 16) (M.2.1 19) c i with
  | false => simp
  | true =>
    rw [if_neg (by decide)]
    cases h2 : (!decide (w < 0) && decide (w ≤ 3)) with
    | false => simp
    | true => simp
/-- a transfer of a club, on both sides -/
theorem tr_eq {M : mM} {nC nB k : Nat} {V : mM} {i : Int32} (hk : k < nC) (hC : nC ≤ 4) (h1 : M.1 1 = nI nC) (hR : RC M nB k V) : isTr (M.1 1) (M.2.1 16) (M.2.1 19) (nI k) i = hasTr (V.1 3) (V.1 5) i := by
  obtain ⟨n, t, ⟨c1, c2, c3, c4, c5, c6, c7, c8, c9⟩, -⟩ := hR
  rw [isTr, h1, isMb_nI (by omega) hk, Bool.true_and, nI_clamp (by omega), c8, c6, hasTr, c5, Bool.and_assoc]
theorem t_X_transfer_ok (l : Launch) (X : gX) (ad : Nat → Nat) (u : gW) (sz x : Nat) (M : mM) (nC nB : Nat) (c i w : Int32) (h : kD X ad x M u nC nB) (h0 : th_tr M c i w = 0) : gMet l (EE X) y_X_transfer c_X_transfer 5 (some .long) ({ frames := 1, cells := 0, slots := 0, locals := 21 }) [.ref (ad x), .int c, .int i, .int w] ad u sz (postK X ad x (sI M 0 0) (.long (a_tr M c i w)) u) := by
  have hk0 := h
  obtain ⟨q1, q2⟩ := thr0.mp h0
  obtain ⟨⟨r1, r2, r3, r4, -⟩, ⟨h1, h2, h3⟩, -, -, h7, -⟩ := h
  have hb : isMb c (nI nC) = true := by rw [isTr, Bool.and_eq_true, r3] at q1; exact q1.1
  obtain ⟨k, hk, rfl⟩ := isMb_nat (by omega) hb
  obtain ⟨V, hV, hR⟩ := h7 k hk
  have q3 := q1
  rw [tr_eq hk r1 r3 hR] at q3
  have hR' := hR
  obtain ⟨n, t, ⟨c1, c2, c3, c4, c5, c6, c7, c8, c9⟩, -, -, -, i3, -⟩ := hR'
  refine gMet_mono (k_X_transfer_ok l X ad u sz x nC nB k _ _ _ _ _ _ _ _ _ _ _ i w h1 h2 hV.1 hV.2.2.2.1 hV.2.2.2.2.2.1 hV.2.2.2.2.2.2.1 hV.2.2.2.2.2.2.2.1 hV.2.2.2.2.2.2.2.2 hk r1 (by rw [c5]; exact nI_le12 (by omega)) q3 q2) fun v u' s ⟨e1, e2, e3⟩ => postK_th hk0 (e1.trans ?_) e2
  congr 2
  have hi : (!decide (i < 0) && !decide (nI t ≤ i)) = true := by
    rw [hasTr, Bool.and_assoc, Bool.and_eq_true, c5] at q3; exact q3.2
  obtain ⟨j, hj, rfl⟩ := isMb_nat (c := i) (n := t) (by omega) hi
  obtain ⟨p1, p2, p3, p4, -⟩ := i3 j hj
  rw [traX, a_tr, traM, q1, if_neg (show ¬ (true = false) by decide), q2, if_neg (show ¬ (true = false) by decide), nI_clamp (n := j) (by omega), nI_clamp (n := k) (by omega), p1, p2, p3, p4]