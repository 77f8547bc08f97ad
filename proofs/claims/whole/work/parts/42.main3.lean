set_option maxHeartbeats 4000000 in
set_option maxRecDepth 100000 in
theorem k_X_total_ok (l : Launch) (X : gX) (ad : Nat → Nat) (u : gW) (sz : Nat) (x nC nB k : Nat) (ow : Value) (tt : Int64) (stk : Int32) (hx : u x = some (.inr (5, [.ref (ad (x + 1)), .ref (ad (x + 2)), .ref (ad (x + 3)), .ref (ad (x + 6)), .int (nI nC), .int (nI nB)]))) (hx2 : u (x + 2) = some (.inl ((X.2 4), 64, .inr (.inr (.inr (.inr (bArr ad x nB))))))) (hB : u (x + 4 * k + 128) = some (.inr (0, [ow, .long tt, .ref (ad (x + 4 * k + 128 + 1)), .ref (ad (x + 4 * k + 128 + 2)), .ref (ad (x + 4 * k + 128 + 3)), .int stk]))) (hk : k < nB) (hn : nB ≤ 64) : gMet l (EE X) y_X_total c_X_total 3 (some .long) ({ frames := 1, cells := 0, slots := 0, locals := 21 }) [.ref (ad x), .int (nI k)] ad u sz (fun v u' sz' => v = some (.long tt) ∧ u' = u ∧ sz' = sz) := by
  refine gMet_of "ExpenseClubs" rfl (by decide) (Nat.le_of_ble_eq_true rfl) (lv := [(0, .ref (ad x)), (1, .int (nI k))]) rfl (fun Z hZl C hR hret hname => ?_)
  refine g_aload_n C d_X_total_0 rfl 0 rfl ?_
  refine g_iload_n C d_X_total_1 rfl 1 rfl ?_
  refine g_callV 1 C (k_X_billAt_ok _ X ad u sz x nC nB k hx hx2 hk hn) (gmem wd_331 rfl) (gmem wd_333 rfl) (gmem ws_3 rfl) (gmem wd_1 rfl) (gmem wd_334 rfl) ⟨by decide, by decide, by decide +kernel⟩ ⟨Nat.le_of_ble_eq_true rfl, Nat.le_of_ble_eq_true rfl⟩ hx rfl rfl rfl (Nat.le_of_ble_eq_true rfl) d_X_total_2 ⟨Nat.le_of_ble_eq_true rfl, Nat.le_of_ble_eq_true rfl⟩ ?_
  rintro v9 u9 s9 ⟨h9, hu9, hs9⟩; rw [h9, hu9, hs9]; clear h9 hu9 hs9 v9 u9 s9
  show GW Z _ _ _ ad u sz [(0, .ref (ad x)), (1, .int (nI k))] 0 0 5 [.ref (ad (x + 4 * k + 128))]
  refine g_astore_n C d_X_total_5 rfl [(2, .ref (ad (x + 4 * k + 128))), (0, .ref (ad x)), (1, .int (nI k))] (by decide) rfl ?_
  refine g_aload_n C d_X_total_6 rfl 0 rfl ?_
  refine g_ifnonnull 16 C d_X_total_7 (by decide) ?_
  refine g_aload_n C d_X_total_16 rfl 0 rfl ?_
  refine g_get (x + 4 * k + 128) 1 C hB rfl i_B (by decide) (gmem wd_286 rfl) rfl rfl d_X_total_17 ?_
  exact g_lret C hR hret ⟨rfl, rfl, rfl⟩ d_X_total_20

def aboX (y w : Int32) (sh pd df : Nat → Int64) : Int64 := if (!decide (w < 0) && decide (w ≤ 2)) = false then -1 else if (!decide (y < 0) && decide (y < 12)) = false then 0 else if w = 0 then sh y.toNatClampNeg else if w = 1 then pd y.toNatClampNeg else df y.toNatClampNeg
set_option maxHeartbeats 4000000 in
set_option maxRecDepth 100000 in
theorem k_X_about_ok (l : Launch) (X : gX) (ad : Nat → Nat) (u : gW) (sz : Nat) (x nC nB k : Nat) (ow : Value) (tt : Int64) (stk : Int32) (pd sh df : Nat → Int64) (y w : Int32) (hx : u x = some (.inr (5, [.ref (ad (x + 1)), .ref (ad (x + 2)), .ref (ad (x + 3)), .ref (ad (x + 6)), .int (nI nC), .int (nI nB)]))) (hx2 : u (x + 2) = some (.inl ((X.2 4), 64, .inr (.inr (.inr (.inr (bArr ad x nB))))))) (hB : u (x + 4 * k + 128) = some (.inr (0, [ow, .long tt, .ref (ad (x + 4 * k + 128 + 1)), .ref (ad (x + 4 * k + 128 + 2)), .ref (ad (x + 4 * k + 128 + 3)), .int stk]))) (hB1 : u (x + 4 * k + 128 + 1) = some (.inl ((X.2 1), 12, .inr (.inl pd)))) (hB2 : u (x + 4 * k + 128 + 2) = some (.inl ((X.2 1), 12, .inr (.inl sh)))) (hB3 : u (x + 4 * k + 128 + 3) = some (.inl ((X.2 1), 12, .inr (.inl df)))) (hk : k < nB) (hn : nB ≤ 64) : gMet l (EE X) y_X_about c_X_about 5 (some .long) ({ frames := 1, cells := 0, slots := 0, locals := 21 }) [.ref (ad x), .int (nI k), .int y, .int w] ad u sz (fun v u' sz' => v = some (.long (aboX y w sh pd df)) ∧ u' = u ∧ sz' = sz) := by
  refine gMet_of "ExpenseClubs" rfl (by decide) (Nat.le_of_ble_eq_true rfl) (lv := [(0, .ref (ad x)), (1, .int (nI k)), (2, .int y), (3, .int w)]) rfl (fun Z hZl C hR hret hname => ?_)
  refine g_aload_n C d_X_about_0 rfl 0 rfl ?_
  refine g_iload_n C d_X_about_1 rfl 1 rfl ?_
  refine g_callV 1 C (k_X_billAt_ok _ X ad u sz x nC nB k hx hx2 hk hn) (gmem wd_331 rfl) (gmem wd_333 rfl) (gmem ws_3 rfl) (gmem wd_1 rfl) (gmem wd_334 rfl) ⟨by decide, by decide, by decide +kernel⟩ ⟨Nat.le_of_ble_eq_true rfl, Nat.le_of_ble_eq_true rfl⟩ hx rfl rfl rfl (Nat.le_of_ble_eq_true rfl) d_X_about_2 ⟨Nat.le_of_ble_eq_true rfl, Nat.le_of_ble_eq_true rfl⟩ ?_
  rintro v9 u9 s9 ⟨h9, hu9, hs9⟩; rw [h9, hu9, hs9]; clear h9 hu9 hs9 v9 u9 s9
  show GW Z _ _ _ ad u sz [(0, .ref (ad x)), (1, .int (nI k)), (2, .int y), (3, .int w)] 0 0 5 [.ref (ad (x + 4 * k + 128))]
  refine g_astore C d_X_about_5 [(4, .ref (ad (x + 4 * k + 128))), (0, .ref (ad x)), (1, .int (nI k)), (2, .int y), (3, .int w)] (by decide) rfl ?_
  refine g_aload C d_X_about_7 0 rfl ?_
  refine g_ifnull C d_X_about_9 ?_
  refine g_iload_n C d_X_about_12 rfl 4 rfl ?_
  refine g_if_lt 21 C d_X_about_13 (by decide) (fun c13 => ?_) (fun c13 => ?_)
  · skip
    refine g_ldc2 C (gmem wd_339 rfl) d_X_about_21 ?_
    exact g_lret C hR hret ⟨by simp only [aboX, decide_eq_true c13, if_pos c13, Bool.not_true, Bool.not_false, Bool.and_true, Bool.true_and, Bool.false_and, Bool.and_false, bI_t, bI_f] <;> (try rfl), rfl, rfl⟩ d_X_about_24
  · skip
    refine g_iload_n C d_X_about_16 rfl 4 rfl ?_
    refine g_iconst (v := 2) C d_X_about_17 (by decide) ?_
    refine g_icmp_le 25 C d_X_about_18 (by decide) (fun c18 => ?_) (fun c18 => ?_)
    · skip
      refine g_iload_n C d_X_about_25 rfl 3 rfl ?_
      refine g_if_lt 35 C d_X_about_26 (by decide) (fun c26 => ?_) (fun c26 => ?_)
      · skip
        refine g_lconst (v := 0) C d_X_about_35 (by decide) ?_
        exact g_lret C hR hret ⟨by simp only [aboX, decide_eq_false c13, if_neg c13, decide_eq_true c18, if_pos c18, decide_eq_true c26, if_pos c26, Bool.not_true, Bool.not_false, Bool.and_true, Bool.true_and, Bool.false_and, Bool.and_false, bI_t, bI_f] <;> (try rfl), rfl, rfl⟩ d_X_about_36
      · skip
        refine g_iload_n C d_X_about_29 rfl 3 rfl ?_
        refine g_bipush (v := 12) C d_X_about_30 (by decide) ?_
        refine g_icmp_lt 37 C d_X_about_32 (by decide) (fun c32 => ?_) (fun c32 => ?_)
        · skip
          refine g_iload_n C d_X_about_37 rfl 4 rfl ?_
          refine g_if_ne 49 C d_X_about_38 (by decide) (fun c38 => ?_) (fun c38 => ?_)
          · skip
            refine g_iload_n C d_X_about_49 rfl 4 rfl ?_
            refine g_iconst (v := 1) C d_X_about_50 (by decide) ?_
            refine g_icmp_ne 64 C d_X_about_51 (by decide) (fun c51 => ?_) (fun c51 => ?_)
            · skip
              refine g_aload C d_X_about_64 0 rfl ?_
              refine g_get (x + 4 * k + 128) 4 C hB rfl i_B (by decide) (gmem wd_298 rfl) rfl rfl d_X_about_66 ?_
              refine g_iload_n C d_X_about_69 rfl 3 rfl ?_
              refine g_lald (x + 4 * k + 128 + 3) 1 C hB3 rfl (in12x c26 c32) d_X_about_70 ?_
              exact g_lret C hR hret ⟨by simp only [aboX, decide_eq_false c13, if_neg c13, decide_eq_true c18, if_pos c18, decide_eq_false c26, if_neg c26, decide_eq_true c32, if_pos c32, decide_eq_false c38, if_neg c38, decide_eq_false c51, if_neg c51, Bool.not_true, Bool.not_false, Bool.and_true, Bool.true_and, Bool.false_and, Bool.and_false, bI_t, bI_f] <;> (try rfl), rfl, rfl⟩ d_X_about_71
            · skip
              refine g_aload C d_X_about_54 0 rfl ?_
              refine g_get (x + 4 * k + 128) 2 C hB rfl i_B (by decide) (gmem wd_290 rfl) rfl rfl d_X_about_56 ?_
              refine g_iload_n C d_X_about_59 rfl 3 rfl ?_
              refine g_lald (x + 4 * k + 128 + 1) 1 C hB1 rfl (in12x c26 c32) d_X_about_60 ?_
              refine g_goto 71 C d_X_about_61 (by decide) ?_
              exact g_lret C hR hret ⟨by simp only [aboX, decide_eq_false c13, if_neg c13, decide_eq_true c18, if_pos c18, decide_eq_false c26, if_neg c26, decide_eq_true c32, if_pos c32, decide_eq_false c38, if_neg c38, decide_eq_true c51, if_pos c51, Bool.not_true, Bool.not_false, Bool.and_true, Bool.true_and, Bool.false_and, Bool.and_false, bI_t, bI_f] <;> (try rfl), rfl, rfl⟩ d_X_about_71
          · skip
            refine g_aload C d_X_about_41 0 rfl ?_
            refine g_get (x + 4 * k + 128) 3 C hB rfl i_B (by decide) (gmem wd_294 rfl) rfl rfl d_X_about_43 ?_
            refine g_iload_n C d_X_about_46 rfl 3 rfl ?_
            refine g_lald (x + 4 * k + 128 + 2) 1 C hB2 rfl (in12x c26 c32) d_X_about_47 ?_
            exact g_lret C hR hret ⟨by simp only [aboX, decide_eq_false c13, if_neg c13, decide_eq_true c18, if_pos c18, decide_eq_false c26, if_neg c26, decide_eq_true c32, if_pos c32, decide_eq_true c38, if_pos c38, Bool.not_true, Bool.not_false, Bool.and_true, Bool.true_and, Bool.false_and, Bool.and_false, bI_t, bI_f] <;> (try rfl), rfl, rfl⟩ d_X_about_48
        · skip
          refine g_lconst (v := 0) C d_X_about_35 (by decide) ?_
          exact g_lret C hR hret ⟨by simp only [aboX, decide_eq_false c13, if_neg c13, decide_eq_true c18, if_pos c18, decide_eq_false c26, if_neg c26, decide_eq_false c32, if_neg c32, Bool.not_true, Bool.not_false, Bool.and_true, Bool.true_and, Bool.false_and, Bool.and_false, bI_t, bI_f] <;> (try rfl), rfl, rfl⟩ d_X_about_36
    · skip
      refine g_ldc2 C (gmem wd_339 rfl) d_X_about_21 ?_
      exact g_lret C hR hret ⟨by simp only [aboX, decide_eq_false c13, if_neg c13, decide_eq_false c18, if_neg c18, Bool.not_true, Bool.not_false, Bool.and_true, Bool.true_and, Bool.false_and, Bool.and_false, bI_t, bI_f] <;> (try rfl), rfl, rfl⟩ d_X_about_24

def couX (mc mk op gc wa w : Int32) : Int32 := if w = 0 then mc else if w = 1 then (if op = 0 then -1 else gc) else if w = 2 then (if op = 0 then -1 else wa) else if w = 3 then mk else -1
set_option maxHeartbeats 4000000 in
set_option maxRecDepth 100000 in
theorem k_X_count_ok (l : Launch) (X : gX) (ad : Nat → Nat) (u : gW) (sz : Nat) (x nC nB k : Nat) (mc go mk : Int32) (op gc tc wa : Int32) (w : Int32) (hx : u x = some (.inr (5, [.ref (ad (x + 1)), .ref (ad (x + 2)), .ref (ad (x + 3)), .ref (ad (x + 6)), .int (nI nC), .int (nI nB)]))) (hx1 : u (x + 1) = some (.inl ((X.2 3), 4, .inr (.inr (.inr (.inr (cArr ad x nC))))))) (hB : u (x + 16 * k + 32) = some (.inr (1, [.ref (ad (x + 16 * k + 32 + 1)), .ref (ad (x + 16 * k + 32 + 2)), .ref (ad (x + 16 * k + 32 + 3)), .int mc, .int go, .int mk]))) (hB3 : u (x + 16 * k + 32 + 3) = some (.inr (4, [.ref (ad (x + 16 * k + 32 + 3 + 1)), .ref (ad (x + 16 * k + 32 + 3 + 2)), .ref (ad (x + 16 * k + 32 + 3 + 3)), .ref (ad (x + 16 * k + 32 + 3 + 4)), .ref (ad (x + 16 * k + 32 + 3 + 5)), .int op, .int gc, .int tc, .int wa]))) (hk : k < nC) (hn : nC ≤ 4) : gMet l (EE X) y_X_count c_X_count 4 (some .int) ({ frames := 1, cells := 0, slots := 0, locals := 21 }) [.ref (ad x), .int (nI k), .int w] ad u sz (fun v u' sz' => v = some (.int (couX mc mk op gc wa w)) ∧ u' = u ∧ sz' = sz) := by
  refine gMet_of "ExpenseClubs" rfl (by decide) (Nat.le_of_ble_eq_true rfl) (lv := [(0, .ref (ad x)), (1, .int (nI k)), (2, .int w)]) rfl (fun Z hZl C hR hret hname => ?_)
  refine g_aload_n C d_X_count_0 rfl 0 rfl ?_
  refine g_iload_n C d_X_count_1 rfl 1 rfl ?_
  refine g_callV 1 C (k_X_clubAt_ok _ X ad u sz x nC nB k hx hx1 hk hn) (gmem wd_189 rfl) (gmem wd_191 rfl) (gmem ws_0 rfl) (gmem wd_1 rfl) (gmem wd_192 rfl) ⟨by decide, by decide, by decide +kernel⟩ ⟨Nat.le_of_ble_eq_true rfl, Nat.le_of_ble_eq_true rfl⟩ hx rfl rfl rfl (Nat.le_of_ble_eq_true rfl) d_X_count_2 ⟨Nat.le_of_ble_eq_true rfl, Nat.le_of_ble_eq_true rfl⟩ ?_
  rintro v9 u9 s9 ⟨h9, hu9, hs9⟩; rw [h9, hu9, hs9]; clear h9 hu9 hs9 v9 u9 s9
  show GW Z _ _ _ ad u sz [(0, .ref (ad x)), (1, .int (nI k)), (2, .int w)] 0 0 5 [.ref (ad (x + 16 * k + 32))]
  refine g_astore_n C d_X_count_5 rfl [(3, .ref (ad (x + 16 * k + 32))), (0, .ref (ad x)), (1, .int (nI k)), (2, .int w)] (by decide) rfl ?_
  refine g_aload_n C d_X_count_6 rfl 0 rfl ?_
  refine g_ifnonnull 12 C d_X_count_7 (by decide) ?_
  refine g_iload_n C d_X_count_12 rfl 3 rfl ?_
  by_cases c13_0 : w = 0
  · refine g_tableIn (off := 31) 44 C d_X_count_13 (by rw [c13_0]; decide) (by rw [c13_0]; decide) (by rw [c13_0]; rfl) (by decide) ?_
    refine g_aload_n C d_X_count_44 rfl 0 rfl ?_
    refine g_get (x + 16 * k + 32) 3 C hB rfl i_C (by decide) (gmem wd_167 rfl) rfl rfl d_X_count_45 ?_
    exact g_iret C hR hret ⟨by simp only [couX, if_pos c13_0], rfl, rfl⟩ d_X_count_48
  by_cases c13_1 : w = 1
  · refine g_tableIn (off := 36) 49 C d_X_count_13 (by rw [c13_1]; decide) (by rw [c13_1]; decide) (by rw [c13_1]; rfl) (by decide) ?_
    refine g_aload_n C d_X_count_49 rfl 0 rfl ?_
    refine g_get (x + 16 * k + 32) 2 C hB rfl i_C (by decide) (gmem wd_165 rfl) rfl rfl d_X_count_50 ?_
    refine g_get (x + 16 * k + 32 + 3) 5 C hB3 rfl i_S (by decide) (gmem wd_131 rfl) rfl rfl d_X_count_53 ?_
    refine g_if_eq 69 C d_X_count_56 (by decide) (fun c56 => ?_) (fun c56 => ?_)
    · skip
      refine g_iconst (v := (-1)) C d_X_count_69 (by decide) ?_
      exact g_iret C hR hret ⟨by simp only [couX, decide_eq_true c56, if_pos c56, if_neg c13_0, if_pos c13_1], rfl, rfl⟩ d_X_count_70
    · skip
      refine g_aload_n C d_X_count_59 rfl 0 rfl ?_
      refine g_get (x + 16 * k + 32) 2 C hB rfl i_C (by decide) (gmem wd_165 rfl) rfl rfl d_X_count_60 ?_
      refine g_get (x + 16 * k + 32 + 3) 6 C hB3 rfl i_S (by decide) (gmem wd_134 rfl) rfl rfl d_X_count_63 ?_
      refine g_goto 70 C d_X_count_66 (by decide) ?_
      exact g_iret C hR hret ⟨by simp only [couX, decide_eq_false c56, if_neg c56, if_neg c13_0, if_pos c13_1], rfl, rfl⟩ d_X_count_70
  by_cases c13_2 : w = 2
  · refine g_tableIn (off := 58) 71 C d_X_count_13 (by rw [c13_2]; decide) (by rw [c13_2]; decide) (by rw [c13_2]; rfl) (by decide) ?_
    refine g_aload_n C d_X_count_71 rfl 0 rfl ?_
    refine g_get (x + 16 * k + 32) 2 C hB rfl i_C (by decide) (gmem wd_165 rfl) rfl rfl d_X_count_72 ?_
    refine g_get (x + 16 * k + 32 + 3) 5 C hB3 rfl i_S (by decide) (gmem wd_131 rfl) rfl rfl d_X_count_75 ?_
    refine g_if_eq 91 C d_X_count_78 (by decide) (fun c78 => ?_) (fun c78 => ?_)
    · skip
      refine g_iconst (v := (-1)) C d_X_count_91 (by decide) ?_
      exact g_iret C hR hret ⟨by simp only [couX, decide_eq_true c78, if_pos c78, if_neg c13_0, if_neg c13_1, if_pos c13_2], rfl, rfl⟩ d_X_count_92
    · skip
      refine g_aload_n C d_X_count_81 rfl 0 rfl ?_
      refine g_get (x + 16 * k + 32) 2 C hB rfl i_C (by decide) (gmem wd_165 rfl) rfl rfl d_X_count_82 ?_
      refine g_get (x + 16 * k + 32 + 3) 8 C hB3 rfl i_S (by decide) (gmem wd_139 rfl) rfl rfl d_X_count_85 ?_
      refine g_goto 92 C d_X_count_88 (by decide) ?_
      exact g_iret C hR hret ⟨by simp only [couX, decide_eq_false c78, if_neg c78, if_neg c13_0, if_neg c13_1, if_pos c13_2], rfl, rfl⟩ d_X_count_92
  by_cases c13_3 : w = 3
  · refine g_tableIn (off := 80) 93 C d_X_count_13 (by rw [c13_3]; decide) (by rw [c13_3]; decide) (by rw [c13_3]; rfl) (by decide) ?_
    refine g_aload_n C d_X_count_93 rfl 0 rfl ?_
    refine g_get (x + 16 * k + 32) 5 C hB rfl i_C (by decide) (gmem wd_171 rfl) rfl rfl d_X_count_94 ?_
    exact g_iret C hR hret ⟨by simp only [couX, if_neg c13_0, if_neg c13_1, if_neg c13_2, if_pos c13_3], rfl, rfl⟩ d_X_count_97
  refine g_tableOut 98 C d_X_count_13 (by have h0 := lv_neT c13_0 (a := 0) (by decide); have h1 := lv_neT c13_1 (a := 1) (by decide); have h2 := lv_neT c13_2 (a := 2) (by decide); have h3 := lv_neT c13_3 (a := 3) (by decide); omega) (by decide) ?_
  refine g_iconst (v := (-1)) C d_X_count_98 (by decide) ?_
  exact g_iret C hR hret ⟨by simp only [couX, if_neg c13_0, if_neg c13_1, if_neg c13_2, if_neg c13_3], rfl, rfl⟩ d_X_count_99
