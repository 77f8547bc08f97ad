set_option maxHeartbeats 4000000 in
set_option maxRecDepth 100000 in
/-- Club.book -/
theorem k_C_book (l : Launch) (X : gX) (ad : Nat → Nat) (u : gW) (sz : Nat) (b d : Nat) (bal dri pd sh df : Nat → Int64) (ow : Value) (cc : Int64) (mc go mk stk times : Int32) (hb : u b = some (.inr (1, [.ref (ad (b + 1)), .ref (ad (b + 2)), .ref (ad (b + 3)), .int mc, .int go, .int mk]))) (hb1 : u (b + 1) = some (.inl ((X.2 1), 12, .inr (.inl bal)))) (hb2 : u (b + 2) = some (.inl ((X.2 1), 12, .inr (.inl dri)))) (hd : u d = some (.inr (0, [ow, .long cc, .ref (ad (d + 1)), .ref (ad (d + 2)), .ref (ad (d + 3)), .int stk]))) (hd1 : u (d + 1) = some (.inl ((X.2 1), 12, .inr (.inl pd)))) (hd2 : u (d + 2) = some (.inl ((X.2 1), 12, .inr (.inl sh)))) (hd3 : u (d + 3) = some (.inl ((X.2 1), 12, .inr (.inl df)))) (hbd : b + 16 ≤ d) : gMet l (EE X) y_C_book c_C_book 4 none ({ frames := 0, cells := 0, slots := 0, locals := 0 }) [.ref (ad b), .ref (ad d), .int times] ad u sz (fun v u' sz' => v = none ∧ u' = gup (gup u (b + 1) (.inl ((X.2 1), 12, .inr (.inl (mapL bal (fun j => bal j + times.toInt64 * (pd j - sh j)) 12))))) (b + 2) (.inl ((X.2 1), 12, .inr (.inl (mapL dri (fun j => dri j + times.toInt64 * df j) 12)))) ∧ sz' = sz) := by
  refine gMet_of "ExpenseClubs$Club" rfl (by decide) (Nat.le_of_ble_eq_true rfl) (lv := [(0, .ref (ad b)), (1, .ref (ad d)), (2, .int times)]) rfl (fun Z hZl C hR hret hname => ?_)
  refine g_iconst (v := 0) C d_C_book_0 (by decide) ?_
  refine g_istore_n C d_C_book_1 rfl [(3, .int 0), (0, .ref (ad b)), (1, .ref (ad d)), (2, .int times)] (by decide) rfl ?_
  refine GW_eq (u2 := gup (gup u (b + 1) (.inl ((X.2 1), 12, .inr (.inl (mapL bal (fun j => bal j + times.toInt64 * (pd j - sh j)) 0))))) (b + 2) (.inl ((X.2 1), 12, .inr (.inl (mapL dri (fun j => dri j + times.toInt64 * df j) 0))))) (lv2 := [(3, .int (nI 0)), (0, .ref (ad b)), (1, .ref (ad d)), (2, .int times)]) (by rw [mapL_0, mapL_0, gup_id hb1, gup_id hb2]) (by first | rfl | simp only [nI_1, nI_0]) ?_
  refine g_loop 12 (fun iL2 => True) (fun iL2 => gup (gup u (b + 1) (.inl ((X.2 1), 12, .inr (.inl (mapL bal (fun j => bal j + times.toInt64 * (pd j - sh j)) iL2))))) (b + 2) (.inl ((X.2 1), 12, .inr (.inl (mapL dri (fun j => dri j + times.toInt64 * df j) iL2))))) (fun iL2 => [(3, .int (nI iL2)), (0, .ref (ad b)), (1, .ref (ad d)), (2, .int times)]) (fun iL2 hiL2 piL2 KL2 => ?_) (fun piL2 => ?_) 0 (by omega) trivial
  · skip
    show GW Z _ _ _ ad (gup (gup u (b + 1) (.inl ((X.2 1), 12, .inr (.inl (mapL bal (fun j => bal j + times.toInt64 * (pd j - sh j)) iL2))))) (b + 2) (.inl ((X.2 1), 12, .inr (.inl (mapL dri (fun j => dri j + times.toInt64 * df j) iL2))))) _ [(3, .int (nI iL2)), (0, .ref (ad b)), (1, .ref (ad d)), (2, .int times)] _ _ 2 []
    obtain ⟨wL2s, hwL2s⟩ : ∃ z, z = gup (gup u (b + 1) (.inl ((X.2 1), 12, .inr (.inl (mapL bal (fun j => bal j + times.toInt64 * (pd j - sh j)) iL2))))) (b + 2) (.inl ((X.2 1), 12, .inr (.inl (mapL dri (fun j => dri j + times.toInt64 * df j) iL2)))) := ⟨_, rfl⟩
    rw [← hwL2s]
    have hwL2s_0 : wL2s b = some (.inr (1, [.ref (ad (b + 1)), .ref (ad (b + 2)), .ref (ad (b + 3)), .int mc, .int go, .int mk])) := by rw [hwL2s, gup_ne (by omega), gup_ne (by omega)]; exact hb
    have hwL2s_1 : wL2s (b + 1) = some (.inl ((X.2 1), 12, .inr (.inl (mapL bal (fun j => bal j + times.toInt64 * (pd j - sh j)) iL2)))) := by rw [hwL2s, gup_ne (by omega), gup_self]
    have hwL2s_2 : wL2s (b + 2) = some (.inl ((X.2 1), 12, .inr (.inl (mapL dri (fun j => dri j + times.toInt64 * df j) iL2)))) := by rw [hwL2s, gup_self]
    have hwL2s_3 : wL2s d = some (.inr (0, [ow, .long cc, .ref (ad (d + 1)), .ref (ad (d + 2)), .ref (ad (d + 3)), .int stk])) := by rw [hwL2s, gup_ne (by omega), gup_ne (by omega)]; exact hd
    have hwL2s_4 : wL2s (d + 1) = some (.inl ((X.2 1), 12, .inr (.inl pd))) := by rw [hwL2s, gup_ne (by omega), gup_ne (by omega)]; exact hd1
    have hwL2s_5 : wL2s (d + 2) = some (.inl ((X.2 1), 12, .inr (.inl sh))) := by rw [hwL2s, gup_ne (by omega), gup_ne (by omega)]; exact hd2
    have hwL2s_6 : wL2s (d + 3) = some (.inl ((X.2 1), 12, .inr (.inl df))) := by rw [hwL2s, gup_ne (by omega), gup_ne (by omega)]; exact hd3
    refine g_iload_n C d_C_book_2 rfl 0 rfl ?_
    refine g_bipush (v := 12) C d_C_book_3 (by decide) ?_
    refine g_icmp_ge 57 C d_C_book_5 (by decide) (fun c2s5 => ?_) (fun c2s5 => ?_)
    · exact absurd c2s5 (ge12 hiL2)
    refine g_aload_n C d_C_book_8 rfl 1 rfl ?_
    refine g_get b 0 C hwL2s_0 rfl i_C (by decide) (gmem wd_160 rfl) rfl rfl d_C_book_9 ?_
    refine g_iload_n C d_C_book_12 rfl 0 rfl ?_
    refine g_dup2_11 C d_C_book_13 rfl rfl ?_
    refine g_lald (b + 1) 1 C hwL2s_1 rfl (vp_in_nI (by omega) (by decide)) d_C_book_14 ?_
    rw [show Int32.toNatClampNeg (nI iL2) = iL2 from nI_clamp (by omega)]
    refine g_iload_n C d_C_book_15 rfl 3 rfl ?_
    refine g_i2l C d_C_book_16 ?_
    refine g_aload_n C d_C_book_17 rfl 2 rfl ?_
    refine g_get d 2 C hwL2s_3 rfl i_B (by decide) (gmem wd_288 rfl) rfl rfl d_C_book_18 ?_
    refine g_iload_n C d_C_book_21 rfl 0 rfl ?_
    refine g_lald (d + 1) 1 C hwL2s_4 rfl (vp_in_nI (by omega) (by decide)) d_C_book_22 ?_
    rw [show Int32.toNatClampNeg (nI iL2) = iL2 from nI_clamp (by omega)]
    refine g_aload_n C d_C_book_23 rfl 2 rfl ?_
    refine g_get d 3 C hwL2s_3 rfl i_B (by decide) (gmem wd_292 rfl) rfl rfl d_C_book_24 ?_
    refine g_iload_n C d_C_book_27 rfl 0 rfl ?_
    refine g_lald (d + 2) 1 C hwL2s_5 rfl (vp_in_nI (by omega) (by decide)) d_C_book_28 ?_
    rw [show Int32.toNatClampNeg (nI iL2) = iL2 from nI_clamp (by omega)]
    refine g_lsub C d_C_book_29 ?_
    refine g_lmul C d_C_book_30 ?_
    refine g_ladd C d_C_book_31 ?_
    refine g_topl (fun x2s32 ex2s32 => ?_)
    refine g_last (b + 1) 1 C hwL2s_1 rfl (vp_in_nI (by omega) (by decide)) d_C_book_32 ?_
    rw [show Int32.toNatClampNeg (nI iL2) = iL2 from nI_clamp (by omega)]
    obtain ⟨u2s1, hu2s1⟩ : ∃ z, z = gup wL2s (b + 1) (.inl ((X.2 1), 12, .inr (.inl (vp_updL (mapL bal (fun j => bal j + times.toInt64 * (pd j - sh j)) iL2) iL2 x2s32)))) := ⟨_, rfl⟩
    rw [← hu2s1]
    have hu2s1_0 : u2s1 b = some (.inr (1, [.ref (ad (b + 1)), .ref (ad (b + 2)), .ref (ad (b + 3)), .int mc, .int go, .int mk])) := by rw [hu2s1, gup_ne (by omega)]; exact hwL2s_0
    have hu2s1_1 : u2s1 (b + 1) = some (.inl ((X.2 1), 12, .inr (.inl (vp_updL (mapL bal (fun j => bal j + times.toInt64 * (pd j - sh j)) iL2) iL2 x2s32)))) := by rw [hu2s1]; exact gup_self _ _ _
    have hu2s1_2 : u2s1 (b + 2) = some (.inl ((X.2 1), 12, .inr (.inl (mapL dri (fun j => dri j + times.toInt64 * df j) iL2)))) := by rw [hu2s1, gup_ne (by omega)]; exact hwL2s_2
    have hu2s1_3 : u2s1 d = some (.inr (0, [ow, .long cc, .ref (ad (d + 1)), .ref (ad (d + 2)), .ref (ad (d + 3)), .int stk])) := by rw [hu2s1, gup_ne (by omega)]; exact hwL2s_3
    have hu2s1_4 : u2s1 (d + 1) = some (.inl ((X.2 1), 12, .inr (.inl pd))) := by rw [hu2s1, gup_ne (by omega)]; exact hwL2s_4
    have hu2s1_5 : u2s1 (d + 2) = some (.inl ((X.2 1), 12, .inr (.inl sh))) := by rw [hu2s1, gup_ne (by omega)]; exact hwL2s_5
    have hu2s1_6 : u2s1 (d + 3) = some (.inl ((X.2 1), 12, .inr (.inl df))) := by rw [hu2s1, gup_ne (by omega)]; exact hwL2s_6
    refine g_aload_n C d_C_book_33 rfl 1 rfl ?_
    refine g_get b 1 C hu2s1_0 rfl i_C (by decide) (gmem wd_162 rfl) rfl rfl d_C_book_34 ?_
    refine g_iload_n C d_C_book_37 rfl 0 rfl ?_
    refine g_dup2_11 C d_C_book_38 rfl rfl ?_
    refine g_lald (b + 2) 1 C hu2s1_2 rfl (vp_in_nI (by omega) (by decide)) d_C_book_39 ?_
    rw [show Int32.toNatClampNeg (nI iL2) = iL2 from nI_clamp (by omega)]
    refine g_iload_n C d_C_book_40 rfl 3 rfl ?_
    refine g_i2l C d_C_book_41 ?_
    refine g_aload_n C d_C_book_42 rfl 2 rfl ?_
    refine g_get d 4 C hu2s1_3 rfl i_B (by decide) (gmem wd_296 rfl) rfl rfl d_C_book_43 ?_
    refine g_iload_n C d_C_book_46 rfl 0 rfl ?_
    refine g_lald (d + 3) 1 C hu2s1_6 rfl (vp_in_nI (by omega) (by decide)) d_C_book_47 ?_
    rw [show Int32.toNatClampNeg (nI iL2) = iL2 from nI_clamp (by omega)]
    refine g_lmul C d_C_book_48 ?_
    refine g_ladd C d_C_book_49 ?_
    refine g_topl (fun x2s50 ex2s50 => ?_)
    refine g_last (b + 2) 1 C hu2s1_2 rfl (vp_in_nI (by omega) (by decide)) d_C_book_50 ?_
    rw [show Int32.toNatClampNeg (nI iL2) = iL2 from nI_clamp (by omega)]
    obtain ⟨u2s2, hu2s2⟩ : ∃ z, z = gup u2s1 (b + 2) (.inl ((X.2 1), 12, .inr (.inl (vp_updL (mapL dri (fun j => dri j + times.toInt64 * df j) iL2) iL2 x2s50)))) := ⟨_, rfl⟩
    rw [← hu2s2]
    have hu2s2_0 : u2s2 b = some (.inr (1, [.ref (ad (b + 1)), .ref (ad (b + 2)), .ref (ad (b + 3)), .int mc, .int go, .int mk])) := by rw [hu2s2, gup_ne (by omega)]; exact hu2s1_0
    have hu2s2_1 : u2s2 (b + 1) = some (.inl ((X.2 1), 12, .inr (.inl (vp_updL (mapL bal (fun j => bal j + times.toInt64 * (pd j - sh j)) iL2) iL2 x2s32)))) := by rw [hu2s2, gup_ne (by omega)]; exact hu2s1_1
    have hu2s2_2 : u2s2 (b + 2) = some (.inl ((X.2 1), 12, .inr (.inl (vp_updL (mapL dri (fun j => dri j + times.toInt64 * df j) iL2) iL2 x2s50)))) := by rw [hu2s2]; exact gup_self _ _ _
    have hu2s2_3 : u2s2 d = some (.inr (0, [ow, .long cc, .ref (ad (d + 1)), .ref (ad (d + 2)), .ref (ad (d + 3)), .int stk])) := by rw [hu2s2, gup_ne (by omega)]; exact hu2s1_3
    have hu2s2_4 : u2s2 (d + 1) = some (.inl ((X.2 1), 12, .inr (.inl pd))) := by rw [hu2s2, gup_ne (by omega)]; exact hu2s1_4
    have hu2s2_5 : u2s2 (d + 2) = some (.inl ((X.2 1), 12, .inr (.inl sh))) := by rw [hu2s2, gup_ne (by omega)]; exact hu2s1_5
    have hu2s2_6 : u2s2 (d + 3) = some (.inl ((X.2 1), 12, .inr (.inl df))) := by rw [hu2s2, gup_ne (by omega)]; exact hu2s1_6
    obtain ⟨x2s51, ex2s51⟩ : ∃ y : Int32, y = (nI iL2) + 1 := ⟨_, rfl⟩
    refine g_iinc (v := x2s51) C d_C_book_51 0 rfl (by rw [ex2s51]; rfl) [(3, .int x2s51), (0, .ref (ad b)), (1, .ref (ad d)), (2, .int times)] (by decide) rfl ?_
    refine g_goto 2 C d_C_book_54 (by decide) ?_
    refine GW_eq (u2 := gup (gup u (b + 1) (.inl ((X.2 1), 12, .inr (.inl (mapL bal (fun j => bal j + times.toInt64 * (pd j - sh j)) (iL2 + 1)))))) (b + 2) (.inl ((X.2 1), 12, .inr (.inl (mapL dri (fun j => dri j + times.toInt64 * df j) (iL2 + 1)))))) (lv2 := [(3, .int (nI (iL2 + 1))), (0, .ref (ad b)), (1, .ref (ad d)), (2, .int times)]) ?_ ?_ (KL2 trivial)
    · first | (rw [hu2s2, hu2s1, hwL2s]; done) | (rw [hu2s2, hu2s1, hwL2s]; simp only [ex2s32, ex2s50, ex2s51, mapL_at, mapL_s]; done) | (rw [hu2s2, hu2s1, hwL2s]; simp only [ex2s32, ex2s50, ex2s51, mapL_at, mapL_s]; funext k; simp only [gup]; (repeat' split) <;> first | with_reducible rfl | (exfalso; omega))
    · first | rfl | simp only [ex2s32, ex2s50, ex2s51, nI_1, nI_0]
  · skip
    show GW Z _ _ _ ad (gup (gup u (b + 1) (.inl ((X.2 1), 12, .inr (.inl (mapL bal (fun j => bal j + times.toInt64 * (pd j - sh j)) 12))))) (b + 2) (.inl ((X.2 1), 12, .inr (.inl (mapL dri (fun j => dri j + times.toInt64 * df j) 12))))) _ [(3, .int (nI 12)), (0, .ref (ad b)), (1, .ref (ad d)), (2, .int times)] _ _ 2 []
    obtain ⟨wL2e, hwL2e⟩ : ∃ z, z = gup (gup u (b + 1) (.inl ((X.2 1), 12, .inr (.inl (mapL bal (fun j => bal j + times.toInt64 * (pd j - sh j)) 12))))) (b + 2) (.inl ((X.2 1), 12, .inr (.inl (mapL dri (fun j => dri j + times.toInt64 * df j) 12)))) := ⟨_, rfl⟩
    rw [← hwL2e]
    have hwL2e_0 : wL2e b = some (.inr (1, [.ref (ad (b + 1)), .ref (ad (b + 2)), .ref (ad (b + 3)), .int mc, .int go, .int mk])) := by rw [hwL2e, gup_ne (by omega), gup_ne (by omega)]; exact hb
    have hwL2e_1 : wL2e (b + 1) = some (.inl ((X.2 1), 12, .inr (.inl (mapL bal (fun j => bal j + times.toInt64 * (pd j - sh j)) 12)))) := by rw [hwL2e, gup_ne (by omega), gup_self]
    have hwL2e_2 : wL2e (b + 2) = some (.inl ((X.2 1), 12, .inr (.inl (mapL dri (fun j => dri j + times.toInt64 * df j) 12)))) := by rw [hwL2e, gup_self]
    have hwL2e_3 : wL2e d = some (.inr (0, [ow, .long cc, .ref (ad (d + 1)), .ref (ad (d + 2)), .ref (ad (d + 3)), .int stk])) := by rw [hwL2e, gup_ne (by omega), gup_ne (by omega)]; exact hd
    have hwL2e_4 : wL2e (d + 1) = some (.inl ((X.2 1), 12, .inr (.inl pd))) := by rw [hwL2e, gup_ne (by omega), gup_ne (by omega)]; exact hd1
    have hwL2e_5 : wL2e (d + 2) = some (.inl ((X.2 1), 12, .inr (.inl sh))) := by rw [hwL2e, gup_ne (by omega), gup_ne (by omega)]; exact hd2
    have hwL2e_6 : wL2e (d + 3) = some (.inl ((X.2 1), 12, .inr (.inl df))) := by rw [hwL2e, gup_ne (by omega), gup_ne (by omega)]; exact hd3
    refine g_iload_n C d_C_book_2 rfl 0 rfl ?_
    refine g_bipush (v := 12) C d_C_book_3 (by decide) ?_
    refine g_icmp_ge 57 C d_C_book_5 (by decide) (fun c2e5 => ?_) (fun c2e5 => ?_)
    rotate_left
    · exact absurd (by decide) c2e5
    exact g_vret C hR hret ⟨rfl, (by first | (rw [hwL2e]; done) | (rw [hwL2e]; funext k; simp only [gup]; (repeat' split) <;> first | with_reducible rfl | (exfalso; omega))), rfl⟩ d_C_book_57

set_option maxHeartbeats 4000000 in
set_option maxRecDepth 100000 in
/-- Club.makeTransfer -/
theorem k_C_makeTransfer (l : Launch) (X : gX) (ad : Nat → Nat) (u : gW) (sz : Nat) (b : Nat) (bal : Nat → Int64) (se ge : Nat → Int32) (am : Nat → Int64) (ti : Nat → Int32) (mc go mk op gc tc wa i : Int32) (hb : u b = some (.inr (1, [.ref (ad (b + 1)), .ref (ad (b + 2)), .ref (ad (b + 3)), .int mc, .int go, .int mk]))) (hb1 : u (b + 1) = some (.inl ((X.2 1), 12, .inr (.inl bal)))) (ht : u (b + 3) = some (.inr (4, [.ref (ad (b + 3 + 1)), .ref (ad (b + 3 + 2)), .ref (ad (b + 3 + 3)), .ref (ad (b + 3 + 4)), .ref (ad (b + 3 + 5)), .int op, .int gc, .int tc, .int wa]))) (ht2 : u (b + 3 + 2) = some (.inl ((X.2 0), 12, .inl se))) (ht3 : u (b + 3 + 3) = some (.inl ((X.2 0), 12, .inl ge))) (ht4 : u (b + 3 + 4) = some (.inl ((X.2 1), 12, .inr (.inl am)))) (ht5 : u (b + 3 + 5) = some (.inl ((X.2 2), 12, .inl ti))) (hi : vp_in i 12) (hs : vp_in (se i.toNatClampNeg) 12) (hg : vp_in (ge i.toNatClampNeg) 12) : gMet l (EE X) y_C_makeTransfer c_C_makeTransfer 2 none ({ frames := 0, cells := 0, slots := 0, locals := 0 }) [.ref (ad b), .int i] ad u sz (fun v u' sz' => v = none ∧ u' = gup (gup (gup u (b + 3 + 5) (.inl ((X.2 2), 12, .inl (upd ti i.toNatClampNeg 1)))) (b + 3) (.inr (4, [.ref (ad (b + 3 + 1)), .ref (ad (b + 3 + 2)), .ref (ad (b + 3 + 3)), .ref (ad (b + 3 + 4)), .ref (ad (b + 3 + 5)), .int op, .int gc, .int tc, .int (wa - 1)]))) (b + 1) (.inl ((X.2 1), 12, .inr (.inl (vp_updL (vp_updL bal ((se i.toNatClampNeg).toNatClampNeg) (bal ((se i.toNatClampNeg).toNatClampNeg) + am i.toNatClampNeg)) ((ge i.toNatClampNeg).toNatClampNeg) ((vp_updL bal ((se i.toNatClampNeg).toNatClampNeg) (bal ((se i.toNatClampNeg).toNatClampNeg) + am i.toNatClampNeg)) ((ge i.toNatClampNeg).toNatClampNeg) - am i.toNatClampNeg))))) ∧ sz' = sz) := by
  refine gMet_of "ExpenseClubs$Club" rfl (by decide) (Nat.le_of_ble_eq_true rfl) (lv := [(0, .ref (ad b)), (1, .int i)]) rfl (fun Z hZl C hR hret hname => ?_)
  refine g_aload_n C d_C_makeTransfer_0 rfl 0 rfl ?_
  refine g_get b 2 C hb rfl i_C (by decide) (gmem wd_164 rfl) rfl rfl d_C_makeTransfer_1 ?_
  refine g_get (b + 3) 4 C ht rfl i_S (by decide) (gmem wd_128 rfl) rfl rfl d_C_makeTransfer_4 ?_
  refine g_iload_n C d_C_makeTransfer_7 rfl 1 rfl ?_
  refine g_iconst (v := 1) C d_C_makeTransfer_8 (by decide) ?_
  refine g_zast (b + 3 + 5) 2 C ht5 rfl hi d_C_makeTransfer_9 ?_
  rw [show vp_nar .boolean 1 = 1 from rfl]
  obtain ⟨u1, hu1⟩ : ∃ z, z = gup u (b + 3 + 5) (.inl ((X.2 2), 12, .inl (upd ti (Int32.toNatClampNeg i) 1))) := ⟨_, rfl⟩
  rw [← hu1]
  have hu1_0 : u1 b = some (.inr (1, [.ref (ad (b + 1)), .ref (ad (b + 2)), .ref (ad (b + 3)), .int mc, .int go, .int mk])) := by rw [hu1, gup_ne (by omega)]; exact hb
  have hu1_1 : u1 (b + 1) = some (.inl ((X.2 1), 12, .inr (.inl bal))) := by rw [hu1, gup_ne (by omega)]; exact hb1
  have hu1_2 : u1 (b + 3) = some (.inr (4, [.ref (ad (b + 3 + 1)), .ref (ad (b + 3 + 2)), .ref (ad (b + 3 + 3)), .ref (ad (b + 3 + 4)), .ref (ad (b + 3 + 5)), .int op, .int gc, .int tc, .int wa])) := by rw [hu1, gup_ne (by omega)]; exact ht
  have hu1_3 : u1 (b + 3 + 2) = some (.inl ((X.2 0), 12, .inl se)) := by rw [hu1, gup_ne (by omega)]; exact ht2
  have hu1_4 : u1 (b + 3 + 3) = some (.inl ((X.2 0), 12, .inl ge)) := by rw [hu1, gup_ne (by omega)]; exact ht3
  have hu1_5 : u1 (b + 3 + 4) = some (.inl ((X.2 1), 12, .inr (.inl am))) := by rw [hu1, gup_ne (by omega)]; exact ht4
  have hu1_6 : u1 (b + 3 + 5) = some (.inl ((X.2 2), 12, .inl (upd ti (Int32.toNatClampNeg i) 1))) := by rw [hu1]; exact gup_self _ _ _
  refine g_aload_n C d_C_makeTransfer_10 rfl 0 rfl ?_
  refine g_get b 2 C hu1_0 rfl i_C (by decide) (gmem wd_164 rfl) rfl rfl d_C_makeTransfer_11 ?_
  refine g_dup C d_C_makeTransfer_14 rfl ?_
  refine g_get (b + 3) 8 C hu1_2 rfl i_S (by decide) (gmem wd_138 rfl) rfl rfl d_C_makeTransfer_15 ?_
  refine g_iconst (v := 1) C d_C_makeTransfer_18 (by decide) ?_
  refine g_isub C d_C_makeTransfer_19 ?_
  refine g_topi (fun x20 ex20 => ?_)
  refine g_put (b + 3) 8 C hu1_2 rfl i_S t_S t_S_ok n_S (by decide) (gmem wd_138 rfl) rfl rfl rfl rfl (Nat.le_of_ble_eq_true rfl) d_C_makeTransfer_20 ?_
  show GW Z _ _ _ ad (gup u1 (b + 3) (.inr (4, [.ref (ad (b + 3 + 1)), .ref (ad (b + 3 + 2)), .ref (ad (b + 3 + 3)), .ref (ad (b + 3 + 4)), .ref (ad (b + 3 + 5)), .int op, .int gc, .int tc, .int x20]))) _ _ _ _ _ _
  obtain ⟨u2, hu2⟩ : ∃ z, z = gup u1 (b + 3) (.inr (4, [.ref (ad (b + 3 + 1)), .ref (ad (b + 3 + 2)), .ref (ad (b + 3 + 3)), .ref (ad (b + 3 + 4)), .ref (ad (b + 3 + 5)), .int op, .int gc, .int tc, .int x20])) := ⟨_, rfl⟩
  rw [← hu2]
  have hu2_0 : u2 b = some (.inr (1, [.ref (ad (b + 1)), .ref (ad (b + 2)), .ref (ad (b + 3)), .int mc, .int go, .int mk])) := by rw [hu2, gup_ne (by omega)]; exact hu1_0
  have hu2_1 : u2 (b + 1) = some (.inl ((X.2 1), 12, .inr (.inl bal))) := by rw [hu2, gup_ne (by omega)]; exact hu1_1
  have hu2_2 : u2 (b + 3) = some (.inr (4, [.ref (ad (b + 3 + 1)), .ref (ad (b + 3 + 2)), .ref (ad (b + 3 + 3)), .ref (ad (b + 3 + 4)), .ref (ad (b + 3 + 5)), .int op, .int gc, .int tc, .int x20])) := by rw [hu2]; exact gup_self _ _ _
  have hu2_3 : u2 (b + 3 + 2) = some (.inl ((X.2 0), 12, .inl se)) := by rw [hu2, gup_ne (by omega)]; exact hu1_3
  have hu2_4 : u2 (b + 3 + 3) = some (.inl ((X.2 0), 12, .inl ge)) := by rw [hu2, gup_ne (by omega)]; exact hu1_4
  have hu2_5 : u2 (b + 3 + 4) = some (.inl ((X.2 1), 12, .inr (.inl am))) := by rw [hu2, gup_ne (by omega)]; exact hu1_5
  have hu2_6 : u2 (b + 3 + 5) = some (.inl ((X.2 2), 12, .inl (upd ti (Int32.toNatClampNeg i) 1))) := by rw [hu2, gup_ne (by omega)]; exact hu1_6
  refine g_aload_n C d_C_makeTransfer_23 rfl 0 rfl ?_
  refine g_get b 0 C hu2_0 rfl i_C (by decide) (gmem wd_160 rfl) rfl rfl d_C_makeTransfer_24 ?_
  refine g_aload_n C d_C_makeTransfer_27 rfl 0 rfl ?_
  refine g_get b 2 C hu2_0 rfl i_C (by decide) (gmem wd_164 rfl) rfl rfl d_C_makeTransfer_28 ?_
  refine g_get (b + 3) 1 C hu2_2 rfl i_S (by decide) (gmem wd_119 rfl) rfl rfl d_C_makeTransfer_31 ?_
  refine g_iload_n C d_C_makeTransfer_34 rfl 1 rfl ?_
  refine g_iald (b + 3 + 2) 0 C hu2_3 rfl hi d_C_makeTransfer_35 ?_
  refine g_dup2_11 C d_C_makeTransfer_36 rfl rfl ?_
  refine g_lald (b + 1) 1 C hu2_1 rfl hs d_C_makeTransfer_37 ?_
  refine g_aload_n C d_C_makeTransfer_38 rfl 0 rfl ?_
  refine g_get b 2 C hu2_0 rfl i_C (by decide) (gmem wd_164 rfl) rfl rfl d_C_makeTransfer_39 ?_
  refine g_get (b + 3) 3 C hu2_2 rfl i_S (by decide) (gmem wd_125 rfl) rfl rfl d_C_makeTransfer_42 ?_
  refine g_iload_n C d_C_makeTransfer_45 rfl 1 rfl ?_
  refine g_lald (b + 3 + 4) 1 C hu2_5 rfl hi d_C_makeTransfer_46 ?_
  refine g_ladd C d_C_makeTransfer_47 ?_
  refine g_topl (fun x48 ex48 => ?_)
  refine g_last (b + 1) 1 C hu2_1 rfl hs d_C_makeTransfer_48 ?_
  obtain ⟨u3, hu3⟩ : ∃ z, z = gup u2 (b + 1) (.inl ((X.2 1), 12, .inr (.inl (vp_updL bal (Int32.toNatClampNeg (se (Int32.toNatClampNeg i))) x48)))) := ⟨_, rfl⟩
  rw [← hu3]
  have hu3_0 : u3 b = some (.inr (1, [.ref (ad (b + 1)), .ref (ad (b + 2)), .ref (ad (b + 3)), .int mc, .int go, .int mk])) := by rw [hu3, gup_ne (by omega)]; exact hu2_0
  have hu3_1 : u3 (b + 1) = some (.inl ((X.2 1), 12, .inr (.inl (vp_updL bal (Int32.toNatClampNeg (se (Int32.toNatClampNeg i))) x48)))) := by rw [hu3]; exact gup_self _ _ _
  have hu3_2 : u3 (b + 3) = some (.inr (4, [.ref (ad (b + 3 + 1)), .ref (ad (b + 3 + 2)), .ref (ad (b + 3 + 3)), .ref (ad (b + 3 + 4)), .ref (ad (b + 3 + 5)), .int op, .int gc, .int tc, .int x20])) := by rw [hu3, gup_ne (by omega)]; exact hu2_2
  have hu3_3 : u3 (b + 3 + 2) = some (.inl ((X.2 0), 12, .inl se)) := by rw [hu3, gup_ne (by omega)]; exact hu2_3
  have hu3_4 : u3 (b + 3 + 3) = some (.inl ((X.2 0), 12, .inl ge)) := by rw [hu3, gup_ne (by omega)]; exact hu2_4
  have hu3_5 : u3 (b + 3 + 4) = some (.inl ((X.2 1), 12, .inr (.inl am))) := by rw [hu3, gup_ne (by omega)]; exact hu2_5
  have hu3_6 : u3 (b + 3 + 5) = some (.inl ((X.2 2), 12, .inl (upd ti (Int32.toNatClampNeg i) 1))) := by rw [hu3, gup_ne (by omega)]; exact hu2_6
  refine g_aload_n C d_C_makeTransfer_49 rfl 0 rfl ?_
  refine g_get b 0 C hu3_0 rfl i_C (by decide) (gmem wd_160 rfl) rfl rfl d_C_makeTransfer_50 ?_
  refine g_aload_n C d_C_makeTransfer_53 rfl 0 rfl ?_
  refine g_get b 2 C hu3_0 rfl i_C (by decide) (gmem wd_164 rfl) rfl rfl d_C_makeTransfer_54 ?_
  refine g_get (b + 3) 2 C hu3_2 rfl i_S (by decide) (gmem wd_122 rfl) rfl rfl d_C_makeTransfer_57 ?_
  refine g_iload_n C d_C_makeTransfer_60 rfl 1 rfl ?_
  refine g_iald (b + 3 + 3) 0 C hu3_4 rfl hi d_C_makeTransfer_61 ?_
  refine g_dup2_11 C d_C_makeTransfer_62 rfl rfl ?_
  refine g_lald (b + 1) 1 C hu3_1 rfl hg d_C_makeTransfer_63 ?_
  refine g_aload_n C d_C_makeTransfer_64 rfl 0 rfl ?_
  refine g_get b 2 C hu3_0 rfl i_C (by decide) (gmem wd_164 rfl) rfl rfl d_C_makeTransfer_65 ?_
  refine g_get (b + 3) 3 C hu3_2 rfl i_S (by decide) (gmem wd_125 rfl) rfl rfl d_C_makeTransfer_68 ?_
  refine g_iload_n C d_C_makeTransfer_71 rfl 1 rfl ?_
  refine g_lald (b + 3 + 4) 1 C hu3_5 rfl hi d_C_makeTransfer_72 ?_
  refine g_lsub C d_C_makeTransfer_73 ?_
  refine g_topl (fun x74 ex74 => ?_)
  refine g_last (b + 1) 1 C hu3_1 rfl hg d_C_makeTransfer_74 ?_
  obtain ⟨u4, hu4⟩ : ∃ z, z = gup u3 (b + 1) (.inl ((X.2 1), 12, .inr (.inl (vp_updL (vp_updL bal (Int32.toNatClampNeg (se (Int32.toNatClampNeg i))) x48) (Int32.toNatClampNeg (ge (Int32.toNatClampNeg i))) x74)))) := ⟨_, rfl⟩
  rw [← hu4]
  have hu4_0 : u4 b = some (.inr (1, [.ref (ad (b + 1)), .ref (ad (b + 2)), .ref (ad (b + 3)), .int mc, .int go, .int mk])) := by rw [hu4, gup_ne (by omega)]; exact hu3_0
  have hu4_1 : u4 (b + 1) = some (.inl ((X.2 1), 12, .inr (.inl (vp_updL (vp_updL bal (Int32.toNatClampNeg (se (Int32.toNatClampNeg i))) x48) (Int32.toNatClampNeg (ge (Int32.toNatClampNeg i))) x74)))) := by rw [hu4]; exact gup_self _ _ _
  have hu4_2 : u4 (b + 3) = some (.inr (4, [.ref (ad (b + 3 + 1)), .ref (ad (b + 3 + 2)), .ref (ad (b + 3 + 3)), .ref (ad (b + 3 + 4)), .ref (ad (b + 3 + 5)), .int op, .int gc, .int tc, .int x20])) := by rw [hu4, gup_ne (by omega)]; exact hu3_2
  have hu4_3 : u4 (b + 3 + 2) = some (.inl ((X.2 0), 12, .inl se)) := by rw [hu4, gup_ne (by omega)]; exact hu3_3
  have hu4_4 : u4 (b + 3 + 3) = some (.inl ((X.2 0), 12, .inl ge)) := by rw [hu4, gup_ne (by omega)]; exact hu3_4
  have hu4_5 : u4 (b + 3 + 4) = some (.inl ((X.2 1), 12, .inr (.inl am))) := by rw [hu4, gup_ne (by omega)]; exact hu3_5
  have hu4_6 : u4 (b + 3 + 5) = some (.inl ((X.2 2), 12, .inl (upd ti (Int32.toNatClampNeg i) 1))) := by rw [hu4, gup_ne (by omega)]; exact hu3_6
  exact g_vret C hR hret ⟨rfl, (by rw [hu4, hu3, hu2, hu1]; simp only [ex20, ex48, ex74]; funext k; simp only [gup]; (repeat' split) <;> first | with_reducible rfl | (exfalso; omega)), rfl⟩ d_C_makeTransfer_75
