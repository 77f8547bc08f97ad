def hasTr (op tc i : Int32) : Bool := !decide (op = 0) && !decide (i < 0) && !decide (tc ≤ i)
set_option maxHeartbeats 4000000 in
set_option maxRecDepth 100000 in
/-- Settlement.hasTransfer -/
theorem k_S_hasTransfer (l : Launch) (X : gX) (ad : Nat → Nat) (u : gW) (sz : Nat) (t : Nat) (r1 r2 r3 r4 r5 : Value) (op gc tc wa : Int32) (i : Int32) (ht : u t = some (.inr (4, [r1, r2, r3, r4, r5, .int op, .int gc, .int tc, .int wa])))  : gMet l (EE X) y_S_hasTransfer c_S_hasTransfer 2 (some .boolean) ({ frames := 0, cells := 0, slots := 0, locals := 0 }) [.ref (ad t), .int i] ad u sz (fun v u' sz' => v = some (.int (bI (hasTr op tc i))) ∧ u' = u ∧ sz' = sz) := by
  refine gMet_of "ExpenseClubs$Settlement" rfl (by decide) (Nat.le_of_ble_eq_true rfl) (lv := [(0, .ref (ad t)), (1, .int i)]) rfl (fun Z hZl C hR hret hname => ?_)
  refine g_aload_n C d_S_hasTransfer_0 rfl 0 rfl ?_
  refine g_get t 5 C ht rfl i_S (by decide) (gmem wd_130 rfl) rfl rfl d_S_hasTransfer_1 ?_
  refine g_if_eq 23 C d_S_hasTransfer_4 (by decide) (fun c4 => ?_) (fun c4 => ?_)
  · skip
    refine g_iconst (v := 0) C d_S_hasTransfer_23 (by decide) ?_
    exact g_zret C hR hret rfl ⟨by simp_all [bI, hasTr], rfl, rfl⟩ d_S_hasTransfer_24
  · skip
    refine g_iload_n C d_S_hasTransfer_7 rfl 1 rfl ?_
    refine g_if_lt 23 C d_S_hasTransfer_8 (by decide) (fun c8 => ?_) (fun c8 => ?_)
    · skip
      refine g_iconst (v := 0) C d_S_hasTransfer_23 (by decide) ?_
      exact g_zret C hR hret rfl ⟨by simp_all [bI, hasTr], rfl, rfl⟩ d_S_hasTransfer_24
    · skip
      refine g_iload_n C d_S_hasTransfer_11 rfl 1 rfl ?_
      refine g_aload_n C d_S_hasTransfer_12 rfl 0 rfl ?_
      refine g_get t 7 C ht rfl i_S (by decide) (gmem wd_135 rfl) rfl rfl d_S_hasTransfer_13 ?_
      refine g_icmp_ge 23 C d_S_hasTransfer_16 (by decide) (fun c16 => ?_) (fun c16 => ?_)
      · skip
        refine g_iconst (v := 0) C d_S_hasTransfer_23 (by decide) ?_
        exact g_zret C hR hret rfl ⟨by simp_all [bI, hasTr], rfl, rfl⟩ d_S_hasTransfer_24
      · skip
        refine g_iconst (v := 1) C d_S_hasTransfer_19 (by decide) ?_
        refine g_goto 24 C d_S_hasTransfer_20 (by decide) ?_
        exact g_zret C hR hret rfl ⟨by simp_all [bI, hasTr], rfl, rfl⟩ d_S_hasTransfer_24

set_option maxHeartbeats 4000000 in
set_option maxRecDepth 100000 in
/-- Settlement.begin -/
theorem k_S_begin (l : Launch) (X : gX) (ad : Nat → Nat) (u : gW) (sz : Nat) (t : Nat) (gr : Nat → Int32) (op gc tc wa : Int32) (ht : u t = some (.inr (4, [.ref (ad (t + 1)), .ref (ad (t + 2)), .ref (ad (t + 3)), .ref (ad (t + 4)), .ref (ad (t + 5)), .int op, .int gc, .int tc, .int wa]))) (h1 : u (t + 1) = some (.inl ((X.2 0), 12, .inl gr)))  : gMet l (EE X) y_S_begin c_S_begin 2 none ({ frames := 0, cells := 0, slots := 0, locals := 0 }) [.ref (ad t)] ad u sz (fun v u' sz' => v = none ∧ u' = gup (gup u t (.inr (4, [.ref (ad (t + 1)), .ref (ad (t + 2)), .ref (ad (t + 3)), .ref (ad (t + 4)), .ref (ad (t + 5)), .int 1, .int 0, .int 0, .int 0]))) (t + 1) (.inl ((X.2 0), 12, .inl (fillI gr (-1) 12))) ∧ sz' = sz) := by
  refine gMet_of "ExpenseClubs$Settlement" rfl (by decide) (Nat.le_of_ble_eq_true rfl) (lv := [(0, .ref (ad t))]) rfl (fun Z hZl C hR hret hname => ?_)
  refine g_aload_n C d_S_begin_0 rfl 0 rfl ?_
  refine g_iconst (v := 1) C d_S_begin_1 (by decide) ?_
  refine g_put t 5 C ht rfl i_S t_S t_S_ok n_S (by decide) (gmem wd_130 rfl) rfl rfl rfl rfl (Nat.le_of_ble_eq_true rfl) d_S_begin_2 ?_
  show GW Z _ _ _ ad (gup u t (.inr (4, [.ref (ad (t + 1)), .ref (ad (t + 2)), .ref (ad (t + 3)), .ref (ad (t + 4)), .ref (ad (t + 5)), .int 1, .int gc, .int tc, .int wa]))) _ _ _ _ _ _
  obtain ⟨u1, hu1⟩ : ∃ z, z = gup u t (.inr (4, [.ref (ad (t + 1)), .ref (ad (t + 2)), .ref (ad (t + 3)), .ref (ad (t + 4)), .ref (ad (t + 5)), .int 1, .int gc, .int tc, .int wa])) := ⟨_, rfl⟩
  rw [← hu1]
  have hu1_0 : u1 t = some (.inr (4, [.ref (ad (t + 1)), .ref (ad (t + 2)), .ref (ad (t + 3)), .ref (ad (t + 4)), .ref (ad (t + 5)), .int 1, .int gc, .int tc, .int wa])) := by rw [hu1]; exact gup_self _ _ _
  have hu1_1 : u1 (t + 1) = some (.inl ((X.2 0), 12, .inl gr)) := by rw [hu1, gup_ne (by omega)]; exact h1
  refine g_aload_n C d_S_begin_5 rfl 0 rfl ?_
  refine g_iconst (v := 0) C d_S_begin_6 (by decide) ?_
  refine g_put t 6 C hu1_0 rfl i_S t_S t_S_ok n_S (by decide) (gmem wd_132 rfl) rfl rfl rfl rfl (Nat.le_of_ble_eq_true rfl) d_S_begin_7 ?_
  show GW Z _ _ _ ad (gup u1 t (.inr (4, [.ref (ad (t + 1)), .ref (ad (t + 2)), .ref (ad (t + 3)), .ref (ad (t + 4)), .ref (ad (t + 5)), .int 1, .int 0, .int tc, .int wa]))) _ _ _ _ _ _
  obtain ⟨u2, hu2⟩ : ∃ z, z = gup u1 t (.inr (4, [.ref (ad (t + 1)), .ref (ad (t + 2)), .ref (ad (t + 3)), .ref (ad (t + 4)), .ref (ad (t + 5)), .int 1, .int 0, .int tc, .int wa])) := ⟨_, rfl⟩
  rw [← hu2]
  have hu2_0 : u2 t = some (.inr (4, [.ref (ad (t + 1)), .ref (ad (t + 2)), .ref (ad (t + 3)), .ref (ad (t + 4)), .ref (ad (t + 5)), .int 1, .int 0, .int tc, .int wa])) := by rw [hu2]; exact gup_self _ _ _
  have hu2_1 : u2 (t + 1) = some (.inl ((X.2 0), 12, .inl gr)) := by rw [hu2, gup_ne (by omega)]; exact hu1_1
  refine g_aload_n C d_S_begin_10 rfl 0 rfl ?_
  refine g_iconst (v := 0) C d_S_begin_11 (by decide) ?_
  refine g_put t 7 C hu2_0 rfl i_S t_S t_S_ok n_S (by decide) (gmem wd_135 rfl) rfl rfl rfl rfl (Nat.le_of_ble_eq_true rfl) d_S_begin_12 ?_
  show GW Z _ _ _ ad (gup u2 t (.inr (4, [.ref (ad (t + 1)), .ref (ad (t + 2)), .ref (ad (t + 3)), .ref (ad (t + 4)), .ref (ad (t + 5)), .int 1, .int 0, .int 0, .int wa]))) _ _ _ _ _ _
  obtain ⟨u3, hu3⟩ : ∃ z, z = gup u2 t (.inr (4, [.ref (ad (t + 1)), .ref (ad (t + 2)), .ref (ad (t + 3)), .ref (ad (t + 4)), .ref (ad (t + 5)), .int 1, .int 0, .int 0, .int wa])) := ⟨_, rfl⟩
  rw [← hu3]
  have hu3_0 : u3 t = some (.inr (4, [.ref (ad (t + 1)), .ref (ad (t + 2)), .ref (ad (t + 3)), .ref (ad (t + 4)), .ref (ad (t + 5)), .int 1, .int 0, .int 0, .int wa])) := by rw [hu3]; exact gup_self _ _ _
  have hu3_1 : u3 (t + 1) = some (.inl ((X.2 0), 12, .inl gr)) := by rw [hu3, gup_ne (by omega)]; exact hu2_1
  refine g_aload_n C d_S_begin_15 rfl 0 rfl ?_
  refine g_iconst (v := 0) C d_S_begin_16 (by decide) ?_
  refine g_put t 8 C hu3_0 rfl i_S t_S t_S_ok n_S (by decide) (gmem wd_137 rfl) rfl rfl rfl rfl (Nat.le_of_ble_eq_true rfl) d_S_begin_17 ?_
  show GW Z _ _ _ ad (gup u3 t (.inr (4, [.ref (ad (t + 1)), .ref (ad (t + 2)), .ref (ad (t + 3)), .ref (ad (t + 4)), .ref (ad (t + 5)), .int 1, .int 0, .int 0, .int 0]))) _ _ _ _ _ _
  obtain ⟨u4, hu4⟩ : ∃ z, z = gup u3 t (.inr (4, [.ref (ad (t + 1)), .ref (ad (t + 2)), .ref (ad (t + 3)), .ref (ad (t + 4)), .ref (ad (t + 5)), .int 1, .int 0, .int 0, .int 0])) := ⟨_, rfl⟩
  rw [← hu4]
  have hu4_0 : u4 t = some (.inr (4, [.ref (ad (t + 1)), .ref (ad (t + 2)), .ref (ad (t + 3)), .ref (ad (t + 4)), .ref (ad (t + 5)), .int 1, .int 0, .int 0, .int 0])) := by rw [hu4]; exact gup_self _ _ _
  have hu4_1 : u4 (t + 1) = some (.inl ((X.2 0), 12, .inl gr)) := by rw [hu4, gup_ne (by omega)]; exact hu3_1
  refine g_iconst (v := 0) C d_S_begin_20 (by decide) ?_
  refine g_istore_n C d_S_begin_21 rfl [(1, .int 0), (0, .ref (ad t))] (by decide) rfl ?_
  refine GW_eq (u2 := gup u4 (t + 1) (.inl ((X.2 0), 12, .inl (fillI gr (-1) 0)))) (lv2 := [(1, .int (nI 0)), (0, .ref (ad t))]) (by rw [fillI_0]; exact (gup_id hu4_1).symm) (by first | rfl | simp only [nI_1, nI_0]) ?_
  refine g_loop 12 (fun iL1 => True) (fun iL1 => gup u4 (t + 1) (.inl ((X.2 0), 12, .inl (fillI gr (-1) iL1)))) (fun iL1 => [(1, .int (nI iL1)), (0, .ref (ad t))]) (fun iL1 hiL1 piL1 KL1 => ?_) (fun piL1 => ?_) 0 (by omega) trivial
  · skip
    show GW Z _ _ _ ad (gup u4 (t + 1) (.inl ((X.2 0), 12, .inl (fillI gr (-1) iL1)))) _ [(1, .int (nI iL1)), (0, .ref (ad t))] _ _ 22 []
    obtain ⟨wL1s, hwL1s⟩ : ∃ z, z = gup u4 (t + 1) (.inl ((X.2 0), 12, .inl (fillI gr (-1) iL1))) := ⟨_, rfl⟩
    rw [← hwL1s]
    have hwL1s_0 : wL1s t = some (.inr (4, [.ref (ad (t + 1)), .ref (ad (t + 2)), .ref (ad (t + 3)), .ref (ad (t + 4)), .ref (ad (t + 5)), .int 1, .int 0, .int 0, .int 0])) := by rw [hwL1s, gup_ne (by omega)]; exact hu4_0
    have hwL1s_1 : wL1s (t + 1) = some (.inl ((X.2 0), 12, .inl (fillI gr (-1) iL1))) := by rw [hwL1s, gup_self]
    refine g_iload_n C d_S_begin_22 rfl 0 rfl ?_
    refine g_bipush (v := 12) C d_S_begin_23 (by decide) ?_
    refine g_icmp_ge 41 C d_S_begin_25 (by decide) (fun c1s25 => ?_) (fun c1s25 => ?_)
    · exact absurd c1s25 (ge12 hiL1)
    refine g_aload_n C d_S_begin_28 rfl 1 rfl ?_
    refine g_get t 0 C hwL1s_0 rfl i_S (by decide) (gmem wd_115 rfl) rfl rfl d_S_begin_29 ?_
    refine g_iload_n C d_S_begin_32 rfl 0 rfl ?_
    refine g_iconst (v := (-1)) C d_S_begin_33 (by decide) ?_
    refine g_iast (t + 1) 0 C hwL1s_1 rfl (in12 hiL1) d_S_begin_34 ?_
    rw [show Int32.toNatClampNeg (nI iL1) = iL1 from cl12 hiL1]
    obtain ⟨u1s5, hu1s5⟩ : ∃ z, z = gup wL1s (t + 1) (.inl ((X.2 0), 12, .inl (upd (fillI gr (-1) iL1) iL1 (-1)))) := ⟨_, rfl⟩
    rw [← hu1s5]
    have hu1s5_0 : u1s5 t = some (.inr (4, [.ref (ad (t + 1)), .ref (ad (t + 2)), .ref (ad (t + 3)), .ref (ad (t + 4)), .ref (ad (t + 5)), .int 1, .int 0, .int 0, .int 0])) := by rw [hu1s5, gup_ne (by omega)]; exact hwL1s_0
    have hu1s5_1 : u1s5 (t + 1) = some (.inl ((X.2 0), 12, .inl (upd (fillI gr (-1) iL1) iL1 (-1)))) := by rw [hu1s5]; exact gup_self _ _ _
    obtain ⟨x1s35, ex1s35⟩ : ∃ y : Int32, y = (nI iL1) + 1 := ⟨_, rfl⟩
    refine g_iinc (v := x1s35) C d_S_begin_35 0 rfl (by rw [ex1s35]; rfl) [(1, .int x1s35), (0, .ref (ad t))] (by decide) rfl ?_
    refine g_goto 22 C d_S_begin_38 (by decide) ?_
    refine GW_eq (u2 := gup u4 (t + 1) (.inl ((X.2 0), 12, .inl (fillI gr (-1) (iL1 + 1))))) (lv2 := [(1, .int (nI (iL1 + 1))), (0, .ref (ad t))]) ?_ ?_ (KL1 trivial)
    · first | (rw [hu1s5, hwL1s]; done) | (rw [hu1s5, hwL1s]; simp only [fillI_s]; done) | (rw [hu1s5, hwL1s]; simp only [fillI_s]; funext k; simp only [gup]; (repeat' split) <;> first | with_reducible rfl | (exfalso; omega) | rfl)
    · first | rfl | simp only [ex1s35, nI_1, nI_0]
  · skip
    show GW Z _ _ _ ad (gup u4 (t + 1) (.inl ((X.2 0), 12, .inl (fillI gr (-1) 12)))) _ [(1, .int (nI 12)), (0, .ref (ad t))] _ _ 22 []
    obtain ⟨wL1e, hwL1e⟩ : ∃ z, z = gup u4 (t + 1) (.inl ((X.2 0), 12, .inl (fillI gr (-1) 12))) := ⟨_, rfl⟩
    rw [← hwL1e]
    have hwL1e_0 : wL1e t = some (.inr (4, [.ref (ad (t + 1)), .ref (ad (t + 2)), .ref (ad (t + 3)), .ref (ad (t + 4)), .ref (ad (t + 5)), .int 1, .int 0, .int 0, .int 0])) := by rw [hwL1e, gup_ne (by omega)]; exact hu4_0
    have hwL1e_1 : wL1e (t + 1) = some (.inl ((X.2 0), 12, .inl (fillI gr (-1) 12))) := by rw [hwL1e, gup_self]
    refine g_iload_n C d_S_begin_22 rfl 0 rfl ?_
    refine g_bipush (v := 12) C d_S_begin_23 (by decide) ?_
    refine g_icmp_ge 41 C d_S_begin_25 (by decide) (fun c1e25 => ?_) (fun c1e25 => ?_)
    rotate_left
    · exact absurd (by decide) c1e25
    exact g_vret C hR hret ⟨rfl, (by first | (rw [hwL1e, hu4, hu3, hu2, hu1]; done) | (rw [hwL1e, hu4, hu3, hu2, hu1]; funext k; simp only [gup]; (repeat' split) <;> first | with_reducible rfl | (exfalso; omega) | rfl)), rfl⟩ d_S_begin_41

set_option maxHeartbeats 4000000 in
set_option maxRecDepth 100000 in
/-- Settlement.addTransfer -/
theorem k_S_addTransfer (l : Launch) (X : gX) (ad : Nat → Nat) (u : gW) (sz : Nat) (t : Nat) (r1 : Value) (se ge : Nat → Int32) (am : Nat → Int64) (ti : Nat → Int32) (op gc tc wa : Int32) (a b : Int32) (sum : Int64) (ht : u t = some (.inr (4, [.ref (ad (t + 1)), .ref (ad (t + 2)), .ref (ad (t + 3)), .ref (ad (t + 4)), .ref (ad (t + 5)), .int op, .int gc, .int tc, .int wa]))) (h2 : u (t + 2) = some (.inl ((X.2 0), 12, .inl se))) (h3 : u (t + 3) = some (.inl ((X.2 0), 12, .inl ge))) (h4 : u (t + 4) = some (.inl ((X.2 1), 12, .inr (.inl am)))) (h5 : u (t + 5) = some (.inl ((X.2 2), 12, .inl ti))) (htc : ¬ tc < 0) : gMet l (EE X) y_S_addTransfer c_S_addTransfer 5 none ({ frames := 0, cells := 0, slots := 0, locals := 0 }) [.ref (ad t), .int a, .int b, .long sum] ad u sz (fun v u' sz' => v = none ∧ sz' = sz ∧ u' = if tc < 12 then gup (gup (gup (gup (gup u t (.inr (4, [.ref (ad (t + 1)), .ref (ad (t + 2)), .ref (ad (t + 3)), .ref (ad (t + 4)), .ref (ad (t + 5)), .int op, .int gc, .int (tc + 1), .int (wa + 1)]))) (t + 2) (.inl ((X.2 0), 12, .inl (upd se tc.toNatClampNeg (if 0 ≤ sum then b else a))))) (t + 3) (.inl ((X.2 0), 12, .inl (upd ge tc.toNatClampNeg (if 0 ≤ sum then a else b))))) (t + 4) (.inl ((X.2 1), 12, .inr (.inl (vp_updL am tc.toNatClampNeg (if 0 ≤ sum then sum else -sum)))))) (t + 5) (.inl ((X.2 2), 12, .inl (upd ti tc.toNatClampNeg 0))) else u) := by
  refine gMet_of "ExpenseClubs$Settlement" rfl (by decide) (Nat.le_of_ble_eq_true rfl) (lv := [(0, .ref (ad t)), (1, .int a), (2, .int b), (3, .long sum)]) rfl (fun Z hZl C hR hret hname => ?_)
  refine g_aload_n C d_S_addTransfer_0 rfl 0 rfl ?_
  refine g_get t 7 C ht rfl i_S (by decide) (gmem wd_135 rfl) rfl rfl d_S_addTransfer_1 ?_
  refine g_bipush (v := 12) C d_S_addTransfer_4 (by decide) ?_
  refine g_icmp_lt 10 C d_S_addTransfer_6 (by decide) (fun c6 => ?_) (fun c6 => ?_)
  · skip
    refine g_aload_n C d_S_addTransfer_10 rfl 0 rfl ?_
    refine g_get t 1 C ht rfl i_S (by decide) (gmem wd_118 rfl) rfl rfl d_S_addTransfer_11 ?_
    refine g_aload_n C d_S_addTransfer_14 rfl 0 rfl ?_
    refine g_get t 7 C ht rfl i_S (by decide) (gmem wd_135 rfl) rfl rfl d_S_addTransfer_15 ?_
    refine g_lload_n C d_S_addTransfer_18 rfl 3 rfl ?_
    refine g_lconst (v := 0) C d_S_addTransfer_19 (by decide) ?_
    refine g_lcmp C d_S_addTransfer_20 ?_
    refine g_if_ge 28 C d_S_addTransfer_21 (by decide) (fun c21 => ?_) (fun c21 => ?_)
    · rw [lg_cmp_ge] at c21
      refine g_iload_n C d_S_addTransfer_28 rfl 2 rfl ?_
      refine g_iast (t + 2) 0 C h2 rfl (in12x htc c6) d_S_addTransfer_29 ?_
      obtain ⟨u1, hu1⟩ : ∃ z, z = gup u (t + 2) (.inl ((X.2 0), 12, .inl (upd se (Int32.toNatClampNeg tc) b))) := ⟨_, rfl⟩
      rw [← hu1]
      have hu1_0 : u1 t = some (.inr (4, [.ref (ad (t + 1)), .ref (ad (t + 2)), .ref (ad (t + 3)), .ref (ad (t + 4)), .ref (ad (t + 5)), .int op, .int gc, .int tc, .int wa])) := by rw [hu1, gup_ne (by omega)]; exact ht
      have hu1_1 : u1 (t + 2) = some (.inl ((X.2 0), 12, .inl (upd se (Int32.toNatClampNeg tc) b))) := by rw [hu1]; exact gup_self _ _ _
      have hu1_2 : u1 (t + 3) = some (.inl ((X.2 0), 12, .inl ge)) := by rw [hu1, gup_ne (by omega)]; exact h3
      have hu1_3 : u1 (t + 4) = some (.inl ((X.2 1), 12, .inr (.inl am))) := by rw [hu1, gup_ne (by omega)]; exact h4
      have hu1_4 : u1 (t + 5) = some (.inl ((X.2 2), 12, .inl ti)) := by rw [hu1, gup_ne (by omega)]; exact h5
      refine g_aload_n C d_S_addTransfer_30 rfl 0 rfl ?_
      refine g_get t 2 C hu1_0 rfl i_S (by decide) (gmem wd_121 rfl) rfl rfl d_S_addTransfer_31 ?_
      refine g_aload_n C d_S_addTransfer_34 rfl 0 rfl ?_
      refine g_get t 7 C hu1_0 rfl i_S (by decide) (gmem wd_135 rfl) rfl rfl d_S_addTransfer_35 ?_
      refine g_lload_n C d_S_addTransfer_38 rfl 3 rfl ?_
      refine g_lconst (v := 0) C d_S_addTransfer_39 (by decide) ?_
      refine g_lcmp C d_S_addTransfer_40 ?_
      refine g_if_ge 48 C d_S_addTransfer_41 (by decide) (fun c41 => ?_) (fun c41 => ?_)
      rotate_left
      · rw [lg_cmp_ge] at c41; first | exact absurd c21 c41 | exact absurd c41 c21
      clear c41
      refine g_iload_n C d_S_addTransfer_48 rfl 1 rfl ?_
      refine g_iast (t + 3) 0 C hu1_2 rfl (in12x htc c6) d_S_addTransfer_49 ?_
      obtain ⟨u2, hu2⟩ : ∃ z, z = gup u1 (t + 3) (.inl ((X.2 0), 12, .inl (upd ge (Int32.toNatClampNeg tc) a))) := ⟨_, rfl⟩
      rw [← hu2]
      have hu2_0 : u2 t = some (.inr (4, [.ref (ad (t + 1)), .ref (ad (t + 2)), .ref (ad (t + 3)), .ref (ad (t + 4)), .ref (ad (t + 5)), .int op, .int gc, .int tc, .int wa])) := by rw [hu2, gup_ne (by omega)]; exact hu1_0
      have hu2_1 : u2 (t + 2) = some (.inl ((X.2 0), 12, .inl (upd se (Int32.toNatClampNeg tc) b))) := by rw [hu2, gup_ne (by omega)]; exact hu1_1
      have hu2_2 : u2 (t + 3) = some (.inl ((X.2 0), 12, .inl (upd ge (Int32.toNatClampNeg tc) a))) := by rw [hu2]; exact gup_self _ _ _
      have hu2_3 : u2 (t + 4) = some (.inl ((X.2 1), 12, .inr (.inl am))) := by rw [hu2, gup_ne (by omega)]; exact hu1_3
      have hu2_4 : u2 (t + 5) = some (.inl ((X.2 2), 12, .inl ti)) := by rw [hu2, gup_ne (by omega)]; exact hu1_4
      refine g_aload_n C d_S_addTransfer_50 rfl 0 rfl ?_
      refine g_get t 3 C hu2_0 rfl i_S (by decide) (gmem wd_124 rfl) rfl rfl d_S_addTransfer_51 ?_
      refine g_aload_n C d_S_addTransfer_54 rfl 0 rfl ?_
      refine g_get t 7 C hu2_0 rfl i_S (by decide) (gmem wd_135 rfl) rfl rfl d_S_addTransfer_55 ?_
      refine g_lload_n C d_S_addTransfer_58 rfl 3 rfl ?_
      refine g_lconst (v := 0) C d_S_addTransfer_59 (by decide) ?_
      refine g_lcmp C d_S_addTransfer_60 ?_
      refine g_if_ge 69 C d_S_addTransfer_61 (by decide) (fun c61 => ?_) (fun c61 => ?_)
      rotate_left
      · rw [lg_cmp_ge] at c61; first | exact absurd c21 c61 | exact absurd c61 c21
      clear c61
      refine g_lload_n C d_S_addTransfer_69 rfl 3 rfl ?_
      refine g_last (t + 4) 1 C hu2_3 rfl (in12x htc c6) d_S_addTransfer_70 ?_
      obtain ⟨u3, hu3⟩ : ∃ z, z = gup u2 (t + 4) (.inl ((X.2 1), 12, .inr (.inl (vp_updL am (Int32.toNatClampNeg tc) sum)))) := ⟨_, rfl⟩
      rw [← hu3]
      have hu3_0 : u3 t = some (.inr (4, [.ref (ad (t + 1)), .ref (ad (t + 2)), .ref (ad (t + 3)), .ref (ad (t + 4)), .ref (ad (t + 5)), .int op, .int gc, .int tc, .int wa])) := by rw [hu3, gup_ne (by omega)]; exact hu2_0
      have hu3_1 : u3 (t + 2) = some (.inl ((X.2 0), 12, .inl (upd se (Int32.toNatClampNeg tc) b))) := by rw [hu3, gup_ne (by omega)]; exact hu2_1
      have hu3_2 : u3 (t + 3) = some (.inl ((X.2 0), 12, .inl (upd ge (Int32.toNatClampNeg tc) a))) := by rw [hu3, gup_ne (by omega)]; exact hu2_2
      have hu3_3 : u3 (t + 4) = some (.inl ((X.2 1), 12, .inr (.inl (vp_updL am (Int32.toNatClampNeg tc) sum)))) := by rw [hu3]; exact gup_self _ _ _
      have hu3_4 : u3 (t + 5) = some (.inl ((X.2 2), 12, .inl ti)) := by rw [hu3, gup_ne (by omega)]; exact hu2_4
      refine g_aload_n C d_S_addTransfer_71 rfl 0 rfl ?_
      refine g_get t 4 C hu3_0 rfl i_S (by decide) (gmem wd_127 rfl) rfl rfl d_S_addTransfer_72 ?_
      refine g_aload_n C d_S_addTransfer_75 rfl 0 rfl ?_
      refine g_get t 7 C hu3_0 rfl i_S (by decide) (gmem wd_135 rfl) rfl rfl d_S_addTransfer_76 ?_
      refine g_iconst (v := 0) C d_S_addTransfer_79 (by decide) ?_
      refine g_zast (t + 5) 2 C hu3_4 rfl (in12x htc c6) d_S_addTransfer_80 ?_
      rw [show vp_nar .boolean 0 = 0 from rfl]
      obtain ⟨u4, hu4⟩ : ∃ z, z = gup u3 (t + 5) (.inl ((X.2 2), 12, .inl (upd ti (Int32.toNatClampNeg tc) 0))) := ⟨_, rfl⟩
      rw [← hu4]
      have hu4_0 : u4 t = some (.inr (4, [.ref (ad (t + 1)), .ref (ad (t + 2)), .ref (ad (t + 3)), .ref (ad (t + 4)), .ref (ad (t + 5)), .int op, .int gc, .int tc, .int wa])) := by rw [hu4, gup_ne (by omega)]; exact hu3_0
      have hu4_1 : u4 (t + 2) = some (.inl ((X.2 0), 12, .inl (upd se (Int32.toNatClampNeg tc) b))) := by rw [hu4, gup_ne (by omega)]; exact hu3_1
      have hu4_2 : u4 (t + 3) = some (.inl ((X.2 0), 12, .inl (upd ge (Int32.toNatClampNeg tc) a))) := by rw [hu4, gup_ne (by omega)]; exact hu3_2
      have hu4_3 : u4 (t + 4) = some (.inl ((X.2 1), 12, .inr (.inl (vp_updL am (Int32.toNatClampNeg tc) sum)))) := by rw [hu4, gup_ne (by omega)]; exact hu3_3
      have hu4_4 : u4 (t + 5) = some (.inl ((X.2 2), 12, .inl (upd ti (Int32.toNatClampNeg tc) 0))) := by rw [hu4]; exact gup_self _ _ _
      refine g_aload_n C d_S_addTransfer_81 rfl 0 rfl ?_
      refine g_dup C d_S_addTransfer_82 rfl ?_
      refine g_get t 7 C hu4_0 rfl i_S (by decide) (gmem wd_135 rfl) rfl rfl d_S_addTransfer_83 ?_
      refine g_iconst (v := 1) C d_S_addTransfer_86 (by decide) ?_
      refine g_iadd C d_S_addTransfer_87 ?_
      refine g_topi (fun x88 ex88 => ?_)
      refine g_put t 7 C hu4_0 rfl i_S t_S t_S_ok n_S (by decide) (gmem wd_135 rfl) rfl rfl rfl rfl (Nat.le_of_ble_eq_true rfl) d_S_addTransfer_88 ?_
      show GW Z _ _ _ ad (gup u4 t (.inr (4, [.ref (ad (t + 1)), .ref (ad (t + 2)), .ref (ad (t + 3)), .ref (ad (t + 4)), .ref (ad (t + 5)), .int op, .int gc, .int x88, .int wa]))) _ _ _ _ _ _
      obtain ⟨u5, hu5⟩ : ∃ z, z = gup u4 t (.inr (4, [.ref (ad (t + 1)), .ref (ad (t + 2)), .ref (ad (t + 3)), .ref (ad (t + 4)), .ref (ad (t + 5)), .int op, .int gc, .int x88, .int wa])) := ⟨_, rfl⟩
      rw [← hu5]
      have hu5_0 : u5 t = some (.inr (4, [.ref (ad (t + 1)), .ref (ad (t + 2)), .ref (ad (t + 3)), .ref (ad (t + 4)), .ref (ad (t + 5)), .int op, .int gc, .int x88, .int wa])) := by rw [hu5]; exact gup_self _ _ _
      have hu5_1 : u5 (t + 2) = some (.inl ((X.2 0), 12, .inl (upd se (Int32.toNatClampNeg tc) b))) := by rw [hu5, gup_ne (by omega)]; exact hu4_1
      have hu5_2 : u5 (t + 3) = some (.inl ((X.2 0), 12, .inl (upd ge (Int32.toNatClampNeg tc) a))) := by rw [hu5, gup_ne (by omega)]; exact hu4_2
      have hu5_3 : u5 (t + 4) = some (.inl ((X.2 1), 12, .inr (.inl (vp_updL am (Int32.toNatClampNeg tc) sum)))) := by rw [hu5, gup_ne (by omega)]; exact hu4_3
      have hu5_4 : u5 (t + 5) = some (.inl ((X.2 2), 12, .inl (upd ti (Int32.toNatClampNeg tc) 0))) := by rw [hu5, gup_ne (by omega)]; exact hu4_4
      refine g_aload_n C d_S_addTransfer_91 rfl 0 rfl ?_
      refine g_dup C d_S_addTransfer_92 rfl ?_
      refine g_get t 8 C hu5_0 rfl i_S (by decide) (gmem wd_137 rfl) rfl rfl d_S_addTransfer_93 ?_
      refine g_iconst (v := 1) C d_S_addTransfer_96 (by decide) ?_
      refine g_iadd C d_S_addTransfer_97 ?_
      refine g_topi (fun x98 ex98 => ?_)
      refine g_put t 8 C hu5_0 rfl i_S t_S t_S_ok n_S (by decide) (gmem wd_137 rfl) rfl rfl rfl rfl (Nat.le_of_ble_eq_true rfl) d_S_addTransfer_98 ?_
      show GW Z _ _ _ ad (gup u5 t (.inr (4, [.ref (ad (t + 1)), .ref (ad (t + 2)), .ref (ad (t + 3)), .ref (ad (t + 4)), .ref (ad (t + 5)), .int op, .int gc, .int x88, .int x98]))) _ _ _ _ _ _
      obtain ⟨u6, hu6⟩ : ∃ z, z = gup u5 t (.inr (4, [.ref (ad (t + 1)), .ref (ad (t + 2)), .ref (ad (t + 3)), .ref (ad (t + 4)), .ref (ad (t + 5)), .int op, .int gc, .int x88, .int x98])) := ⟨_, rfl⟩
      rw [← hu6]
      have hu6_0 : u6 t = some (.inr (4, [.ref (ad (t + 1)), .ref (ad (t + 2)), .ref (ad (t + 3)), .ref (ad (t + 4)), .ref (ad (t + 5)), .int op, .int gc, .int x88, .int x98])) := by rw [hu6]; exact gup_self _ _ _
      have hu6_1 : u6 (t + 2) = some (.inl ((X.2 0), 12, .inl (upd se (Int32.toNatClampNeg tc) b))) := by rw [hu6, gup_ne (by omega)]; exact hu5_1
      have hu6_2 : u6 (t + 3) = some (.inl ((X.2 0), 12, .inl (upd ge (Int32.toNatClampNeg tc) a))) := by rw [hu6, gup_ne (by omega)]; exact hu5_2
      have hu6_3 : u6 (t + 4) = some (.inl ((X.2 1), 12, .inr (.inl (vp_updL am (Int32.toNatClampNeg tc) sum)))) := by rw [hu6, gup_ne (by omega)]; exact hu5_3
      have hu6_4 : u6 (t + 5) = some (.inl ((X.2 2), 12, .inl (upd ti (Int32.toNatClampNeg tc) 0))) := by rw [hu6, gup_ne (by omega)]; exact hu5_4
      exact g_vret C hR hret ⟨rfl, rfl, (by rw [hu6, hu5, hu4, hu3, hu2, hu1]; simp only [if_pos c6, if_pos c21, ex88, ex98]; funext k; simp only [gup]; (repeat' split) <;> first | with_reducible rfl | (exfalso; omega) | rfl)⟩ d_S_addTransfer_101
    · rw [lg_cmp_ge] at c21
      refine g_iload_n C d_S_addTransfer_24 rfl 1 rfl ?_
      refine g_goto 29 C d_S_addTransfer_25 (by decide) ?_
      refine g_iast (t + 2) 0 C h2 rfl (in12x htc c6) d_S_addTransfer_29 ?_
      obtain ⟨u7, hu7⟩ : ∃ z, z = gup u (t + 2) (.inl ((X.2 0), 12, .inl (upd se (Int32.toNatClampNeg tc) a))) := ⟨_, rfl⟩
      rw [← hu7]
      have hu7_0 : u7 t = some (.inr (4, [.ref (ad (t + 1)), .ref (ad (t + 2)), .ref (ad (t + 3)), .ref (ad (t + 4)), .ref (ad (t + 5)), .int op, .int gc, .int tc, .int wa])) := by rw [hu7, gup_ne (by omega)]; exact ht
      have hu7_1 : u7 (t + 2) = some (.inl ((X.2 0), 12, .inl (upd se (Int32.toNatClampNeg tc) a))) := by rw [hu7]; exact gup_self _ _ _
      have hu7_2 : u7 (t + 3) = some (.inl ((X.2 0), 12, .inl ge)) := by rw [hu7, gup_ne (by omega)]; exact h3
      have hu7_3 : u7 (t + 4) = some (.inl ((X.2 1), 12, .inr (.inl am))) := by rw [hu7, gup_ne (by omega)]; exact h4
      have hu7_4 : u7 (t + 5) = some (.inl ((X.2 2), 12, .inl ti)) := by rw [hu7, gup_ne (by omega)]; exact h5
      refine g_aload_n C d_S_addTransfer_30 rfl 0 rfl ?_
      refine g_get t 2 C hu7_0 rfl i_S (by decide) (gmem wd_121 rfl) rfl rfl d_S_addTransfer_31 ?_
      refine g_aload_n C d_S_addTransfer_34 rfl 0 rfl ?_
      refine g_get t 7 C hu7_0 rfl i_S (by decide) (gmem wd_135 rfl) rfl rfl d_S_addTransfer_35 ?_
      refine g_lload_n C d_S_addTransfer_38 rfl 3 rfl ?_
      refine g_lconst (v := 0) C d_S_addTransfer_39 (by decide) ?_
      refine g_lcmp C d_S_addTransfer_40 ?_
      refine g_if_ge 48 C d_S_addTransfer_41 (by decide) (fun c41 => ?_) (fun c41 => ?_)
      · rw [lg_cmp_ge] at c41; first | exact absurd c21 c41 | exact absurd c41 c21
      clear c41
      refine g_iload_n C d_S_addTransfer_44 rfl 2 rfl ?_
      refine g_goto 49 C d_S_addTransfer_45 (by decide) ?_
      refine g_iast (t + 3) 0 C hu7_2 rfl (in12x htc c6) d_S_addTransfer_49 ?_
      obtain ⟨u8, hu8⟩ : ∃ z, z = gup u7 (t + 3) (.inl ((X.2 0), 12, .inl (upd ge (Int32.toNatClampNeg tc) b))) := ⟨_, rfl⟩
      rw [← hu8]
      have hu8_0 : u8 t = some (.inr (4, [.ref (ad (t + 1)), .ref (ad (t + 2)), .ref (ad (t + 3)), .ref (ad (t + 4)), .ref (ad (t + 5)), .int op, .int gc, .int tc, .int wa])) := by rw [hu8, gup_ne (by omega)]; exact hu7_0
      have hu8_1 : u8 (t + 2) = some (.inl ((X.2 0), 12, .inl (upd se (Int32.toNatClampNeg tc) a))) := by rw [hu8, gup_ne (by omega)]; exact hu7_1
      have hu8_2 : u8 (t + 3) = some (.inl ((X.2 0), 12, .inl (upd ge (Int32.toNatClampNeg tc) b))) := by rw [hu8]; exact gup_self _ _ _
      have hu8_3 : u8 (t + 4) = some (.inl ((X.2 1), 12, .inr (.inl am))) := by rw [hu8, gup_ne (by omega)]; exact hu7_3
      have hu8_4 : u8 (t + 5) = some (.inl ((X.2 2), 12, .inl ti)) := by rw [hu8, gup_ne (by omega)]; exact hu7_4
      refine g_aload_n C d_S_addTransfer_50 rfl 0 rfl ?_
      refine g_get t 3 C hu8_0 rfl i_S (by decide) (gmem wd_124 rfl) rfl rfl d_S_addTransfer_51 ?_
      refine g_aload_n C d_S_addTransfer_54 rfl 0 rfl ?_
      refine g_get t 7 C hu8_0 rfl i_S (by decide) (gmem wd_135 rfl) rfl rfl d_S_addTransfer_55 ?_
      refine g_lload_n C d_S_addTransfer_58 rfl 3 rfl ?_
      refine g_lconst (v := 0) C d_S_addTransfer_59 (by decide) ?_
      refine g_lcmp C d_S_addTransfer_60 ?_
      refine g_if_ge 69 C d_S_addTransfer_61 (by decide) (fun c61 => ?_) (fun c61 => ?_)
      · rw [lg_cmp_ge] at c61; first | exact absurd c21 c61 | exact absurd c61 c21
      clear c61
      refine g_lload_n C d_S_addTransfer_64 rfl 3 rfl ?_
      refine g_lneg C d_S_addTransfer_65 ?_
      refine g_goto 70 C d_S_addTransfer_66 (by decide) ?_
      refine g_topl (fun x70 ex70 => ?_)
      refine g_last (t + 4) 1 C hu8_3 rfl (in12x htc c6) d_S_addTransfer_70 ?_
      obtain ⟨u9, hu9⟩ : ∃ z, z = gup u8 (t + 4) (.inl ((X.2 1), 12, .inr (.inl (vp_updL am (Int32.toNatClampNeg tc) x70)))) := ⟨_, rfl⟩
      rw [← hu9]
      have hu9_0 : u9 t = some (.inr (4, [.ref (ad (t + 1)), .ref (ad (t + 2)), .ref (ad (t + 3)), .ref (ad (t + 4)), .ref (ad (t + 5)), .int op, .int gc, .int tc, .int wa])) := by rw [hu9, gup_ne (by omega)]; exact hu8_0
      have hu9_1 : u9 (t + 2) = some (.inl ((X.2 0), 12, .inl (upd se (Int32.toNatClampNeg tc) a))) := by rw [hu9, gup_ne (by omega)]; exact hu8_1
      have hu9_2 : u9 (t + 3) = some (.inl ((X.2 0), 12, .inl (upd ge (Int32.toNatClampNeg tc) b))) := by rw [hu9, gup_ne (by omega)]; exact hu8_2
      have hu9_3 : u9 (t + 4) = some (.inl ((X.2 1), 12, .inr (.inl (vp_updL am (Int32.toNatClampNeg tc) x70)))) := by rw [hu9]; exact gup_self _ _ _
      have hu9_4 : u9 (t + 5) = some (.inl ((X.2 2), 12, .inl ti)) := by rw [hu9, gup_ne (by omega)]; exact hu8_4
      refine g_aload_n C d_S_addTransfer_71 rfl 0 rfl ?_
      refine g_get t 4 C hu9_0 rfl i_S (by decide) (gmem wd_127 rfl) rfl rfl d_S_addTransfer_72 ?_
      refine g_aload_n C d_S_addTransfer_75 rfl 0 rfl ?_
      refine g_get t 7 C hu9_0 rfl i_S (by decide) (gmem wd_135 rfl) rfl rfl d_S_addTransfer_76 ?_
      refine g_iconst (v := 0) C d_S_addTransfer_79 (by decide) ?_
      refine g_zast (t + 5) 2 C hu9_4 rfl (in12x htc c6) d_S_addTransfer_80 ?_
      rw [show vp_nar .boolean 0 = 0 from rfl]
      obtain ⟨u10, hu10⟩ : ∃ z, z = gup u9 (t + 5) (.inl ((X.2 2), 12, .inl (upd ti (Int32.toNatClampNeg tc) 0))) := ⟨_, rfl⟩
      rw [← hu10]
      have hu10_0 : u10 t = some (.inr (4, [.ref (ad (t + 1)), .ref (ad (t + 2)), .ref (ad (t + 3)), .ref (ad (t + 4)), .ref (ad (t + 5)), .int op, .int gc, .int tc, .int wa])) := by rw [hu10, gup_ne (by omega)]; exact hu9_0
      have hu10_1 : u10 (t + 2) = some (.inl ((X.2 0), 12, .inl (upd se (Int32.toNatClampNeg tc) a))) := by rw [hu10, gup_ne (by omega)]; exact hu9_1
      have hu10_2 : u10 (t + 3) = some (.inl ((X.2 0), 12, .inl (upd ge (Int32.toNatClampNeg tc) b))) := by rw [hu10, gup_ne (by omega)]; exact hu9_2
      have hu10_3 : u10 (t + 4) = some (.inl ((X.2 1), 12, .inr (.inl (vp_updL am (Int32.toNatClampNeg tc) x70)))) := by rw [hu10, gup_ne (by omega)]; exact hu9_3
      have hu10_4 : u10 (t + 5) = some (.inl ((X.2 2), 12, .inl (upd ti (Int32.toNatClampNeg tc) 0))) := by rw [hu10]; exact gup_self _ _ _
      refine g_aload_n C d_S_addTransfer_81 rfl 0 rfl ?_
      refine g_dup C d_S_addTransfer_82 rfl ?_
      refine g_get t 7 C hu10_0 rfl i_S (by decide) (gmem wd_135 rfl) rfl rfl d_S_addTransfer_83 ?_
      refine g_iconst (v := 1) C d_S_addTransfer_86 (by decide) ?_
      refine g_iadd C d_S_addTransfer_87 ?_
      refine g_topi (fun x88 ex88 => ?_)
      refine g_put t 7 C hu10_0 rfl i_S t_S t_S_ok n_S (by decide) (gmem wd_135 rfl) rfl rfl rfl rfl (Nat.le_of_ble_eq_true rfl) d_S_addTransfer_88 ?_
      show GW Z _ _ _ ad (gup u10 t (.inr (4, [.ref (ad (t + 1)), .ref (ad (t + 2)), .ref (ad (t + 3)), .ref (ad (t + 4)), .ref (ad (t + 5)), .int op, .int gc, .int x88, .int wa]))) _ _ _ _ _ _
      obtain ⟨u11, hu11⟩ : ∃ z, z = gup u10 t (.inr (4, [.ref (ad (t + 1)), .ref (ad (t + 2)), .ref (ad (t + 3)), .ref (ad (t + 4)), .ref (ad (t + 5)), .int op, .int gc, .int x88, .int wa])) := ⟨_, rfl⟩
      rw [← hu11]
      have hu11_0 : u11 t = some (.inr (4, [.ref (ad (t + 1)), .ref (ad (t + 2)), .ref (ad (t + 3)), .ref (ad (t + 4)), .ref (ad (t + 5)), .int op, .int gc, .int x88, .int wa])) := by rw [hu11]; exact gup_self _ _ _
      have hu11_1 : u11 (t + 2) = some (.inl ((X.2 0), 12, .inl (upd se (Int32.toNatClampNeg tc) a))) := by rw [hu11, gup_ne (by omega)]; exact hu10_1
      have hu11_2 : u11 (t + 3) = some (.inl ((X.2 0), 12, .inl (upd ge (Int32.toNatClampNeg tc) b))) := by rw [hu11, gup_ne (by omega)]; exact hu10_2
      have hu11_3 : u11 (t + 4) = some (.inl ((X.2 1), 12, .inr (.inl (vp_updL am (Int32.toNatClampNeg tc) x70)))) := by rw [hu11, gup_ne (by omega)]; exact hu10_3
      have hu11_4 : u11 (t + 5) = some (.inl ((X.2 2), 12, .inl (upd ti (Int32.toNatClampNeg tc) 0))) := by rw [hu11, gup_ne (by omega)]; exact hu10_4
      refine g_aload_n C d_S_addTransfer_91 rfl 0 rfl ?_
      refine g_dup C d_S_addTransfer_92 rfl ?_
      refine g_get t 8 C hu11_0 rfl i_S (by decide) (gmem wd_137 rfl) rfl rfl d_S_addTransfer_93 ?_
      refine g_iconst (v := 1) C d_S_addTransfer_96 (by decide) ?_
      refine g_iadd C d_S_addTransfer_97 ?_
      refine g_topi (fun x98 ex98 => ?_)
      refine g_put t 8 C hu11_0 rfl i_S t_S t_S_ok n_S (by decide) (gmem wd_137 rfl) rfl rfl rfl rfl (Nat.le_of_ble_eq_true rfl) d_S_addTransfer_98 ?_
      show GW Z _ _ _ ad (gup u11 t (.inr (4, [.ref (ad (t + 1)), .ref (ad (t + 2)), .ref (ad (t + 3)), .ref (ad (t + 4)), .ref (ad (t + 5)), .int op, .int gc, .int x88, .int x98]))) _ _ _ _ _ _
      obtain ⟨u12, hu12⟩ : ∃ z, z = gup u11 t (.inr (4, [.ref (ad (t + 1)), .ref (ad (t + 2)), .ref (ad (t + 3)), .ref (ad (t + 4)), .ref (ad (t + 5)), .int op, .int gc, .int x88, .int x98])) := ⟨_, rfl⟩
      rw [← hu12]
      have hu12_0 : u12 t = some (.inr (4, [.ref (ad (t + 1)), .ref (ad (t + 2)), .ref (ad (t + 3)), .ref (ad (t + 4)), .ref (ad (t + 5)), .int op, .int gc, .int x88, .int x98])) := by rw [hu12]; exact gup_self _ _ _
      have hu12_1 : u12 (t + 2) = some (.inl ((X.2 0), 12, .inl (upd se (Int32.toNatClampNeg tc) a))) := by rw [hu12, gup_ne (by omega)]; exact hu11_1
      have hu12_2 : u12 (t + 3) = some (.inl ((X.2 0), 12, .inl (upd ge (Int32.toNatClampNeg tc) b))) := by rw [hu12, gup_ne (by omega)]; exact hu11_2
      have hu12_3 : u12 (t + 4) = some (.inl ((X.2 1), 12, .inr (.inl (vp_updL am (Int32.toNatClampNeg tc) x70)))) := by rw [hu12, gup_ne (by omega)]; exact hu11_3
      have hu12_4 : u12 (t + 5) = some (.inl ((X.2 2), 12, .inl (upd ti (Int32.toNatClampNeg tc) 0))) := by rw [hu12, gup_ne (by omega)]; exact hu11_4
      exact g_vret C hR hret ⟨rfl, rfl, (by rw [hu12, hu11, hu10, hu9, hu8, hu7]; simp only [if_pos c6, if_neg c21, ex70, ex88, ex98]; funext k; simp only [gup]; (repeat' split) <;> first | with_reducible rfl | (exfalso; omega) | rfl)⟩ d_S_addTransfer_101
  · skip
    exact g_vret C hR hret ⟨rfl, rfl, (if_neg c6).symm⟩ d_S_addTransfer_9
