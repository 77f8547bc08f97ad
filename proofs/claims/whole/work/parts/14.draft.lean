theorem d_I_bitCount_0 : decode c_I_bitCount 0 = .ok (.iload_n 0, 1) := by decide +kernel
theorem d_I_bitCount_1 : decode c_I_bitCount 1 = .ok (.iload_n 0, 1) := by decide +kernel
theorem d_I_bitCount_2 : decode c_I_bitCount 2 = .ok (.iconst 1, 1) := by decide +kernel
theorem d_I_bitCount_3 : decode c_I_bitCount 3 = .ok (.iushr, 1) := by decide +kernel
theorem d_I_bitCount_4 : decode c_I_bitCount 4 = .ok (.ldc_w 265, 3) := by decide +kernel
theorem d_I_bitCount_7 : decode c_I_bitCount 7 = .ok (.iand, 1) := by decide +kernel
theorem d_I_bitCount_8 : decode c_I_bitCount 8 = .ok (.isub, 1) := by decide +kernel
theorem d_I_bitCount_9 : decode c_I_bitCount 9 = .ok (.istore_n 0, 1) := by decide +kernel
theorem d_I_bitCount_10 : decode c_I_bitCount 10 = .ok (.iload_n 0, 1) := by decide +kernel
theorem d_I_bitCount_11 : decode c_I_bitCount 11 = .ok (.ldc_w 266, 3) := by decide +kernel
theorem d_I_bitCount_14 : decode c_I_bitCount 14 = .ok (.iand, 1) := by decide +kernel
theorem d_I_bitCount_15 : decode c_I_bitCount 15 = .ok (.iload_n 0, 1) := by decide +kernel
theorem d_I_bitCount_16 : decode c_I_bitCount 16 = .ok (.iconst 2, 1) := by decide +kernel
theorem d_I_bitCount_17 : decode c_I_bitCount 17 = .ok (.iushr, 1) := by decide +kernel
theorem d_I_bitCount_18 : decode c_I_bitCount 18 = .ok (.ldc_w 266, 3) := by decide +kernel
theorem d_I_bitCount_21 : decode c_I_bitCount 21 = .ok (.iand, 1) := by decide +kernel
theorem d_I_bitCount_22 : decode c_I_bitCount 22 = .ok (.iadd, 1) := by decide +kernel
theorem d_I_bitCount_23 : decode c_I_bitCount 23 = .ok (.istore_n 0, 1) := by decide +kernel
theorem d_I_bitCount_24 : decode c_I_bitCount 24 = .ok (.iload_n 0, 1) := by decide +kernel
theorem d_I_bitCount_25 : decode c_I_bitCount 25 = .ok (.iload_n 0, 1) := by decide +kernel
theorem d_I_bitCount_26 : decode c_I_bitCount 26 = .ok (.iconst 4, 1) := by decide +kernel
theorem d_I_bitCount_27 : decode c_I_bitCount 27 = .ok (.iushr, 1) := by decide +kernel
theorem d_I_bitCount_28 : decode c_I_bitCount 28 = .ok (.iadd, 1) := by decide +kernel
theorem d_I_bitCount_29 : decode c_I_bitCount 29 = .ok (.ldc_w 267, 3) := by decide +kernel
theorem d_I_bitCount_32 : decode c_I_bitCount 32 = .ok (.iand, 1) := by decide +kernel
theorem d_I_bitCount_33 : decode c_I_bitCount 33 = .ok (.istore_n 0, 1) := by decide +kernel
theorem d_I_bitCount_34 : decode c_I_bitCount 34 = .ok (.iload_n 0, 1) := by decide +kernel
theorem d_I_bitCount_35 : decode c_I_bitCount 35 = .ok (.iload_n 0, 1) := by decide +kernel
theorem d_I_bitCount_36 : decode c_I_bitCount 36 = .ok (.bipush 8, 2) := by decide +kernel
theorem d_I_bitCount_38 : decode c_I_bitCount 38 = .ok (.iushr, 1) := by decide +kernel
theorem d_I_bitCount_39 : decode c_I_bitCount 39 = .ok (.iadd, 1) := by decide +kernel
theorem d_I_bitCount_40 : decode c_I_bitCount 40 = .ok (.istore_n 0, 1) := by decide +kernel
theorem d_I_bitCount_41 : decode c_I_bitCount 41 = .ok (.iload_n 0, 1) := by decide +kernel
theorem d_I_bitCount_42 : decode c_I_bitCount 42 = .ok (.iload_n 0, 1) := by decide +kernel
theorem d_I_bitCount_43 : decode c_I_bitCount 43 = .ok (.bipush 16, 2) := by decide +kernel
theorem d_I_bitCount_45 : decode c_I_bitCount 45 = .ok (.iushr, 1) := by decide +kernel
theorem d_I_bitCount_46 : decode c_I_bitCount 46 = .ok (.iadd, 1) := by decide +kernel
theorem d_I_bitCount_47 : decode c_I_bitCount 47 = .ok (.istore_n 0, 1) := by decide +kernel
theorem d_I_bitCount_48 : decode c_I_bitCount 48 = .ok (.iload_n 0, 1) := by decide +kernel
theorem d_I_bitCount_49 : decode c_I_bitCount 49 = .ok (.bipush 63, 2) := by decide +kernel
theorem d_I_bitCount_51 : decode c_I_bitCount 51 = .ok (.iand, 1) := by decide +kernel
theorem d_I_bitCount_52 : decode c_I_bitCount 52 = .ok (.ireturn, 1) := by decide +kernel
def us (x : Int32) (k : Int32) : Int32 := (x.toUInt32 >>> (k.toUInt32 &&& Int32.toUInt32 31)).toInt32
def bc1 (x : Int32) : Int32 := x - (us x 1 &&& 1431655765)
def bc2 (x : Int32) : Int32 := (x &&& 858993459) + (us x 2 &&& 858993459)
def bc3 (x : Int32) : Int32 := (x + us x 4) &&& 252645135
def bc4 (x : Int32) : Int32 := x + us x 8
def bc5 (x : Int32) : Int32 := x + us x 16
def bitC (x : Int32) : Int32 := bc5 (bc4 (bc3 (bc2 (bc1 x)))) &&& 63
set_option maxHeartbeats 4000000 in
set_option maxRecDepth 100000 in
/-- Integer.bitCount -/
theorem k_I_bitCount (l : Launch) (X : gX) (ad : Nat → Nat) (u : gW) (sz : Nat) (x : Int32)   : gMet l (EE X) y_I_bitCount c_I_bitCount 1 (some .int) ({ frames := 0, cells := 0, slots := 0, locals := 0 }) [.int x] ad u sz (fun v u' sz' => v = some (.int (bitC x)) ∧ u' = u ∧ sz' = sz) := by
  refine gMet_of "java/lang/Integer" rfl (by decide) (Nat.le_of_ble_eq_true rfl) (lv := [(0, .int x)]) rfl (fun Z hZl C hR hret hname => ?_)
  refine g_iload_n C d_I_bitCount_0 rfl 0 rfl ?_
  refine g_iload_n C d_I_bitCount_1 rfl 0 rfl ?_
  refine g_iconst (v := 1) C d_I_bitCount_2 (by decide) ?_
  refine g_iushr C d_I_bitCount_3 ?_
  refine g_ldcw C (gmem wd_245 rfl) d_I_bitCount_4 ?_
  refine g_iand C d_I_bitCount_7 ?_
  refine g_isub C d_I_bitCount_8 ?_
  refine g_topi (fun x9 ex9 => ?_)
  refine g_istore_n C d_I_bitCount_9 rfl [(0, .int x9)] (by decide) rfl ?_
  refine g_iload_n C d_I_bitCount_10 rfl 0 rfl ?_
  refine g_ldcw C (gmem wd_246 rfl) d_I_bitCount_11 ?_
  refine g_iand C d_I_bitCount_14 ?_
  refine g_iload_n C d_I_bitCount_15 rfl 0 rfl ?_
  refine g_iconst (v := 2) C d_I_bitCount_16 (by decide) ?_
  refine g_iushr C d_I_bitCount_17 ?_
  refine g_ldcw C (gmem wd_246 rfl) d_I_bitCount_18 ?_
  refine g_iand C d_I_bitCount_21 ?_
  refine g_iadd C d_I_bitCount_22 ?_
  refine g_topi (fun x23 ex23 => ?_)
  refine g_istore_n C d_I_bitCount_23 rfl [(0, .int x23)] (by decide) rfl ?_
  refine g_iload_n C d_I_bitCount_24 rfl 0 rfl ?_
  refine g_iload_n C d_I_bitCount_25 rfl 0 rfl ?_
  refine g_iconst (v := 4) C d_I_bitCount_26 (by decide) ?_
  refine g_iushr C d_I_bitCount_27 ?_
  refine g_iadd C d_I_bitCount_28 ?_
  refine g_ldcw C (gmem wd_247 rfl) d_I_bitCount_29 ?_
  refine g_iand C d_I_bitCount_32 ?_
  refine g_topi (fun x33 ex33 => ?_)
  refine g_istore_n C d_I_bitCount_33 rfl [(0, .int x33)] (by decide) rfl ?_
  refine g_iload_n C d_I_bitCount_34 rfl 0 rfl ?_
  refine g_iload_n C d_I_bitCount_35 rfl 0 rfl ?_
  refine g_bipush (v := 8) C d_I_bitCount_36 (by decide) ?_
  refine g_iushr C d_I_bitCount_38 ?_
  refine g_iadd C d_I_bitCount_39 ?_
  refine g_topi (fun x40 ex40 => ?_)
  refine g_istore_n C d_I_bitCount_40 rfl [(0, .int x40)] (by decide) rfl ?_
  refine g_iload_n C d_I_bitCount_41 rfl 0 rfl ?_
  refine g_iload_n C d_I_bitCount_42 rfl 0 rfl ?_
  refine g_bipush (v := 16) C d_I_bitCount_43 (by decide) ?_
  refine g_iushr C d_I_bitCount_45 ?_
  refine g_iadd C d_I_bitCount_46 ?_
  refine g_topi (fun x47 ex47 => ?_)
  refine g_istore_n C d_I_bitCount_47 rfl [(0, .int x47)] (by decide) rfl ?_
  refine g_iload_n C d_I_bitCount_48 rfl 0 rfl ?_
  refine g_bipush (v := 63) C d_I_bitCount_49 (by decide) ?_
  refine g_iand C d_I_bitCount_51 ?_
  exact g_iret C hR hret ⟨by simp only [ex47, ex40, ex33, ex23, ex9]; rfl, rfl, rfl⟩ d_I_bitCount_52

set_option maxHeartbeats 4000000 in
set_option maxRecDepth 100000 in
/-- Draft.begin -/
theorem k_D_begin (l : Launch) (X : gX) (ad : Nat → Nat) (u : gW) (sz : Nat) (d b : Nat) (py wt : Nat → Int64) (cv : Value) (way ce ra lc w2 c2 r2 : Int32) (hd : u d = some (.inr (2, [.ref (ad (d + 1)), .ref (ad (d + 2)), cv, .int way, .int ce, .int ra, .int lc]))) (hd1 : u (d + 1) = some (.inl ((X.2 1), 12, .inr (.inl py)))) (hd2 : u (d + 2) = some (.inl ((X.2 1), 12, .inr (.inl wt))))  : gMet l (EE X) y_D_begin c_D_begin 6 none ({ frames := 0, cells := 0, slots := 0, locals := 0 }) [.ref (ad d), .ref (ad b), .int w2, .int c2, .int r2] ad u sz (fun v u' sz' => v = none ∧ u' = gup (gup (gup u d (.inr (2, [.ref (ad (d + 1)), .ref (ad (d + 2)), .ref (ad b), .int w2, .int c2, .int r2, .int 0]))) (d + 1) (.inl ((X.2 1), 12, .inr (.inl (fillL py 0 12))))) (d + 2) (.inl ((X.2 1), 12, .inr (.inl (fillL wt 0 12)))) ∧ sz' = sz) := by
  refine gMet_of "ExpenseClubs$Draft" rfl (by decide) (Nat.le_of_ble_eq_true rfl) (lv := [(0, .ref (ad d)), (1, .ref (ad b)), (2, .int w2), (3, .int c2), (4, .int r2)]) rfl (fun Z hZl C hR hret hname => ?_)
  refine g_aload_n C d_D_begin_0 rfl 0 rfl ?_
  refine g_aload_n C d_D_begin_1 rfl 1 rfl ?_
  refine g_put d 2 C hd rfl i_D t_D t_D_ok n_D (by decide) (gmem wd_37 rfl) rfl rfl rfl rfl (Nat.le_of_ble_eq_true rfl) d_D_begin_2 ?_
  show GW Z _ _ _ ad (gup u d (.inr (2, [.ref (ad (d + 1)), .ref (ad (d + 2)), .ref (ad b), .int way, .int ce, .int ra, .int lc]))) _ _ _ _ _ _
  obtain ⟨u1, hu1⟩ : ∃ z, z = gup u d (.inr (2, [.ref (ad (d + 1)), .ref (ad (d + 2)), .ref (ad b), .int way, .int ce, .int ra, .int lc])) := ⟨_, rfl⟩
  rw [← hu1]
  have hu1_0 : u1 d = some (.inr (2, [.ref (ad (d + 1)), .ref (ad (d + 2)), .ref (ad b), .int way, .int ce, .int ra, .int lc])) := by rw [hu1]; exact gup_self _ _ _
  have hu1_1 : u1 (d + 1) = some (.inl ((X.2 1), 12, .inr (.inl py))) := by rw [hu1, gup_ne (by omega)]; exact hd1
  have hu1_2 : u1 (d + 2) = some (.inl ((X.2 1), 12, .inr (.inl wt))) := by rw [hu1, gup_ne (by omega)]; exact hd2
  refine g_aload_n C d_D_begin_5 rfl 0 rfl ?_
  refine g_iload_n C d_D_begin_6 rfl 2 rfl ?_
  refine g_put d 3 C hu1_0 rfl i_D t_D t_D_ok n_D (by decide) (gmem wd_39 rfl) rfl rfl rfl rfl (Nat.le_of_ble_eq_true rfl) d_D_begin_7 ?_
  show GW Z _ _ _ ad (gup u1 d (.inr (2, [.ref (ad (d + 1)), .ref (ad (d + 2)), .ref (ad b), .int w2, .int ce, .int ra, .int lc]))) _ _ _ _ _ _
  obtain ⟨u2, hu2⟩ : ∃ z, z = gup u1 d (.inr (2, [.ref (ad (d + 1)), .ref (ad (d + 2)), .ref (ad b), .int w2, .int ce, .int ra, .int lc])) := ⟨_, rfl⟩
  rw [← hu2]
  have hu2_0 : u2 d = some (.inr (2, [.ref (ad (d + 1)), .ref (ad (d + 2)), .ref (ad b), .int w2, .int ce, .int ra, .int lc])) := by rw [hu2]; exact gup_self _ _ _
  have hu2_1 : u2 (d + 1) = some (.inl ((X.2 1), 12, .inr (.inl py))) := by rw [hu2, gup_ne (by omega)]; exact hu1_1
  have hu2_2 : u2 (d + 2) = some (.inl ((X.2 1), 12, .inr (.inl wt))) := by rw [hu2, gup_ne (by omega)]; exact hu1_2
  refine g_aload_n C d_D_begin_10 rfl 0 rfl ?_
  refine g_iload_n C d_D_begin_11 rfl 3 rfl ?_
  refine g_put d 4 C hu2_0 rfl i_D t_D t_D_ok n_D (by decide) (gmem wd_41 rfl) rfl rfl rfl rfl (Nat.le_of_ble_eq_true rfl) d_D_begin_12 ?_
  show GW Z _ _ _ ad (gup u2 d (.inr (2, [.ref (ad (d + 1)), .ref (ad (d + 2)), .ref (ad b), .int w2, .int c2, .int ra, .int lc]))) _ _ _ _ _ _
  obtain ⟨u3, hu3⟩ : ∃ z, z = gup u2 d (.inr (2, [.ref (ad (d + 1)), .ref (ad (d + 2)), .ref (ad b), .int w2, .int c2, .int ra, .int lc])) := ⟨_, rfl⟩
  rw [← hu3]
  have hu3_0 : u3 d = some (.inr (2, [.ref (ad (d + 1)), .ref (ad (d + 2)), .ref (ad b), .int w2, .int c2, .int ra, .int lc])) := by rw [hu3]; exact gup_self _ _ _
  have hu3_1 : u3 (d + 1) = some (.inl ((X.2 1), 12, .inr (.inl py))) := by rw [hu3, gup_ne (by omega)]; exact hu2_1
  have hu3_2 : u3 (d + 2) = some (.inl ((X.2 1), 12, .inr (.inl wt))) := by rw [hu3, gup_ne (by omega)]; exact hu2_2
  refine g_aload_n C d_D_begin_15 rfl 0 rfl ?_
  refine g_iload C d_D_begin_16 4 rfl ?_
  refine g_put d 5 C hu3_0 rfl i_D t_D t_D_ok n_D (by decide) (gmem wd_42 rfl) rfl rfl rfl rfl (Nat.le_of_ble_eq_true rfl) d_D_begin_18 ?_
  show GW Z _ _ _ ad (gup u3 d (.inr (2, [.ref (ad (d + 1)), .ref (ad (d + 2)), .ref (ad b), .int w2, .int c2, .int r2, .int lc]))) _ _ _ _ _ _
  obtain ⟨u4, hu4⟩ : ∃ z, z = gup u3 d (.inr (2, [.ref (ad (d + 1)), .ref (ad (d + 2)), .ref (ad b), .int w2, .int c2, .int r2, .int lc])) := ⟨_, rfl⟩
  rw [← hu4]
  have hu4_0 : u4 d = some (.inr (2, [.ref (ad (d + 1)), .ref (ad (d + 2)), .ref (ad b), .int w2, .int c2, .int r2, .int lc])) := by rw [hu4]; exact gup_self _ _ _
  have hu4_1 : u4 (d + 1) = some (.inl ((X.2 1), 12, .inr (.inl py))) := by rw [hu4, gup_ne (by omega)]; exact hu3_1
  have hu4_2 : u4 (d + 2) = some (.inl ((X.2 1), 12, .inr (.inl wt))) := by rw [hu4, gup_ne (by omega)]; exact hu3_2
  refine g_aload_n C d_D_begin_21 rfl 0 rfl ?_
  refine g_iconst (v := 0) C d_D_begin_22 (by decide) ?_
  refine g_put d 6 C hu4_0 rfl i_D t_D t_D_ok n_D (by decide) (gmem wd_43 rfl) rfl rfl rfl rfl (Nat.le_of_ble_eq_true rfl) d_D_begin_23 ?_
  show GW Z _ _ _ ad (gup u4 d (.inr (2, [.ref (ad (d + 1)), .ref (ad (d + 2)), .ref (ad b), .int w2, .int c2, .int r2, .int 0]))) _ _ _ _ _ _
  obtain ⟨u5, hu5⟩ : ∃ z, z = gup u4 d (.inr (2, [.ref (ad (d + 1)), .ref (ad (d + 2)), .ref (ad b), .int w2, .int c2, .int r2, .int 0])) := ⟨_, rfl⟩
  rw [← hu5]
  have hu5_0 : u5 d = some (.inr (2, [.ref (ad (d + 1)), .ref (ad (d + 2)), .ref (ad b), .int w2, .int c2, .int r2, .int 0])) := by rw [hu5]; exact gup_self _ _ _
  have hu5_1 : u5 (d + 1) = some (.inl ((X.2 1), 12, .inr (.inl py))) := by rw [hu5, gup_ne (by omega)]; exact hu4_1
  have hu5_2 : u5 (d + 2) = some (.inl ((X.2 1), 12, .inr (.inl wt))) := by rw [hu5, gup_ne (by omega)]; exact hu4_2
  refine g_iconst (v := 0) C d_D_begin_26 (by decide) ?_
  refine g_istore C d_D_begin_27 [(5, .int 0), (0, .ref (ad d)), (1, .ref (ad b)), (2, .int w2), (3, .int c2), (4, .int r2)] (by decide) rfl ?_
  refine g_fewer (lv' := [(5, .int 0), (0, .ref (ad d))]) [0, 1] rfl ?_
  refine GW_eq (u2 := gup (gup u5 (d + 1) (.inl ((X.2 1), 12, .inr (.inl (fillL py 0 0))))) (d + 2) (.inl ((X.2 1), 12, .inr (.inl (fillL wt 0 0))))) (lv2 := [(5, .int (nI 0)), (0, .ref (ad d))]) (by rw [fillL_0, fillL_0, gup_id hu5_1, gup_id hu5_2]) rfl ?_
  refine g_loop 12 (fun iL7 => True) (fun iL7 => gup (gup u5 (d + 1) (.inl ((X.2 1), 12, .inr (.inl (fillL py 0 iL7))))) (d + 2) (.inl ((X.2 1), 12, .inr (.inl (fillL wt 0 iL7))))) (fun iL7 => [(5, .int (nI iL7)), (0, .ref (ad d))]) (fun iL7 hiL7 piL7 KL7 => ?_) (fun piL7 => ?_) 0 (by omega) trivial
  · skip
    show GW Z _ _ _ ad (gup (gup u5 (d + 1) (.inl ((X.2 1), 12, .inr (.inl (fillL py 0 iL7))))) (d + 2) (.inl ((X.2 1), 12, .inr (.inl (fillL wt 0 iL7))))) _ [(5, .int (nI iL7)), (0, .ref (ad d))] _ _ 29 []
    obtain ⟨wL7s, hwL7s⟩ : ∃ z, z = gup (gup u5 (d + 1) (.inl ((X.2 1), 12, .inr (.inl (fillL py 0 iL7))))) (d + 2) (.inl ((X.2 1), 12, .inr (.inl (fillL wt 0 iL7)))) := ⟨_, rfl⟩
    rw [← hwL7s]
    have hwL7s_0 : wL7s d = some (.inr (2, [.ref (ad (d + 1)), .ref (ad (d + 2)), .ref (ad b), .int w2, .int c2, .int r2, .int 0])) := by rw [hwL7s, gup_ne (by omega), gup_ne (by omega)]; exact hu5_0
    have hwL7s_1 : wL7s (d + 1) = some (.inl ((X.2 1), 12, .inr (.inl (fillL py 0 iL7)))) := by rw [hwL7s, gup_ne (by omega), gup_self]
    have hwL7s_2 : wL7s (d + 2) = some (.inl ((X.2 1), 12, .inr (.inl (fillL wt 0 iL7)))) := by rw [hwL7s, gup_self]
    refine g_iload C d_D_begin_29 0 rfl ?_
    refine g_bipush (v := 12) C d_D_begin_31 (by decide) ?_
    refine g_icmp_ge 58 C d_D_begin_33 (by decide) (fun c7s33 => ?_) (fun c7s33 => ?_)
    · exact absurd c7s33 (ge12 hiL7)
    refine g_aload_n C d_D_begin_36 rfl 1 rfl ?_
    refine g_get d 0 C hwL7s_0 rfl i_D (by decide) (gmem wd_33 rfl) rfl rfl d_D_begin_37 ?_
    refine g_iload C d_D_begin_40 0 rfl ?_
    refine g_lconst (v := 0) C d_D_begin_42 (by decide) ?_
    refine g_last (d + 1) 1 C hwL7s_1 rfl (vp_in_nI (by omega) (by decide)) d_D_begin_43 ?_
    rw [show Int32.toNatClampNeg (nI iL7) = iL7 from nI_clamp (by omega)]
    obtain ⟨u7s6, hu7s6⟩ : ∃ z, z = gup wL7s (d + 1) (.inl ((X.2 1), 12, .inr (.inl (vp_updL (fillL py 0 iL7) iL7 0)))) := ⟨_, rfl⟩
    rw [← hu7s6]
    have hu7s6_0 : u7s6 d = some (.inr (2, [.ref (ad (d + 1)), .ref (ad (d + 2)), .ref (ad b), .int w2, .int c2, .int r2, .int 0])) := by rw [hu7s6, gup_ne (by omega)]; exact hwL7s_0
    have hu7s6_1 : u7s6 (d + 1) = some (.inl ((X.2 1), 12, .inr (.inl (vp_updL (fillL py 0 iL7) iL7 0)))) := by rw [hu7s6]; exact gup_self _ _ _
    have hu7s6_2 : u7s6 (d + 2) = some (.inl ((X.2 1), 12, .inr (.inl (fillL wt 0 iL7)))) := by rw [hu7s6, gup_ne (by omega)]; exact hwL7s_2
    refine g_aload_n C d_D_begin_44 rfl 1 rfl ?_
    refine g_get d 1 C hu7s6_0 rfl i_D (by decide) (gmem wd_35 rfl) rfl rfl d_D_begin_45 ?_
    refine g_iload C d_D_begin_48 0 rfl ?_
    refine g_lconst (v := 0) C d_D_begin_50 (by decide) ?_
    refine g_last (d + 2) 1 C hu7s6_2 rfl (vp_in_nI (by omega) (by decide)) d_D_begin_51 ?_
    rw [show Int32.toNatClampNeg (nI iL7) = iL7 from nI_clamp (by omega)]
    obtain ⟨u7s7, hu7s7⟩ : ∃ z, z = gup u7s6 (d + 2) (.inl ((X.2 1), 12, .inr (.inl (vp_updL (fillL wt 0 iL7) iL7 0)))) := ⟨_, rfl⟩
    rw [← hu7s7]
    have hu7s7_0 : u7s7 d = some (.inr (2, [.ref (ad (d + 1)), .ref (ad (d + 2)), .ref (ad b), .int w2, .int c2, .int r2, .int 0])) := by rw [hu7s7, gup_ne (by omega)]; exact hu7s6_0
    have hu7s7_1 : u7s7 (d + 1) = some (.inl ((X.2 1), 12, .inr (.inl (vp_updL (fillL py 0 iL7) iL7 0)))) := by rw [hu7s7, gup_ne (by omega)]; exact hu7s6_1
    have hu7s7_2 : u7s7 (d + 2) = some (.inl ((X.2 1), 12, .inr (.inl (vp_updL (fillL wt 0 iL7) iL7 0)))) := by rw [hu7s7]; exact gup_self _ _ _
    obtain ⟨x7s52, ex7s52⟩ : ∃ y : Int32, y = (nI iL7) + 1 := ⟨_, rfl⟩
    refine g_iinc (v := x7s52) C d_D_begin_52 0 rfl (by rw [ex7s52]; rfl) [(5, .int x7s52), (0, .ref (ad d))] (by decide) rfl ?_
    refine g_goto 29 C d_D_begin_55 (by decide) ?_
    refine GW_eq (u2 := gup (gup u5 (d + 1) (.inl ((X.2 1), 12, .inr (.inl (fillL py 0 (iL7 + 1)))))) (d + 2) (.inl ((X.2 1), 12, .inr (.inl (fillL wt 0 (iL7 + 1)))))) (lv2 := [(5, .int (nI (iL7 + 1))), (0, .ref (ad d))]) ?_ ?_ (KL7 trivial)
    · first | (rw [hu7s7, hu7s6, hwL7s]; done) | (rw [hu7s7, hu7s6, hwL7s]; simp only [fillL_s]; done) | (rw [hu7s7, hu7s6, hwL7s]; simp only [fillL_s]; funext k; simp only [gup]; (repeat' split) <;> first | with_reducible rfl | (exfalso; omega))
    · first | rfl | simp only [ex7s52, nI_1, nI_0]
  · skip
    show GW Z _ _ _ ad (gup (gup u5 (d + 1) (.inl ((X.2 1), 12, .inr (.inl (fillL py 0 12))))) (d + 2) (.inl ((X.2 1), 12, .inr (.inl (fillL wt 0 12))))) _ [(5, .int (nI 12)), (0, .ref (ad d))] _ _ 29 []
    obtain ⟨wL7e, hwL7e⟩ : ∃ z, z = gup (gup u5 (d + 1) (.inl ((X.2 1), 12, .inr (.inl (fillL py 0 12))))) (d + 2) (.inl ((X.2 1), 12, .inr (.inl (fillL wt 0 12)))) := ⟨_, rfl⟩
    rw [← hwL7e]
    have hwL7e_0 : wL7e d = some (.inr (2, [.ref (ad (d + 1)), .ref (ad (d + 2)), .ref (ad b), .int w2, .int c2, .int r2, .int 0])) := by rw [hwL7e, gup_ne (by omega), gup_ne (by omega)]; exact hu5_0
    have hwL7e_1 : wL7e (d + 1) = some (.inl ((X.2 1), 12, .inr (.inl (fillL py 0 12)))) := by rw [hwL7e, gup_ne (by omega), gup_self]
    have hwL7e_2 : wL7e (d + 2) = some (.inl ((X.2 1), 12, .inr (.inl (fillL wt 0 12)))) := by rw [hwL7e, gup_self]
    refine g_iload C d_D_begin_29 0 rfl ?_
    refine g_bipush (v := 12) C d_D_begin_31 (by decide) ?_
    refine g_icmp_ge 58 C d_D_begin_33 (by decide) (fun c7e33 => ?_) (fun c7e33 => ?_)
    rotate_left
    · exact absurd (by decide) c7e33
    exact g_vret C hR hret ⟨rfl, (by first | (rw [hwL7e, hu5, hu4, hu3, hu2, hu1]; done) | (rw [hwL7e, hu5, hu4, hu3, hu2, hu1]; funext k; simp only [gup]; (repeat' split) <;> first | with_reducible rfl | (exfalso; omega))), rfl⟩ d_D_begin_58

def lineG (wt : Nat → Int64) (set lc : Int32) : Nat → Int64 := fun j => if (set >>> (nI j &&& 31)) &&& 1 = 0 then wt j else wt j + (27720 / bitC set).toInt64 * lc.toInt64
set_option maxHeartbeats 4000000 in
set_option maxRecDepth 100000 in
/-- Draft.addLine -/
theorem k_D_addLine (l : Launch) (X : gX) (ad : Nat → Nat) (u : gW) (sz : Nat) (d : Nat) (wt : Nat → Int64) (cv : Value) (way ce ra lc ln set : Int32) (hd : u d = some (.inr (2, [.ref (ad (d + 1)), .ref (ad (d + 2)), cv, .int way, .int ce, .int ra, .int lc]))) (hd2 : u (d + 2) = some (.inl ((X.2 1), 12, .inr (.inl wt))))  : gMet l (EE X) y_D_addLine c_D_addLine 7 none ({ frames := 1, cells := 0, slots := 0, locals := 20 }) [.ref (ad d), .int ln, .int set] ad u sz (fun v u' sz' => v = none ∧ sz' = sz ∧ u' = if bitC set = 0 then u else gup (gup u (d + 2) (.inl ((X.2 1), 12, .inr (.inl (mapL wt (lineG wt set ln) 12))))) d (.inr (2, [.ref (ad (d + 1)), .ref (ad (d + 2)), cv, .int way, .int ce, .int ra, .int (lc + 1)]))) := by
  refine gMet_of "ExpenseClubs$Draft" rfl (by decide) (Nat.le_of_ble_eq_true rfl) (lv := [(0, .ref (ad d)), (1, .int ln), (2, .int set)]) rfl (fun Z hZl C hR hret hname => ?_)
  refine g_iload_n C d_D_addLine_0 rfl 2 rfl ?_
  refine g_callS 1 C (k_I_bitCount _ X ad u sz set) (gmem wd_242 rfl) (gmem wd_243 rfl) (gmem wd_7 rfl) (gmem wd_244 rfl) ⟨by decide, by decide, by decide +kernel⟩ ⟨Nat.le_of_ble_eq_true rfl, Nat.le_of_ble_eq_true rfl⟩ rfl rfl (Nat.le_of_ble_eq_true rfl) d_D_addLine_1 ⟨Nat.le_of_ble_eq_true rfl, Nat.le_of_ble_eq_true rfl⟩ ?_
  rintro v9 u9 s9 ⟨h9, hu9, hs9⟩; rw [h9, hu9, hs9]; clear h9 hu9 hs9 v9 u9 s9
  show GW Z _ _ _ ad u sz [(0, .ref (ad d)), (1, .int ln), (2, .int set)] 0 0 4 [.int (bitC set)]
  refine g_topi (fun x4 ex4 => ?_)
  refine g_istore_n C d_D_addLine_4 rfl [(3, .int x4), (0, .ref (ad d)), (1, .int ln), (2, .int set)] (by decide) rfl ?_
  refine g_iload_n C d_D_addLine_5 rfl 0 rfl ?_
  refine g_if_ne 10 C d_D_addLine_6 (by decide) (fun c6 => ?_) (fun c6 => ?_)
  · skip
    refine g_sipush (v := 27720) C d_D_addLine_10 (by decide) ?_
    refine g_iload_n C d_D_addLine_13 rfl 0 rfl ?_
    refine g_idiv C d_D_addLine_14 c6 ?_
    refine g_i2l C d_D_addLine_15 ?_
    refine g_iload_n C d_D_addLine_16 rfl 2 rfl ?_
    refine g_i2l C d_D_addLine_17 ?_
    refine g_lmul C d_D_addLine_18 ?_
    refine g_topl (fun x19 ex19 => ?_)
    refine g_lstore C d_D_addLine_19 [(4, .long x19), (3, .int x4), (0, .ref (ad d)), (1, .int ln), (2, .int set)] (by decide) rfl ?_
    refine g_iconst (v := 0) C d_D_addLine_21 (by decide) ?_
    refine g_istore C d_D_addLine_22 [(6, .int 0), (4, .long x19), (3, .int x4), (0, .ref (ad d)), (1, .int ln), (2, .int set)] (by decide) rfl ?_
    refine g_fewer (lv' := [(0, .ref (ad d)), (2, .int set), (4, .long x19), (6, .int 0)]) [3, 5, 1, 0] rfl ?_
    refine GW_eq (u2 := gup u (d + 2) (.inl ((X.2 1), 12, .inr (.inl (mapL wt (lineG wt set ln) 0))))) (lv2 := [(0, .ref (ad d)), (2, .int set), (4, .long ((27720 / bitC set).toInt64 * ln.toInt64)), (6, .int (nI 0))]) (by rw [mapL_0, gup_id hd2]) (by simp only [ex4, ex19]; rfl) ?_
    refine g_loop 12 (fun iL8 => True) (fun iL8 => gup u (d + 2) (.inl ((X.2 1), 12, .inr (.inl (mapL wt (lineG wt set ln) iL8))))) (fun iL8 => [(0, .ref (ad d)), (2, .int set), (4, .long ((27720 / bitC set).toInt64 * ln.toInt64)), (6, .int (nI iL8))]) (fun iL8 hiL8 piL8 KL8 => ?_) (fun piL8 => ?_) 0 (by omega) trivial
    · skip
      show GW Z _ _ _ ad (gup u (d + 2) (.inl ((X.2 1), 12, .inr (.inl (mapL wt (lineG wt set ln) iL8))))) _ [(0, .ref (ad d)), (2, .int set), (4, .long ((27720 / bitC set).toInt64 * ln.toInt64)), (6, .int (nI iL8))] _ _ 24 []
      obtain ⟨wL8s, hwL8s⟩ : ∃ z, z = gup u (d + 2) (.inl ((X.2 1), 12, .inr (.inl (mapL wt (lineG wt set ln) iL8)))) := ⟨_, rfl⟩
      rw [← hwL8s]
      have hwL8s_0 : wL8s d = some (.inr (2, [.ref (ad (d + 1)), .ref (ad (d + 2)), cv, .int way, .int ce, .int ra, .int lc])) := by rw [hwL8s, gup_ne (by omega)]; exact hd
      have hwL8s_1 : wL8s (d + 2) = some (.inl ((X.2 1), 12, .inr (.inl (mapL wt (lineG wt set ln) iL8)))) := by rw [hwL8s, gup_self]
      refine g_iload C d_D_addLine_24 3 rfl ?_
      refine g_bipush (v := 12) C d_D_addLine_26 (by decide) ?_
      refine g_icmp_ge 58 C d_D_addLine_28 (by decide) (fun c8s28 => ?_) (fun c8s28 => ?_)
      · exact absurd c8s28 (ge12 hiL8)
      refine g_iload_n C d_D_addLine_31 rfl 1 rfl ?_
      refine g_iload C d_D_addLine_32 3 rfl ?_
      refine g_ishr C d_D_addLine_34 ?_
      refine g_iconst (v := 1) C d_D_addLine_35 (by decide) ?_
      refine g_iand C d_D_addLine_36 ?_
      refine g_if_eq 52 C d_D_addLine_37 (by decide) (fun c8s37 => ?_) (fun c8s37 => ?_)
      · skip
        obtain ⟨x8s52, ex8s52⟩ : ∃ y : Int32, y = (nI iL8) + 1 := ⟨_, rfl⟩
        refine g_iinc (v := x8s52) C d_D_addLine_52 3 rfl (by rw [ex8s52]; rfl) [(6, .int x8s52), (0, .ref (ad d)), (2, .int set), (4, .long ((27720 / bitC set).toInt64 * ln.toInt64))] (by decide) rfl ?_
        refine g_goto 24 C d_D_addLine_55 (by decide) ?_
        refine g_fewer (lv' := [(0, .ref (ad d)), (2, .int set), (4, .long ((27720 / bitC set).toInt64 * ln.toInt64)), (6, .int x8s52)]) [1, 2, 3, 0] rfl ?_
        refine GW_eq (u2 := gup u (d + 2) (.inl ((X.2 1), 12, .inr (.inl (mapL wt (lineG wt set ln) (iL8 + 1)))))) (lv2 := [(0, .ref (ad d)), (2, .int set), (4, .long ((27720 / bitC set).toInt64 * ln.toInt64)), (6, .int (nI (iL8 + 1)))]) ?_ ?_ (KL8 trivial)
        · first | (rw [hwL8s]; done) | (rw [hwL8s]; rw [mapL_k (f := wt) (g := lineG wt set ln) (if_pos c8s37)]; done) | (rw [hwL8s]; rw [mapL_k (f := wt) (g := lineG wt set ln) (if_pos c8s37)]; funext k; simp only [gup]; (repeat' split) <;> first | with_reducible rfl | (exfalso; omega))
        · first | rfl | simp only [ex8s52, nI_1, nI_0]
      · skip
        refine g_aload_n C d_D_addLine_40 rfl 0 rfl ?_
        refine g_get d 1 C hwL8s_0 rfl i_D (by decide) (gmem wd_35 rfl) rfl rfl d_D_addLine_41 ?_
        refine g_iload C d_D_addLine_44 3 rfl ?_
        refine g_dup2_11 C d_D_addLine_46 rfl rfl ?_
        refine g_lald (d + 2) 1 C hwL8s_1 rfl (vp_in_nI (by omega) (by decide)) d_D_addLine_47 ?_
        rw [show Int32.toNatClampNeg (nI iL8) = iL8 from nI_clamp (by omega)]
        refine g_lload C d_D_addLine_48 2 rfl ?_
        refine g_ladd C d_D_addLine_50 ?_
        refine g_topl (fun x8s51 ex8s51 => ?_)
        refine g_last (d + 2) 1 C hwL8s_1 rfl (vp_in_nI (by omega) (by decide)) d_D_addLine_51 ?_
        rw [show Int32.toNatClampNeg (nI iL8) = iL8 from nI_clamp (by omega)]
        obtain ⟨u8s1, hu8s1⟩ : ∃ z, z = gup wL8s (d + 2) (.inl ((X.2 1), 12, .inr (.inl (vp_updL (mapL wt (lineG wt set ln) iL8) iL8 x8s51)))) := ⟨_, rfl⟩
        rw [← hu8s1]
        have hu8s1_0 : u8s1 d = some (.inr (2, [.ref (ad (d + 1)), .ref (ad (d + 2)), cv, .int way, .int ce, .int ra, .int lc])) := by rw [hu8s1, gup_ne (by omega)]; exact hwL8s_0
        have hu8s1_1 : u8s1 (d + 2) = some (.inl ((X.2 1), 12, .inr (.inl (vp_updL (mapL wt (lineG wt set ln) iL8) iL8 x8s51)))) := by rw [hu8s1]; exact gup_self _ _ _
        obtain ⟨x8s52, ex8s52⟩ : ∃ y : Int32, y = (nI iL8) + 1 := ⟨_, rfl⟩
        refine g_iinc (v := x8s52) C d_D_addLine_52 3 rfl (by rw [ex8s52]; rfl) [(6, .int x8s52), (0, .ref (ad d)), (2, .int set), (4, .long ((27720 / bitC set).toInt64 * ln.toInt64))] (by decide) rfl ?_
        refine g_goto 24 C d_D_addLine_55 (by decide) ?_
        refine g_fewer (lv' := [(0, .ref (ad d)), (2, .int set), (4, .long ((27720 / bitC set).toInt64 * ln.toInt64)), (6, .int x8s52)]) [1, 2, 3, 0] rfl ?_
        refine GW_eq (u2 := gup u (d + 2) (.inl ((X.2 1), 12, .inr (.inl (mapL wt (lineG wt set ln) (iL8 + 1)))))) (lv2 := [(0, .ref (ad d)), (2, .int set), (4, .long ((27720 / bitC set).toInt64 * ln.toInt64)), (6, .int (nI (iL8 + 1)))]) ?_ ?_ (KL8 trivial)
        · first | (rw [hu8s1, hwL8s]; done) | (rw [hu8s1, hwL8s]; simp only [ex8s51, ex8s52, mapL_at]; done) | (rw [hu8s1, hwL8s]; simp only [ex8s51, ex8s52, mapL_at]; rw [mapL_s (g := lineG wt set ln) (if_neg c8s37).symm]; done) | (rw [hu8s1, hwL8s]; simp only [ex8s51, ex8s52, mapL_at]; rw [mapL_s (g := lineG wt set ln) (if_neg c8s37).symm]; funext k; simp only [gup]; (repeat' split) <;> first | with_reducible rfl | (exfalso; omega))
        · first | rfl | simp only [ex8s51, ex8s52, nI_1, nI_0]
    · skip
      show GW Z _ _ _ ad (gup u (d + 2) (.inl ((X.2 1), 12, .inr (.inl (mapL wt (lineG wt set ln) 12))))) _ [(0, .ref (ad d)), (2, .int set), (4, .long ((27720 / bitC set).toInt64 * ln.toInt64)), (6, .int (nI 12))] _ _ 24 []
      obtain ⟨wL8e, hwL8e⟩ : ∃ z, z = gup u (d + 2) (.inl ((X.2 1), 12, .inr (.inl (mapL wt (lineG wt set ln) 12)))) := ⟨_, rfl⟩
      rw [← hwL8e]
      have hwL8e_0 : wL8e d = some (.inr (2, [.ref (ad (d + 1)), .ref (ad (d + 2)), cv, .int way, .int ce, .int ra, .int lc])) := by rw [hwL8e, gup_ne (by omega)]; exact hd
      have hwL8e_1 : wL8e (d + 2) = some (.inl ((X.2 1), 12, .inr (.inl (mapL wt (lineG wt set ln) 12)))) := by rw [hwL8e, gup_self]
      refine g_iload C d_D_addLine_24 3 rfl ?_
      refine g_bipush (v := 12) C d_D_addLine_26 (by decide) ?_
      refine g_icmp_ge 58 C d_D_addLine_28 (by decide) (fun c8e28 => ?_) (fun c8e28 => ?_)
      rotate_left
      · exact absurd (by decide) c8e28
      refine g_aload_n C d_D_addLine_58 rfl 0 rfl ?_
      refine g_dup C d_D_addLine_59 rfl ?_
      refine g_get d 6 C hwL8e_0 rfl i_D (by decide) (gmem wd_43 rfl) rfl rfl d_D_addLine_60 ?_
      refine g_iconst (v := 1) C d_D_addLine_63 (by decide) ?_
      refine g_iadd C d_D_addLine_64 ?_
      refine g_topi (fun x8e65 ex8e65 => ?_)
      refine g_put d 6 C hwL8e_0 rfl i_D t_D t_D_ok n_D (by decide) (gmem wd_43 rfl) rfl rfl rfl rfl (Nat.le_of_ble_eq_true rfl) d_D_addLine_65 ?_
      show GW Z _ _ _ ad (gup wL8e d (.inr (2, [.ref (ad (d + 1)), .ref (ad (d + 2)), cv, .int way, .int ce, .int ra, .int x8e65]))) _ _ _ _ _ _
      obtain ⟨u8e2, hu8e2⟩ : ∃ z, z = gup wL8e d (.inr (2, [.ref (ad (d + 1)), .ref (ad (d + 2)), cv, .int way, .int ce, .int ra, .int x8e65])) := ⟨_, rfl⟩
      rw [← hu8e2]
      have hu8e2_0 : u8e2 d = some (.inr (2, [.ref (ad (d + 1)), .ref (ad (d + 2)), cv, .int way, .int ce, .int ra, .int x8e65])) := by rw [hu8e2]; exact gup_self _ _ _
      have hu8e2_1 : u8e2 (d + 2) = some (.inl ((X.2 1), 12, .inr (.inl (mapL wt (lineG wt set ln) 12)))) := by rw [hu8e2, gup_ne (by omega)]; exact hwL8e_1
      exact g_vret C hR hret ⟨rfl, rfl, (by rw [if_neg (by rw [← ex4]; exact c6)]; first | (rw [hu8e2, hwL8e]; done) | (rw [hu8e2, hwL8e]; simp only [ex8e65]; done) | (rw [hu8e2, hwL8e]; simp only [ex8e65]; funext k; simp only [gup]; (repeat' split) <;> first | with_reducible rfl | (exfalso; omega)))⟩ d_D_addLine_68
  · skip
    exact g_vret C hR hret ⟨rfl, rfl, (if_pos (by rw [← ex4]; exact c6)).symm⟩ d_D_addLine_9

def dueS (way ce : Int32) (s : Int64) : Int64 := if way = 3 then ce.toInt64 else if way = 4 then 10000 else if way = 5 then 27720 * ce.toInt64 else s
set_option maxHeartbeats 4000000 in
set_option maxRecDepth 100000 in
/-- Draft.dueSum -/
theorem k_D_dueSum (l : Launch) (X : gX) (ad : Nat → Nat) (u : gW) (sz : Nat) (d : Nat) (q1 q2 cv : Value) (way ce ra lc : Int32) (s : Int64) (hd : u d = some (.inr (2, [q1, q2, cv, .int way, .int ce, .int ra, .int lc])))  : gMet l (EE X) y_D_dueSum c_D_dueSum 3 (some .long) ({ frames := 0, cells := 0, slots := 0, locals := 0 }) [.ref (ad d), .long s] ad u sz (fun v u' sz' => v = some (.long (dueS way ce s)) ∧ u' = u ∧ sz' = sz) := by
  refine gMet_of "ExpenseClubs$Draft" rfl (by decide) (Nat.le_of_ble_eq_true rfl) (lv := [(0, .ref (ad d)), (1, .long s)]) rfl (fun Z hZl C hR hret hname => ?_)
  refine g_aload_n C d_D_dueSum_0 rfl 0 rfl ?_
  refine g_get d 3 C hd rfl i_D (by decide) (gmem wd_39 rfl) rfl rfl d_D_dueSum_1 ?_
  by_cases c4_3 : way = 3
  · refine g_tableIn (off := 28) 32 C d_D_dueSum_4 (by rw [c4_3]; decide) (by rw [c4_3]; decide) (by rw [c4_3]; rfl) (by decide) ?_
    refine g_aload_n C d_D_dueSum_32 rfl 0 rfl ?_
    refine g_get d 4 C hd rfl i_D (by decide) (gmem wd_41 rfl) rfl rfl d_D_dueSum_33 ?_
    refine g_i2l C d_D_dueSum_36 ?_
    exact g_lret C hR hret ⟨by simp_all [dueS], rfl, rfl⟩ d_D_dueSum_37
  by_cases c4_4 : way = 4
  · refine g_tableIn (off := 34) 38 C d_D_dueSum_4 (by rw [c4_4]; decide) (by rw [c4_4]; decide) (by rw [c4_4]; rfl) (by decide) ?_
    refine g_ldc2 C (gmem wd_268 rfl) d_D_dueSum_38 ?_
    exact g_lret C hR hret ⟨by simp_all [dueS], rfl, rfl⟩ d_D_dueSum_41
  by_cases c4_5 : way = 5
  · refine g_tableIn (off := 38) 42 C d_D_dueSum_4 (by rw [c4_5]; decide) (by rw [c4_5]; decide) (by rw [c4_5]; rfl) (by decide) ?_
    refine g_ldc2 C (gmem wd_269 rfl) d_D_dueSum_42 ?_
    refine g_aload_n C d_D_dueSum_45 rfl 0 rfl ?_
    refine g_get d 4 C hd rfl i_D (by decide) (gmem wd_41 rfl) rfl rfl d_D_dueSum_46 ?_
    refine g_i2l C d_D_dueSum_49 ?_
    refine g_lmul C d_D_dueSum_50 ?_
    exact g_lret C hR hret ⟨by simp_all [dueS], rfl, rfl⟩ d_D_dueSum_51
  refine g_tableOut 52 C d_D_dueSum_4 (by have h0 := lv_neT c4_3 (a := 3) (by decide); have h1 := lv_neT c4_4 (a := 4) (by decide); have h2 := lv_neT c4_5 (a := 5) (by decide); omega) (by decide) ?_
  refine g_lload_n C d_D_dueSum_52 rfl 1 rfl ?_
  exact g_lret C hR hret ⟨by simp_all [dueS], rfl, rfl⟩ d_D_dueSum_53

/-- one who left pays or has a weight -/
def badL (py wt : Nat → Int64) (go : Int32) (j : Nat) : Prop := gBit go (nI j) = true ∧ (0 < py j ∨ ¬ wt j ≤ 0)
def refuse (py wt : Nat → Int64) (go way ce : Int32) (r : Int32) : Prop :=
  ((∃ j, j < 12 ∧ badL py wt go j) ∧ r = -4) ∨ ((∀ j, j < 12 → ¬ badL py wt go j) ∧ r = if ¬ sumL py 12 = ce.toInt64 then -5 else if sumL wt 12 = 0 then -6 else if ¬ sumL wt 12 = dueS way ce (sumL wt 12) then -7 else 0)
set_option maxHeartbeats 4000000 in
set_option maxRecDepth 100000 in
/-- Draft.refusalFor -/
theorem k_D_refusalFor (l : Launch) (X : gX) (ad : Nat → Nat) (u : gW) (sz : Nat) (d b : Nat) (py wt : Nat → Int64) (cv r0 r1 r2 : Value) (way ce ra lc mc go mk : Int32) (hd : u d = some (.inr (2, [.ref (ad (d + 1)), .ref (ad (d + 2)), cv, .int way, .int ce, .int ra, .int lc]))) (hd1 : u (d + 1) = some (.inl ((X.2 1), 12, .inr (.inl py)))) (hd2 : u (d + 2) = some (.inl ((X.2 1), 12, .inr (.inl wt)))) (hb : u b = some (.inr (1, [r0, r1, r2, .int mc, .int go, .int mk])))  : gMet l (EE X) y_D_refusalFor c_D_refusalFor 4 (some .int) ({ frames := 1, cells := 0, slots := 0, locals := 23 }) [.ref (ad d), .ref (ad b)] ad u sz (fun v u' sz' => ∃ r : Int32, v = some (.int r) ∧ refuse py wt go way ce r ∧ u' = u ∧ sz' = sz) := by
  refine gMet_of "ExpenseClubs$Draft" rfl (by decide) (Nat.le_of_ble_eq_true rfl) (lv := [(0, .ref (ad d)), (1, .ref (ad b))]) rfl (fun Z hZl C hR hret hname => ?_)
  refine g_iconst (v := 0) C d_D_refusalFor_0 (by decide) ?_
  refine g_istore_n C d_D_refusalFor_1 rfl [(2, .int 0), (0, .ref (ad d)), (1, .ref (ad b))] (by decide) rfl ?_
  refine g_fewer (lv' := [(0, .ref (ad d)), (1, .ref (ad b)), (2, .int 0)]) [1, 2, 0] rfl ?_
  refine GW_eq (u2 := u) (lv2 := [(0, .ref (ad d)), (1, .ref (ad b)), (2, .int (nI 0))]) rfl rfl ?_
  refine g_loop 12 (fun iL9 => ∀ j, j < iL9 → ¬ badL py wt go j) (fun iL9 => u) (fun iL9 => [(0, .ref (ad d)), (1, .ref (ad b)), (2, .int (nI iL9))]) (fun iL9 hiL9 piL9 KL9 => ?_) (fun piL9 => ?_) 0 (by omega) lt_0
  · skip
    show GW Z _ _ _ ad (u) _ [(0, .ref (ad d)), (1, .ref (ad b)), (2, .int (nI iL9))] _ _ 2 []
    obtain ⟨wL9s, hwL9s⟩ : ∃ z, z = u := ⟨_, rfl⟩
    rw [← hwL9s]
    have hwL9s_0 : wL9s d = some (.inr (2, [.ref (ad (d + 1)), .ref (ad (d + 2)), cv, .int way, .int ce, .int ra, .int lc])) := by rw [hwL9s]; exact hd
    have hwL9s_1 : wL9s (d + 1) = some (.inl ((X.2 1), 12, .inr (.inl py))) := by rw [hwL9s]; exact hd1
    have hwL9s_2 : wL9s (d + 2) = some (.inl ((X.2 1), 12, .inr (.inl wt))) := by rw [hwL9s]; exact hd2
    have hwL9s_3 : wL9s b = some (.inr (1, [r0, r1, r2, .int mc, .int go, .int mk])) := by rw [hwL9s]; exact hb
    refine g_iload_n C d_D_refusalFor_2 rfl 2 rfl ?_
    refine g_bipush (v := 12) C d_D_refusalFor_3 (by decide) ?_
    refine g_icmp_ge 47 C d_D_refusalFor_5 (by decide) (fun c9s5 => ?_) (fun c9s5 => ?_)
    · exact absurd c9s5 (ge12 hiL9)
    refine g_aload_n C d_D_refusalFor_8 rfl 1 rfl ?_
    refine g_iload_n C d_D_refusalFor_9 rfl 2 rfl ?_
    refine g_callV 1 C (k_C_isGone _ X ad wL9s sz b r0 r1 r2 mc go mk (nI iL9) hwL9s_3) (gmem wd_260 rfl) (gmem wd_206 rfl) (gmem wd_207 rfl) (gmem wd_5 rfl) (gmem wd_208 rfl) ⟨by decide, by decide, by decide +kernel⟩ ⟨Nat.le_of_ble_eq_true rfl, Nat.le_of_ble_eq_true rfl⟩ hwL9s_3 rfl rfl rfl (Nat.le_of_ble_eq_true rfl) d_D_refusalFor_10 ⟨Nat.le_of_ble_eq_true rfl, Nat.le_of_ble_eq_true rfl⟩ ?_
    rintro v9 u9 s9 ⟨h9, hu9, hs9⟩; rw [h9, hu9, hs9]; clear h9 hu9 hs9 v9 u9 s9
    show GW Z _ _ _ ad wL9s sz [(0, .ref (ad d)), (1, .ref (ad b)), (2, .int (nI iL9))] 0 0 13 [.int (bI (gBit go (nI iL9)))]
    refine g_if_eq 41 C d_D_refusalFor_13 (by decide) (fun c9s13 => ?_) (fun c9s13 => ?_)
    · skip
      obtain ⟨x9s41, ex9s41⟩ : ∃ y : Int32, y = (nI iL9) + 1 := ⟨_, rfl⟩
      refine g_iinc (v := x9s41) C d_D_refusalFor_41 2 rfl (by rw [ex9s41]; rfl) [(2, .int x9s41), (0, .ref (ad d)), (1, .ref (ad b))] (by decide) rfl ?_
      refine g_goto 2 C d_D_refusalFor_44 (by decide) ?_
      refine g_fewer (lv' := [(0, .ref (ad d)), (1, .ref (ad b)), (2, .int x9s41)]) [1, 2, 0] rfl ?_
      refine GW_eq (u2 := u) (lv2 := [(0, .ref (ad d)), (1, .ref (ad b)), (2, .int (nI (iL9 + 1)))]) ?_ ?_ (KL9 (lt_s piL9 (fun hB => absurd hB.1 (by rw [bI_eq0.mp c9s13]; decide))))
      · first | (rw [hwL9s]; done) | (rw [hwL9s]; funext k; simp only [gup]; (repeat' split) <;> first | with_reducible rfl | (exfalso; omega))
      · first | rfl | simp only [ex9s41, nI_1, nI_0]
    · skip
      refine g_aload_n C d_D_refusalFor_16 rfl 0 rfl ?_
      refine g_get d 0 C hwL9s_0 rfl i_D (by decide) (gmem wd_33 rfl) rfl rfl d_D_refusalFor_17 ?_
      refine g_iload_n C d_D_refusalFor_20 rfl 2 rfl ?_
      refine g_lald (d + 1) 1 C hwL9s_1 rfl (vp_in_nI (by omega) (by decide)) d_D_refusalFor_21 ?_
      rw [show Int32.toNatClampNeg (nI iL9) = iL9 from nI_clamp (by omega)]
      refine g_lconst (v := 0) C d_D_refusalFor_22 (by decide) ?_
      refine g_lcmp C d_D_refusalFor_23 ?_
      refine g_if_gt 38 C d_D_refusalFor_24 (by decide) (fun c9s24 => ?_) (fun c9s24 => ?_)
      · rw [lg_cmp_gt] at c9s24
        refine g_bipush (v := (-4)) C d_D_refusalFor_38 (by decide) ?_
        exact g_iret C hR hret ⟨_, rfl, Or.inl ⟨⟨iL9, hiL9, bI_ne0.mp c9s13, (Or.inl c9s24)⟩, rfl⟩, (by first | (rw [hwL9s]; done) | (rw [hwL9s]; funext k; simp only [gup]; (repeat' split) <;> first | with_reducible rfl | (exfalso; omega))), rfl⟩ d_D_refusalFor_40
      · rw [lg_cmp_gt] at c9s24
        refine g_aload_n C d_D_refusalFor_27 rfl 0 rfl ?_
        refine g_get d 1 C hwL9s_0 rfl i_D (by decide) (gmem wd_35 rfl) rfl rfl d_D_refusalFor_28 ?_
        refine g_iload_n C d_D_refusalFor_31 rfl 2 rfl ?_
        refine g_lald (d + 2) 1 C hwL9s_2 rfl (vp_in_nI (by omega) (by decide)) d_D_refusalFor_32 ?_
        rw [show Int32.toNatClampNeg (nI iL9) = iL9 from nI_clamp (by omega)]
        refine g_lconst (v := 0) C d_D_refusalFor_33 (by decide) ?_
        refine g_lcmp C d_D_refusalFor_34 ?_
        refine g_if_le 41 C d_D_refusalFor_35 (by decide) (fun c9s35 => ?_) (fun c9s35 => ?_)
        · rw [lg_cmp_le] at c9s35
          obtain ⟨x9s41, ex9s41⟩ : ∃ y : Int32, y = (nI iL9) + 1 := ⟨_, rfl⟩
          refine g_iinc (v := x9s41) C d_D_refusalFor_41 2 rfl (by rw [ex9s41]; rfl) [(2, .int x9s41), (0, .ref (ad d)), (1, .ref (ad b))] (by decide) rfl ?_
          refine g_goto 2 C d_D_refusalFor_44 (by decide) ?_
          refine g_fewer (lv' := [(0, .ref (ad d)), (1, .ref (ad b)), (2, .int x9s41)]) [1, 2, 0] rfl ?_
          refine GW_eq (u2 := u) (lv2 := [(0, .ref (ad d)), (1, .ref (ad b)), (2, .int (nI (iL9 + 1)))]) ?_ ?_ (KL9 (lt_s piL9 (fun hB => hB.2.elim c9s24 (fun h9 => h9 c9s35))))
          · first | (rw [hwL9s]; done) | (rw [hwL9s]; funext k; simp only [gup]; (repeat' split) <;> first | with_reducible rfl | (exfalso; omega))
          · first | rfl | simp only [ex9s41, nI_1, nI_0]
        · rw [lg_cmp_le] at c9s35
          refine g_bipush (v := (-4)) C d_D_refusalFor_38 (by decide) ?_
          exact g_iret C hR hret ⟨_, rfl, Or.inl ⟨⟨iL9, hiL9, bI_ne0.mp c9s13, (Or.inr c9s35)⟩, rfl⟩, (by first | (rw [hwL9s]; done) | (rw [hwL9s]; funext k; simp only [gup]; (repeat' split) <;> first | with_reducible rfl | (exfalso; omega))), rfl⟩ d_D_refusalFor_40
  · skip
    show GW Z _ _ _ ad (u) _ [(0, .ref (ad d)), (1, .ref (ad b)), (2, .int (nI 12))] _ _ 2 []
    obtain ⟨wL9e, hwL9e⟩ : ∃ z, z = u := ⟨_, rfl⟩
    rw [← hwL9e]
    have hwL9e_0 : wL9e d = some (.inr (2, [.ref (ad (d + 1)), .ref (ad (d + 2)), cv, .int way, .int ce, .int ra, .int lc])) := by rw [hwL9e]; exact hd
    have hwL9e_1 : wL9e (d + 1) = some (.inl ((X.2 1), 12, .inr (.inl py))) := by rw [hwL9e]; exact hd1
    have hwL9e_2 : wL9e (d + 2) = some (.inl ((X.2 1), 12, .inr (.inl wt))) := by rw [hwL9e]; exact hd2
    have hwL9e_3 : wL9e b = some (.inr (1, [r0, r1, r2, .int mc, .int go, .int mk])) := by rw [hwL9e]; exact hb
    refine g_iload_n C d_D_refusalFor_2 rfl 2 rfl ?_
    refine g_bipush (v := 12) C d_D_refusalFor_3 (by decide) ?_
    refine g_icmp_ge 47 C d_D_refusalFor_5 (by decide) (fun c9e5 => ?_) (fun c9e5 => ?_)
    rotate_left
    · exact absurd (by decide) c9e5
    refine g_aload_n C d_D_refusalFor_47 rfl 0 rfl ?_
    refine g_get d 0 C hwL9e_0 rfl i_D (by decide) (gmem wd_33 rfl) rfl rfl d_D_refusalFor_48 ?_
    refine g_callSN 1 C (k_X_sumOf _ X ad wL9e sz (d + 1) py hwL9e_1) (gmem wd_263 rfl) (gmem wd_1 rfl) (List.mem_of_getElem? (i := 4) rfl) (gmem wd_262 rfl) ⟨by decide, by decide, by decide +kernel⟩ ⟨Nat.le_of_ble_eq_true rfl, Nat.le_of_ble_eq_true rfl⟩ rfl rfl (Nat.le_of_ble_eq_true rfl) d_D_refusalFor_51 ⟨Nat.le_of_ble_eq_true rfl, Nat.le_of_ble_eq_true rfl⟩ ?_
    rintro v9 u9 s9 ⟨h9, hu9, hs9⟩; rw [h9, hu9, hs9]; clear h9 hu9 hs9 v9 u9 s9
    show GW Z _ _ _ ad wL9e sz [(0, .ref (ad d)), (1, .ref (ad b)), (2, .int (nI 12))] 0 0 54 [.long (sumL py 12)]
    refine g_aload_n C d_D_refusalFor_54 rfl 0 rfl ?_
    refine g_get d 4 C hwL9e_0 rfl i_D (by decide) (gmem wd_41 rfl) rfl rfl d_D_refusalFor_55 ?_
    refine g_i2l C d_D_refusalFor_58 ?_
    refine g_lcmp C d_D_refusalFor_59 ?_
    refine g_if_eq 66 C d_D_refusalFor_60 (by decide) (fun c9e60 => ?_) (fun c9e60 => ?_)
    · rw [lg_cmp_eq] at c9e60
      refine g_aload_n C d_D_refusalFor_66 rfl 0 rfl ?_
      refine g_get d 1 C hwL9e_0 rfl i_D (by decide) (gmem wd_35 rfl) rfl rfl d_D_refusalFor_67 ?_
      refine g_callSN 1 C (k_X_sumOf _ X ad wL9e sz (d + 2) wt hwL9e_2) (gmem wd_263 rfl) (gmem wd_1 rfl) (List.mem_of_getElem? (i := 4) rfl) (gmem wd_262 rfl) ⟨by decide, by decide, by decide +kernel⟩ ⟨Nat.le_of_ble_eq_true rfl, Nat.le_of_ble_eq_true rfl⟩ rfl rfl (Nat.le_of_ble_eq_true rfl) d_D_refusalFor_70 ⟨Nat.le_of_ble_eq_true rfl, Nat.le_of_ble_eq_true rfl⟩ ?_
      rintro v9 u9 s9 ⟨h9, hu9, hs9⟩; rw [h9, hu9, hs9]; clear h9 hu9 hs9 v9 u9 s9
      show GW Z _ _ _ ad wL9e sz [(0, .ref (ad d)), (1, .ref (ad b)), (2, .int (nI 12))] 0 0 73 [.long (sumL wt 12)]
      refine g_topl (fun x9e73 ex9e73 => ?_)
      refine g_lstore_n C d_D_refusalFor_73 rfl [(2, .long x9e73), (0, .ref (ad d)), (1, .ref (ad b))] (by decide) rfl ?_
      refine g_lload_n C d_D_refusalFor_74 rfl 0 rfl ?_
      refine g_lconst (v := 0) C d_D_refusalFor_75 (by decide) ?_
      refine g_lcmp C d_D_refusalFor_76 ?_
      refine g_if_ne 83 C d_D_refusalFor_77 (by decide) (fun c9e77 => ?_) (fun c9e77 => ?_)
      · rw [lg_cmp_eq] at c9e77
        refine g_lload_n C d_D_refusalFor_83 rfl 0 rfl ?_
        refine g_aload_n C d_D_refusalFor_84 rfl 1 rfl ?_
        refine g_lload_n C d_D_refusalFor_85 rfl 0 rfl ?_
        refine g_callV 1 C (k_D_dueSum _ X ad wL9e sz d _ _ cv way ce ra lc x9e73 hwL9e_0) (gmem wd_264 rfl) (gmem wd_266 rfl) (gmem ws_2 rfl) (gmem wd_2 rfl) (gmem wd_267 rfl) ⟨by decide, by decide, by decide +kernel⟩ ⟨Nat.le_of_ble_eq_true rfl, Nat.le_of_ble_eq_true rfl⟩ hwL9e_0 rfl rfl rfl (Nat.le_of_ble_eq_true rfl) d_D_refusalFor_86 ⟨Nat.le_of_ble_eq_true rfl, Nat.le_of_ble_eq_true rfl⟩ ?_
        rintro v9 u9 s9 ⟨h9, hu9, hs9⟩; rw [h9, hu9, hs9]; clear h9 hu9 hs9 v9 u9 s9
        show GW Z _ _ _ ad wL9e sz [(2, .long x9e73), (0, .ref (ad d)), (1, .ref (ad b))] 0 0 89 [.long (dueS way ce x9e73), .long x9e73]
        refine g_lcmp C d_D_refusalFor_89 ?_
        refine g_if_ne 97 C d_D_refusalFor_90 (by decide) (fun c9e90 => ?_) (fun c9e90 => ?_)
        · rw [lg_cmp_eq] at c9e90
          refine g_bipush (v := (-7)) C d_D_refusalFor_97 (by decide) ?_
          exact g_iret C hR hret ⟨_, rfl, Or.inr ⟨piL9, by simp only [ex9e73] at c9e77 c9e90; rw [if_neg (not_not_intro c9e60), if_neg c9e77, if_pos c9e90]⟩, (by first | (rw [hwL9e]; done) | (rw [hwL9e]; funext k; simp only [gup]; (repeat' split) <;> first | with_reducible rfl | (exfalso; omega))), rfl⟩ d_D_refusalFor_99
        · rw [lg_cmp_eq] at c9e90
          refine g_iconst (v := 0) C d_D_refusalFor_93 (by decide) ?_
          refine g_goto 99 C d_D_refusalFor_94 (by decide) ?_
          exact g_iret C hR hret ⟨_, rfl, Or.inr ⟨piL9, by simp only [ex9e73] at c9e77 c9e90; rw [if_neg (not_not_intro c9e60), if_neg c9e77, if_neg (not_not_intro c9e90)]⟩, (by first | (rw [hwL9e]; done) | (rw [hwL9e]; funext k; simp only [gup]; (repeat' split) <;> first | with_reducible rfl | (exfalso; omega))), rfl⟩ d_D_refusalFor_99
      · rw [lg_cmp_eq] at c9e77
        refine g_bipush (v := (-6)) C d_D_refusalFor_80 (by decide) ?_
        exact g_iret C hR hret ⟨_, rfl, Or.inr ⟨piL9, by simp only [ex9e73] at c9e77; rw [if_neg (not_not_intro c9e60), if_pos c9e77]⟩, (by first | (rw [hwL9e]; done) | (rw [hwL9e]; funext k; simp only [gup]; (repeat' split) <;> first | with_reducible rfl | (exfalso; omega))), rfl⟩ d_D_refusalFor_82
    · rw [lg_cmp_eq] at c9e60
      refine g_bipush (v := (-5)) C d_D_refusalFor_63 (by decide) ?_
      exact g_iret C hR hret ⟨_, rfl, Or.inr ⟨piL9, by rw [if_pos c9e60]⟩, (by first | (rw [hwL9e]; done) | (rw [hwL9e]; funext k; simp only [gup]; (repeat' split) <;> first | with_reducible rfl | (exfalso; omega))), rfl⟩ d_D_refusalFor_65
