def cutA (a : Int64) (w : Nat → Int64) (s0 : Nat) (p : Nat → Int64) : Nat → Int64 := (handS w s0 (mapL p (cutG a w) 12) (wantS a (cutG a w) 12) 12).1
def cutB (a : Int64) (w : Nat → Int64) (s0 : Nat) (p : Nat → Int64) : Nat := (handS w s0 (mapL p (cutG a w) 12) (wantS a (cutG a w) 12) 12).2.2
theorem cutB_lt {a : Int64} {w : Nat → Int64} {s0 : Nat} {p : Nat → Int64} (h : s0 < 12) : cutB a w s0 p < 12 := handS_lt h 12

theorem k_X_cut2 (l : Launch) (X : gX) (ad : Nat → Nat) (u : gW) (sz : Nat) (a : Int64) (n q s0 : Nat) (w p : Nat → Int64) (hn : u n = some (.inl ((X.2 1), 12, .inr (.inl w)))) (hq : u q = some (.inl ((X.2 1), 12, .inr (.inl p)))) (hnq : n ≠ q) (hs0 : s0 < 12) : gMet l (EE X) y_X_cut c_X_cut 12 (some .int) ({ frames := 1, cells := 0, slots := 0, locals := 34 }) [.long a, .ref (ad n), .int (nI s0), .ref (ad q)] ad u sz (fun v u' sz' => v = some (.int (nI (cutB a w s0 p))) ∧ u' = gup u q (.inl ((X.2 1), 12, .inr (.inl (cutA a w s0 p)))) ∧ sz' = sz) := k_X_cut l X ad u sz a n q s0 w p hn hq hnq hs0

def totS (ce ra : Int32) : Int64 := ((ce.toInt64 * ra.toInt64) + 500000) / 1000000
def driG (t : Int64) (wt sh : Nat → Int64) : Nat → Int64 := fun j => 1000 * sh j - por (1000 * t) (wt j) (sumL wt 12)
set_option maxHeartbeats 4000000 in
set_option maxRecDepth 100000 in
/-- Draft.toBill -/
theorem k_D_toBill (l : Launch) (X : gX) (ad : Nat → Nat) (u : gW) (sz : Nat) (d b e mk : Nat) (py wt : Nat → Int64) (cv r0 r1 r2 : Value) (way ce ra lc mc go : Int32) (hd : u d = some (.inr (2, [.ref (ad (d + 1)), .ref (ad (d + 2)), cv, .int way, .int ce, .int ra, .int lc]))) (hd1 : u (d + 1) = some (.inl ((X.2 1), 12, .inr (.inl py)))) (hd2 : u (d + 2) = some (.inl ((X.2 1), 12, .inr (.inl wt)))) (hb : u b = some (.inr (1, [r0, r1, r2, .int mc, .int go, .int (nI mk)]))) (hmk : mk < 12) (hdb : d + 16 ≤ b) (hbe : b + 16 ≤ e) (hf0 : u e = none) (ha0 : ad e = sz) (hf1 : u (e + 1) = none) (ha1 : ad (e + 1) = sz + 1) (hf2 : u (e + 2) = none) (ha2 : ad (e + 2) = sz + 2) (hf3 : u (e + 3) = none) (ha3 : ad (e + 3) = sz + 3) : gMet l (EE X) y_D_toBill c_D_toBill 8 (some (.object "ExpenseClubs$Bill")) ({ frames := 2, cells := 4, slots := 42, locals := 65 }) [.ref (ad d), .ref (ad b)] ad u sz (fun v u' sz' => v = some (.ref (ad e)) ∧ u' = gup (gup (gup (gup (gup u e (.inr (0, [.ref (ad b), .long (totS ce ra), .ref (ad (e + 1)), .ref (ad (e + 2)), .ref (ad (e + 3)), .int 0]))) (e + 1) (.inl ((X.2 1), 12, .inr (.inl (cutA (totS ce ra) py 0 (fun _ => 0)))))) (e + 2) (.inl ((X.2 1), 12, .inr (.inl (cutA (totS ce ra) wt mk (fun _ => 0)))))) (e + 3) (.inl ((X.2 1), 12, .inr (.inl (mapL (fun _ => 0) (driG (totS ce ra) wt (cutA (totS ce ra) wt mk (fun _ => 0))) 12))))) b (.inr (1, [r0, r1, r2, .int mc, .int go, .int (nI (cutB (totS ce ra) wt mk (fun _ => 0)))])) ∧ sz' = sz + 4) := by
  refine gMet_of "ExpenseClubs$Draft" rfl (by decide) (Nat.le_of_ble_eq_true rfl) (lv := [(0, .ref (ad d)), (1, .ref (ad b))]) rfl (fun Z hZl C hR hret hname => ?_)
  refine g_new (ci := 0) (fs := [.null, .long 0, .null, .null, .null, .int 0]) e C hf0 ha0 rfl i_B t_B t_B_ok (gmem wd_274 rfl) (gmem wd_275 rfl) (gmem wd_8 rfl) (fun j hj => by rcases (show j = 0 ∨ j = 1 ∨ j = 2 ∨ j = 3 ∨ j = 4 ∨ j = 5 by omega) with rfl | rfl | rfl | rfl | rfl | rfl <;> rfl) (Nat.le_of_ble_eq_true rfl) (Nat.le_of_ble_eq_true rfl) d_D_toBill_0 ?_
  obtain ⟨u1, hu1⟩ : ∃ z, z = gup u e (.inr (0, [.null, .long 0, .null, .null, .null, .int 0])) := ⟨_, rfl⟩
  rw [← hu1]
  have hu1_0 : u1 d = some (.inr (2, [.ref (ad (d + 1)), .ref (ad (d + 2)), cv, .int way, .int ce, .int ra, .int lc])) := by rw [hu1, gup_ne (by omega)]; exact hd
  have hu1_1 : u1 (d + 1) = some (.inl ((X.2 1), 12, .inr (.inl py))) := by rw [hu1, gup_ne (by omega)]; exact hd1
  have hu1_2 : u1 (d + 2) = some (.inl ((X.2 1), 12, .inr (.inl wt))) := by rw [hu1, gup_ne (by omega)]; exact hd2
  have hu1_3 : u1 b = some (.inr (1, [r0, r1, r2, .int mc, .int go, .int (nI mk)])) := by rw [hu1, gup_ne (by omega)]; exact hb
  have hu1_4 : u1 e = some (.inr (0, [.null, .long 0, .null, .null, .null, .int 0])) := by rw [hu1]; exact gup_self _ _ _
  have hu1_f1 : u1 (e + 1) = none := by rw [hu1, gup_ne (by omega)]; exact hf1
  have hu1_f2 : u1 (e + 2) = none := by rw [hu1, gup_ne (by omega)]; exact hf2
  have hu1_f3 : u1 (e + 3) = none := by rw [hu1, gup_ne (by omega)]; exact hf3
  show GW Z _ _ _ ad u1 (sz + 1) [(0, .ref (ad d)), (1, .ref (ad b))] 1 6 3 [.ref (ad e)]
  refine g_dup C d_D_toBill_3 rfl ?_
  refine g_aload_n C d_D_toBill_4 rfl 1 rfl ?_
  refine g_aload_n C d_D_toBill_5 rfl 0 rfl ?_
  refine g_get d 4 C hu1_0 rfl i_D (by decide) (gmem wd_41 rfl) rfl rfl d_D_toBill_6 ?_
  refine g_i2l C d_D_toBill_9 ?_
  refine g_aload_n C d_D_toBill_10 rfl 0 rfl ?_
  refine g_get d 5 C hu1_0 rfl i_D (by decide) (gmem wd_42 rfl) rfl rfl d_D_toBill_11 ?_
  refine g_i2l C d_D_toBill_14 ?_
  refine g_lmul C d_D_toBill_15 ?_
  refine g_ldc2 C (gmem wd_276 rfl) d_D_toBill_16 ?_
  refine g_ladd C d_D_toBill_19 ?_
  refine g_ldc2 C (gmem wd_277 rfl) d_D_toBill_20 ?_
  refine g_ldiv C d_D_toBill_23 (by decide) ?_
  rw [show (((Int32.toInt64 ce) * (Int32.toInt64 ra)) + 500000) / 1000000 = totS ce ra from rfl]
  refine g_callI 2 C (k_B_init _ X ad u1 (sz + 1) e b (totS ce ra) hu1_4 hu1_f1 ha1 hu1_f2 ha2 hu1_f3 ha3) (gmem wd_280 rfl) (gmem wd_8 rfl) (gmem wd_278 rfl) (gmem wd_279 rfl) rfl ⟨by decide, by decide, by decide +kernel⟩ ⟨Nat.le_of_ble_eq_true rfl, Nat.le_of_ble_eq_true rfl⟩ rfl rfl (Nat.le_of_ble_eq_true rfl) d_D_toBill_24 ⟨Nat.le_of_ble_eq_true rfl, Nat.le_of_ble_eq_true rfl⟩ ?_
  rintro v9 ui2 s9 ⟨h9, hui2, hs9⟩; rw [h9, hs9]; clear h9 hs9 v9 s9
  have hui2_0 : ui2 d = some (.inr (2, [.ref (ad (d + 1)), .ref (ad (d + 2)), cv, .int way, .int ce, .int ra, .int lc])) := by rw [hui2, gup_ne (by omega), gup_ne (by omega), gup_ne (by omega), gup_ne (by omega)]; exact hu1_0
  have hui2_1 : ui2 (d + 1) = some (.inl ((X.2 1), 12, .inr (.inl py))) := by rw [hui2, gup_ne (by omega), gup_ne (by omega), gup_ne (by omega), gup_ne (by omega)]; exact hu1_1
  have hui2_2 : ui2 (d + 2) = some (.inl ((X.2 1), 12, .inr (.inl wt))) := by rw [hui2, gup_ne (by omega), gup_ne (by omega), gup_ne (by omega), gup_ne (by omega)]; exact hu1_2
  have hui2_3 : ui2 b = some (.inr (1, [r0, r1, r2, .int mc, .int go, .int (nI mk)])) := by rw [hui2, gup_ne (by omega), gup_ne (by omega), gup_ne (by omega), gup_ne (by omega)]; exact hu1_3
  have hui2_4 : ui2 e = some (.inr (0, [.ref (ad b), .long (totS ce ra), .ref (ad (e + 1)), .ref (ad (e + 2)), .ref (ad (e + 3)), .int 0])) := by rw [hui2, gup_ne (by omega), gup_ne (by omega), gup_ne (by omega), gup_self]
  have hui2_5 : ui2 (e + 1) = some (.inl ((X.2 1), 12, .inr (.inl (fun _ => 0)))) := by rw [hui2, gup_ne (by omega), gup_ne (by omega), gup_self]
  have hui2_6 : ui2 (e + 2) = some (.inl ((X.2 1), 12, .inr (.inl (fun _ => 0)))) := by rw [hui2, gup_ne (by omega), gup_self]
  have hui2_7 : ui2 (e + 3) = some (.inl ((X.2 1), 12, .inr (.inl (fun _ => 0)))) := by rw [hui2, gup_self]
  show GW Z _ _ _ ad ui2 (sz + 4) [(0, .ref (ad d)), (1, .ref (ad b))] 4 42 27 [.ref (ad e)]
  refine g_astore_n C d_D_toBill_27 rfl [(2, .ref (ad e)), (0, .ref (ad d)), (1, .ref (ad b))] (by decide) rfl ?_
  refine g_aload_n C d_D_toBill_28 rfl 0 rfl ?_
  refine g_get e 1 C hui2_4 rfl i_B (by decide) (gmem wd_285 rfl) rfl rfl d_D_toBill_29 ?_
  refine g_aload_n C d_D_toBill_32 rfl 1 rfl ?_
  refine g_get d 0 C hui2_0 rfl i_D (by decide) (gmem wd_33 rfl) rfl rfl d_D_toBill_33 ?_
  refine g_iconst (v := 0) C d_D_toBill_36 (by decide) ?_
  refine g_aload_n C d_D_toBill_37 rfl 0 rfl ?_
  refine g_get e 2 C hui2_4 rfl i_B (by decide) (gmem wd_289 rfl) rfl rfl d_D_toBill_38 ?_
  refine g_callSN 4 C (k_X_cut2 _ X ad ui2 (sz + 4) (totS ce ra) (d + 1) (e + 1) 0 py (fun _ => 0) hui2_1 hui2_5 (by omega) (by decide)) (gmem wd_315 rfl) (gmem wd_1 rfl) (List.mem_of_getElem? (i := 5) rfl) (gmem wd_314 rfl) ⟨by decide, by decide, by decide +kernel⟩ ⟨Nat.le_of_ble_eq_true rfl, Nat.le_of_ble_eq_true rfl⟩ rfl rfl (Nat.le_of_ble_eq_true rfl) d_D_toBill_41 ⟨Nat.le_of_ble_eq_true rfl, Nat.le_of_ble_eq_true rfl⟩ ?_
  rintro v9 ui3 s9 ⟨h9, hui3, hs9⟩; rw [h9, hs9]; clear h9 hs9 v9 s9
  have hui3_0 : ui3 d = some (.inr (2, [.ref (ad (d + 1)), .ref (ad (d + 2)), cv, .int way, .int ce, .int ra, .int lc])) := by rw [hui3, gup_ne (by omega)]; exact hui2_0
  have hui3_1 : ui3 (d + 1) = some (.inl ((X.2 1), 12, .inr (.inl py))) := by rw [hui3, gup_ne (by omega)]; exact hui2_1
  have hui3_2 : ui3 (d + 2) = some (.inl ((X.2 1), 12, .inr (.inl wt))) := by rw [hui3, gup_ne (by omega)]; exact hui2_2
  have hui3_3 : ui3 b = some (.inr (1, [r0, r1, r2, .int mc, .int go, .int (nI mk)])) := by rw [hui3, gup_ne (by omega)]; exact hui2_3
  have hui3_4 : ui3 e = some (.inr (0, [.ref (ad b), .long (totS ce ra), .ref (ad (e + 1)), .ref (ad (e + 2)), .ref (ad (e + 3)), .int 0])) := by rw [hui3, gup_ne (by omega)]; exact hui2_4
  have hui3_5 : ui3 (e + 1) = some (.inl ((X.2 1), 12, .inr (.inl (cutA (totS ce ra) py 0 (fun _ => 0))))) := by rw [hui3, gup_self]
  have hui3_6 : ui3 (e + 2) = some (.inl ((X.2 1), 12, .inr (.inl (fun _ => 0)))) := by rw [hui3, gup_ne (by omega)]; exact hui2_6
  have hui3_7 : ui3 (e + 3) = some (.inl ((X.2 1), 12, .inr (.inl (fun _ => 0)))) := by rw [hui3, gup_ne (by omega)]; exact hui2_7
  show GW Z _ _ _ ad ui3 (sz + 4) [(2, .ref (ad e)), (0, .ref (ad d)), (1, .ref (ad b))] 4 42 44 [.int (nI (cutB (totS ce ra) py 0 (fun _ => 0)))]
  refine g_pop C d_D_toBill_44 rfl ?_
  refine g_aload_n C d_D_toBill_45 rfl 2 rfl ?_
  refine g_aload_n C d_D_toBill_46 rfl 0 rfl ?_
  refine g_get e 1 C hui3_4 rfl i_B (by decide) (gmem wd_285 rfl) rfl rfl d_D_toBill_47 ?_
  refine g_aload_n C d_D_toBill_50 rfl 1 rfl ?_
  refine g_get d 1 C hui3_0 rfl i_D (by decide) (gmem wd_35 rfl) rfl rfl d_D_toBill_51 ?_
  refine g_aload_n C d_D_toBill_54 rfl 2 rfl ?_
  refine g_get b 5 C hui3_3 rfl i_C (by decide) (gmem wd_170 rfl) rfl rfl d_D_toBill_55 ?_
  refine g_aload_n C d_D_toBill_58 rfl 0 rfl ?_
  refine g_get e 3 C hui3_4 rfl i_B (by decide) (gmem wd_293 rfl) rfl rfl d_D_toBill_59 ?_
  refine g_callSN 4 C (k_X_cut2 _ X ad ui3 (sz + 4) (totS ce ra) (d + 2) (e + 2) mk wt (fun _ => 0) hui3_2 hui3_6 (by omega) hmk) (gmem wd_315 rfl) (gmem wd_1 rfl) (List.mem_of_getElem? (i := 5) rfl) (gmem wd_314 rfl) ⟨by decide, by decide, by decide +kernel⟩ ⟨Nat.le_of_ble_eq_true rfl, Nat.le_of_ble_eq_true rfl⟩ rfl rfl (Nat.le_of_ble_eq_true rfl) d_D_toBill_62 ⟨Nat.le_of_ble_eq_true rfl, Nat.le_of_ble_eq_true rfl⟩ ?_
  rintro v9 ui4 s9 ⟨h9, hui4, hs9⟩; rw [h9, hs9]; clear h9 hs9 v9 s9
  have hui4_0 : ui4 d = some (.inr (2, [.ref (ad (d + 1)), .ref (ad (d + 2)), cv, .int way, .int ce, .int ra, .int lc])) := by rw [hui4, gup_ne (by omega)]; exact hui3_0
  have hui4_1 : ui4 (d + 1) = some (.inl ((X.2 1), 12, .inr (.inl py))) := by rw [hui4, gup_ne (by omega)]; exact hui3_1
  have hui4_2 : ui4 (d + 2) = some (.inl ((X.2 1), 12, .inr (.inl wt))) := by rw [hui4, gup_ne (by omega)]; exact hui3_2
  have hui4_3 : ui4 b = some (.inr (1, [r0, r1, r2, .int mc, .int go, .int (nI mk)])) := by rw [hui4, gup_ne (by omega)]; exact hui3_3
  have hui4_4 : ui4 e = some (.inr (0, [.ref (ad b), .long (totS ce ra), .ref (ad (e + 1)), .ref (ad (e + 2)), .ref (ad (e + 3)), .int 0])) := by rw [hui4, gup_ne (by omega)]; exact hui3_4
  have hui4_5 : ui4 (e + 1) = some (.inl ((X.2 1), 12, .inr (.inl (cutA (totS ce ra) py 0 (fun _ => 0))))) := by rw [hui4, gup_ne (by omega)]; exact hui3_5
  have hui4_6 : ui4 (e + 2) = some (.inl ((X.2 1), 12, .inr (.inl (cutA (totS ce ra) wt mk (fun _ => 0))))) := by rw [hui4, gup_self]
  have hui4_7 : ui4 (e + 3) = some (.inl ((X.2 1), 12, .inr (.inl (fun _ => 0)))) := by rw [hui4, gup_ne (by omega)]; exact hui3_7
  show GW Z _ _ _ ad ui4 (sz + 4) [(2, .ref (ad e)), (0, .ref (ad d)), (1, .ref (ad b))] 4 42 65 [.int (nI (cutB (totS ce ra) wt mk (fun _ => 0))), .ref (ad b)]
  refine g_put b 5 C hui4_3 rfl i_C t_C t_C_ok n_C (by decide) (gmem wd_170 rfl) rfl rfl rfl rfl (Nat.le_of_ble_eq_true rfl) d_D_toBill_65 ?_
  show GW Z _ _ _ ad (gup ui4 b (.inr (1, [r0, r1, r2, .int mc, .int go, .int (nI (cutB (totS ce ra) wt mk (fun _ => 0)))]))) _ _ _ _ _ _
  obtain ⟨u5, hu5⟩ : ∃ z, z = gup ui4 b (.inr (1, [r0, r1, r2, .int mc, .int go, .int (nI (cutB (totS ce ra) wt mk (fun _ => 0)))])) := ⟨_, rfl⟩
  rw [← hu5]
  have hu5_0 : u5 d = some (.inr (2, [.ref (ad (d + 1)), .ref (ad (d + 2)), cv, .int way, .int ce, .int ra, .int lc])) := by rw [hu5, gup_ne (by omega)]; exact hui4_0
  have hu5_1 : u5 (d + 1) = some (.inl ((X.2 1), 12, .inr (.inl py))) := by rw [hu5, gup_ne (by omega)]; exact hui4_1
  have hu5_2 : u5 (d + 2) = some (.inl ((X.2 1), 12, .inr (.inl wt))) := by rw [hu5, gup_ne (by omega)]; exact hui4_2
  have hu5_3 : u5 b = some (.inr (1, [r0, r1, r2, .int mc, .int go, .int (nI (cutB (totS ce ra) wt mk (fun _ => 0)))])) := by rw [hu5]; exact gup_self _ _ _
  have hu5_4 : u5 e = some (.inr (0, [.ref (ad b), .long (totS ce ra), .ref (ad (e + 1)), .ref (ad (e + 2)), .ref (ad (e + 3)), .int 0])) := by rw [hu5, gup_ne (by omega)]; exact hui4_4
  have hu5_5 : u5 (e + 1) = some (.inl ((X.2 1), 12, .inr (.inl (cutA (totS ce ra) py 0 (fun _ => 0))))) := by rw [hu5, gup_ne (by omega)]; exact hui4_5
  have hu5_6 : u5 (e + 2) = some (.inl ((X.2 1), 12, .inr (.inl (cutA (totS ce ra) wt mk (fun _ => 0))))) := by rw [hu5, gup_ne (by omega)]; exact hui4_6
  have hu5_7 : u5 (e + 3) = some (.inl ((X.2 1), 12, .inr (.inl (fun _ => 0)))) := by rw [hu5, gup_ne (by omega)]; exact hui4_7
  refine g_aload_n C d_D_toBill_68 rfl 1 rfl ?_
  refine g_get d 1 C hu5_0 rfl i_D (by decide) (gmem wd_35 rfl) rfl rfl d_D_toBill_69 ?_
  refine g_callSN 1 C (k_X_sumOf _ X ad u5 (sz + 4) (d + 2) wt hu5_2) (gmem wd_263 rfl) (gmem wd_1 rfl) (List.mem_of_getElem? (i := 4) rfl) (gmem wd_262 rfl) ⟨by decide, by decide, by decide +kernel⟩ ⟨Nat.le_of_ble_eq_true rfl, Nat.le_of_ble_eq_true rfl⟩ rfl rfl (Nat.le_of_ble_eq_true rfl) d_D_toBill_72 ⟨Nat.le_of_ble_eq_true rfl, Nat.le_of_ble_eq_true rfl⟩ ?_
  rintro v9 u9 s9 ⟨h9, hu9, hs9⟩; rw [h9, hu9, hs9]; clear h9 hu9 hs9 v9 u9 s9
  show GW Z _ _ _ ad u5 (sz + 4) [(2, .ref (ad e)), (0, .ref (ad d)), (1, .ref (ad b))] 4 42 75 [.long (sumL wt 12)]
  refine g_topl (fun x75 ex75 => ?_)
  refine g_lstore_n C d_D_toBill_75 rfl [(3, .long x75), (2, .ref (ad e)), (0, .ref (ad d)), (1, .ref (ad b))] (by decide) rfl ?_
  refine g_iconst (v := 0) C d_D_toBill_76 (by decide) ?_
  refine g_istore C d_D_toBill_77 [(5, .int 0), (3, .long x75), (2, .ref (ad e)), (0, .ref (ad d)), (1, .ref (ad b))] (by decide) rfl ?_
  refine g_fewer (lv' := [(0, .ref (ad d)), (2, .ref (ad e)), (3, .long x75), (5, .int 0)]) [3, 2, 1, 0] rfl ?_
  refine GW_eq (u2 := gup u5 (e + 3) (.inl ((X.2 1), 12, .inr (.inl (mapL (fun _ => 0) (driG (totS ce ra) wt (cutA (totS ce ra) wt mk (fun _ => 0))) 0))))) (lv2 := [(0, .ref (ad d)), (2, .ref (ad e)), (3, .long (sumL wt 12)), (5, .int (nI 0))]) (by rw [mapL_0, gup_id hu5_7]) (by simp only [ex75]; rfl) ?_
  refine g_loop 12 (fun iL10 => True) (fun iL10 => gup u5 (e + 3) (.inl ((X.2 1), 12, .inr (.inl (mapL (fun _ => 0) (driG (totS ce ra) wt (cutA (totS ce ra) wt mk (fun _ => 0))) iL10))))) (fun iL10 => [(0, .ref (ad d)), (2, .ref (ad e)), (3, .long (sumL wt 12)), (5, .int (nI iL10))]) (fun iL10 hiL10 piL10 KL10 => ?_) (fun piL10 => ?_) 0 (by omega) trivial
  · skip
    show GW Z _ _ _ ad (gup u5 (e + 3) (.inl ((X.2 1), 12, .inr (.inl (mapL (fun _ => 0) (driG (totS ce ra) wt (cutA (totS ce ra) wt mk (fun _ => 0))) iL10))))) _ [(0, .ref (ad d)), (2, .ref (ad e)), (3, .long (sumL wt 12)), (5, .int (nI iL10))] _ _ 79 []
    obtain ⟨wL10s, hwL10s⟩ : ∃ z, z = gup u5 (e + 3) (.inl ((X.2 1), 12, .inr (.inl (mapL (fun _ => 0) (driG (totS ce ra) wt (cutA (totS ce ra) wt mk (fun _ => 0))) iL10)))) := ⟨_, rfl⟩
    rw [← hwL10s]
    have hwL10s_0 : wL10s d = some (.inr (2, [.ref (ad (d + 1)), .ref (ad (d + 2)), cv, .int way, .int ce, .int ra, .int lc])) := by rw [hwL10s, gup_ne (by omega)]; exact hu5_0
    have hwL10s_1 : wL10s (d + 1) = some (.inl ((X.2 1), 12, .inr (.inl py))) := by rw [hwL10s, gup_ne (by omega)]; exact hu5_1
    have hwL10s_2 : wL10s (d + 2) = some (.inl ((X.2 1), 12, .inr (.inl wt))) := by rw [hwL10s, gup_ne (by omega)]; exact hu5_2
    have hwL10s_3 : wL10s b = some (.inr (1, [r0, r1, r2, .int mc, .int go, .int (nI (cutB (totS ce ra) wt mk (fun _ => 0)))])) := by rw [hwL10s, gup_ne (by omega)]; exact hu5_3
    have hwL10s_4 : wL10s e = some (.inr (0, [.ref (ad b), .long (totS ce ra), .ref (ad (e + 1)), .ref (ad (e + 2)), .ref (ad (e + 3)), .int 0])) := by rw [hwL10s, gup_ne (by omega)]; exact hu5_4
    have hwL10s_5 : wL10s (e + 1) = some (.inl ((X.2 1), 12, .inr (.inl (cutA (totS ce ra) py 0 (fun _ => 0))))) := by rw [hwL10s, gup_ne (by omega)]; exact hu5_5
    have hwL10s_6 : wL10s (e + 2) = some (.inl ((X.2 1), 12, .inr (.inl (cutA (totS ce ra) wt mk (fun _ => 0))))) := by rw [hwL10s, gup_ne (by omega)]; exact hu5_6
    have hwL10s_7 : wL10s (e + 3) = some (.inl ((X.2 1), 12, .inr (.inl (mapL (fun _ => 0) (driG (totS ce ra) wt (cutA (totS ce ra) wt mk (fun _ => 0))) iL10)))) := by rw [hwL10s, gup_self]
    refine g_iload C d_D_toBill_79 3 rfl ?_
    refine g_bipush (v := 12) C d_D_toBill_81 (by decide) ?_
    refine g_icmp_ge 134 C d_D_toBill_83 (by decide) (fun c10s83 => ?_) (fun c10s83 => ?_)
    · exact absurd c10s83 (ge12 hiL10)
    refine g_ldc2 C (gmem wd_321 rfl) d_D_toBill_86 ?_
    refine g_aload_n C d_D_toBill_89 rfl 1 rfl ?_
    refine g_get e 1 C hwL10s_4 rfl i_B (by decide) (gmem wd_285 rfl) rfl rfl d_D_toBill_90 ?_
    refine g_lmul C d_D_toBill_93 ?_
    refine g_aload_n C d_D_toBill_94 rfl 0 rfl ?_
    refine g_get d 1 C hwL10s_0 rfl i_D (by decide) (gmem wd_35 rfl) rfl rfl d_D_toBill_95 ?_
    refine g_iload C d_D_toBill_98 3 rfl ?_
    refine g_lald (d + 2) 1 C hwL10s_2 rfl (vp_in_nI (by omega) (by decide)) d_D_toBill_100 ?_
    rw [show Int32.toNatClampNeg (nI iL10) = iL10 from nI_clamp (by omega)]
    refine g_lload_n C d_D_toBill_101 rfl 2 rfl ?_
    refine g_callSN 3 C (k_X_portion _ X ad wL10s (sz + 4) (1000 * (totS ce ra)) (wt iL10) (sumL wt 12)) (gmem wd_319 rfl) (gmem wd_1 rfl) (List.mem_of_getElem? (i := 6) rfl) (gmem wd_318 rfl) ⟨by decide, by decide, by decide +kernel⟩ ⟨Nat.le_of_ble_eq_true rfl, Nat.le_of_ble_eq_true rfl⟩ rfl rfl (Nat.le_of_ble_eq_true rfl) d_D_toBill_102 ⟨Nat.le_of_ble_eq_true rfl, Nat.le_of_ble_eq_true rfl⟩ ?_
    rintro v9 u9 s9 ⟨h9, hu9, hs9⟩; rw [h9, hu9, hs9]; clear h9 hu9 hs9 v9 u9 s9
    show GW Z _ _ _ ad wL10s (sz + 4) [(0, .ref (ad d)), (2, .ref (ad e)), (3, .long (sumL wt 12)), (5, .int (nI iL10))] 4 42 105 [.long (por (1000 * (totS ce ra)) (wt iL10) (sumL wt 12))]
    refine g_topl (fun x10s105 ex10s105 => ?_)
    refine g_lstore C d_D_toBill_105 [(6, .long x10s105), (0, .ref (ad d)), (2, .ref (ad e)), (3, .long (sumL wt 12)), (5, .int (nI iL10))] (by decide) rfl ?_
    refine g_aload_n C d_D_toBill_107 rfl 2 rfl ?_
    refine g_get e 4 C hwL10s_4 rfl i_B (by decide) (gmem wd_297 rfl) rfl rfl d_D_toBill_108 ?_
    refine g_iload C d_D_toBill_111 4 rfl ?_
    refine g_ldc2 C (gmem wd_321 rfl) d_D_toBill_113 ?_
    refine g_aload_n C d_D_toBill_116 rfl 2 rfl ?_
    refine g_get e 3 C hwL10s_4 rfl i_B (by decide) (gmem wd_293 rfl) rfl rfl d_D_toBill_117 ?_
    refine g_iload C d_D_toBill_120 4 rfl ?_
    refine g_lald (e + 2) 1 C hwL10s_6 rfl (vp_in_nI (by omega) (by decide)) d_D_toBill_122 ?_
    rw [show Int32.toNatClampNeg (nI iL10) = iL10 from nI_clamp (by omega)]
    refine g_lmul C d_D_toBill_123 ?_
    refine g_lload C d_D_toBill_124 0 rfl ?_
    refine g_lsub C d_D_toBill_126 ?_
    refine g_topl (fun x10s127 ex10s127 => ?_)
    refine g_last (e + 3) 1 C hwL10s_7 rfl (vp_in_nI (by omega) (by decide)) d_D_toBill_127 ?_
    rw [show Int32.toNatClampNeg (nI iL10) = iL10 from nI_clamp (by omega)]
    obtain ⟨u10s6, hu10s6⟩ : ∃ z, z = gup wL10s (e + 3) (.inl ((X.2 1), 12, .inr (.inl (vp_updL (mapL (fun _ => 0) (driG (totS ce ra) wt (cutA (totS ce ra) wt mk (fun _ => 0))) iL10) iL10 x10s127)))) := ⟨_, rfl⟩
    rw [← hu10s6]
    have hu10s6_0 : u10s6 d = some (.inr (2, [.ref (ad (d + 1)), .ref (ad (d + 2)), cv, .int way, .int ce, .int ra, .int lc])) := by rw [hu10s6, gup_ne (by omega)]; exact hwL10s_0
    have hu10s6_1 : u10s6 (d + 1) = some (.inl ((X.2 1), 12, .inr (.inl py))) := by rw [hu10s6, gup_ne (by omega)]; exact hwL10s_1
    have hu10s6_2 : u10s6 (d + 2) = some (.inl ((X.2 1), 12, .inr (.inl wt))) := by rw [hu10s6, gup_ne (by omega)]; exact hwL10s_2
    have hu10s6_3 : u10s6 b = some (.inr (1, [r0, r1, r2, .int mc, .int go, .int (nI (cutB (totS ce ra) wt mk (fun _ => 0)))])) := by rw [hu10s6, gup_ne (by omega)]; exact hwL10s_3
    have hu10s6_4 : u10s6 e = some (.inr (0, [.ref (ad b), .long (totS ce ra), .ref (ad (e + 1)), .ref (ad (e + 2)), .ref (ad (e + 3)), .int 0])) := by rw [hu10s6, gup_ne (by omega)]; exact hwL10s_4
    have hu10s6_5 : u10s6 (e + 1) = some (.inl ((X.2 1), 12, .inr (.inl (cutA (totS ce ra) py 0 (fun _ => 0))))) := by rw [hu10s6, gup_ne (by omega)]; exact hwL10s_5
    have hu10s6_6 : u10s6 (e + 2) = some (.inl ((X.2 1), 12, .inr (.inl (cutA (totS ce ra) wt mk (fun _ => 0))))) := by rw [hu10s6, gup_ne (by omega)]; exact hwL10s_6
    have hu10s6_7 : u10s6 (e + 3) = some (.inl ((X.2 1), 12, .inr (.inl (vp_updL (mapL (fun _ => 0) (driG (totS ce ra) wt (cutA (totS ce ra) wt mk (fun _ => 0))) iL10) iL10 x10s127)))) := by rw [hu10s6]; exact gup_self _ _ _
    obtain ⟨x10s128, ex10s128⟩ : ∃ y : Int32, y = (nI iL10) + 1 := ⟨_, rfl⟩
    refine g_iinc (v := x10s128) C d_D_toBill_128 4 rfl (by rw [ex10s128]; rfl) [(5, .int x10s128), (6, .long x10s105), (0, .ref (ad d)), (2, .ref (ad e)), (3, .long (sumL wt 12))] (by decide) rfl ?_
    refine g_goto 79 C d_D_toBill_131 (by decide) ?_
    refine g_fewer (lv' := [(0, .ref (ad d)), (2, .ref (ad e)), (3, .long (sumL wt 12)), (5, .int x10s128)]) [2, 3, 4, 0] rfl ?_
    refine GW_eq (u2 := gup u5 (e + 3) (.inl ((X.2 1), 12, .inr (.inl (mapL (fun _ => 0) (driG (totS ce ra) wt (cutA (totS ce ra) wt mk (fun _ => 0))) (iL10 + 1)))))) (lv2 := [(0, .ref (ad d)), (2, .ref (ad e)), (3, .long (sumL wt 12)), (5, .int (nI (iL10 + 1)))]) ?_ ?_ (KL10 trivial)
    · first | (rw [hu10s6, hwL10s]; done) | (rw [hu10s6, hwL10s]; simp only [ex10s105, ex10s127, ex10s128]; done) | (rw [hu10s6, hwL10s]; simp only [ex10s105, ex10s127, ex10s128]; rw [mapL_s (i := iL10) (x := 1000 * cutA (totS ce ra) wt mk (fun _ => 0) iL10 - por (1000 * totS ce ra) (wt iL10) (sumL wt 12)) (g := driG (totS ce ra) wt (cutA (totS ce ra) wt mk (fun _ => 0))) rfl]; done) | (rw [hu10s6, hwL10s]; simp only [ex10s105, ex10s127, ex10s128]; rw [mapL_s (i := iL10) (x := 1000 * cutA (totS ce ra) wt mk (fun _ => 0) iL10 - por (1000 * totS ce ra) (wt iL10) (sumL wt 12)) (g := driG (totS ce ra) wt (cutA (totS ce ra) wt mk (fun _ => 0))) rfl]; funext k; simp only [gup]; (repeat' split) <;> first | with_reducible rfl | (exfalso; omega))
    · first | rfl | simp only [ex10s105, ex10s127, ex10s128, nI_1, nI_0]
  · skip
    show GW Z _ _ _ ad (gup u5 (e + 3) (.inl ((X.2 1), 12, .inr (.inl (mapL (fun _ => 0) (driG (totS ce ra) wt (cutA (totS ce ra) wt mk (fun _ => 0))) 12))))) _ [(0, .ref (ad d)), (2, .ref (ad e)), (3, .long (sumL wt 12)), (5, .int (nI 12))] _ _ 79 []
    obtain ⟨wL10e, hwL10e⟩ : ∃ z, z = gup u5 (e + 3) (.inl ((X.2 1), 12, .inr (.inl (mapL (fun _ => 0) (driG (totS ce ra) wt (cutA (totS ce ra) wt mk (fun _ => 0))) 12)))) := ⟨_, rfl⟩
    rw [← hwL10e]
    have hwL10e_0 : wL10e d = some (.inr (2, [.ref (ad (d + 1)), .ref (ad (d + 2)), cv, .int way, .int ce, .int ra, .int lc])) := by rw [hwL10e, gup_ne (by omega)]; exact hu5_0
    have hwL10e_1 : wL10e (d + 1) = some (.inl ((X.2 1), 12, .inr (.inl py))) := by rw [hwL10e, gup_ne (by omega)]; exact hu5_1
    have hwL10e_2 : wL10e (d + 2) = some (.inl ((X.2 1), 12, .inr (.inl wt))) := by rw [hwL10e, gup_ne (by omega)]; exact hu5_2
    have hwL10e_3 : wL10e b = some (.inr (1, [r0, r1, r2, .int mc, .int go, .int (nI (cutB (totS ce ra) wt mk (fun _ => 0)))])) := by rw [hwL10e, gup_ne (by omega)]; exact hu5_3
    have hwL10e_4 : wL10e e = some (.inr (0, [.ref (ad b), .long (totS ce ra), .ref (ad (e + 1)), .ref (ad (e + 2)), .ref (ad (e + 3)), .int 0])) := by rw [hwL10e, gup_ne (by omega)]; exact hu5_4
    have hwL10e_5 : wL10e (e + 1) = some (.inl ((X.2 1), 12, .inr (.inl (cutA (totS ce ra) py 0 (fun _ => 0))))) := by rw [hwL10e, gup_ne (by omega)]; exact hu5_5
    have hwL10e_6 : wL10e (e + 2) = some (.inl ((X.2 1), 12, .inr (.inl (cutA (totS ce ra) wt mk (fun _ => 0))))) := by rw [hwL10e, gup_ne (by omega)]; exact hu5_6
    have hwL10e_7 : wL10e (e + 3) = some (.inl ((X.2 1), 12, .inr (.inl (mapL (fun _ => 0) (driG (totS ce ra) wt (cutA (totS ce ra) wt mk (fun _ => 0))) 12)))) := by rw [hwL10e, gup_self]
    refine g_iload C d_D_toBill_79 3 rfl ?_
    refine g_bipush (v := 12) C d_D_toBill_81 (by decide) ?_
    refine g_icmp_ge 134 C d_D_toBill_83 (by decide) (fun c10e83 => ?_) (fun c10e83 => ?_)
    rotate_left
    · exact absurd (by decide) c10e83
    refine g_aload_n C d_D_toBill_134 rfl 1 rfl ?_
    have hfin10e7 : wL10e = gup (gup (gup (gup (gup u e (.inr (0, [.ref (ad b), .long (totS ce ra), .ref (ad (e + 1)), .ref (ad (e + 2)), .ref (ad (e + 3)), .int 0]))) (e + 1) (.inl ((X.2 1), 12, .inr (.inl (cutA (totS ce ra) py 0 (fun _ => 0)))))) (e + 2) (.inl ((X.2 1), 12, .inr (.inl (cutA (totS ce ra) wt mk (fun _ => 0)))))) (e + 3) (.inl ((X.2 1), 12, .inr (.inl (mapL (fun _ => 0) (driG (totS ce ra) wt (cutA (totS ce ra) wt mk (fun _ => 0))) 12))))) b (.inr (1, [r0, r1, r2, .int mc, .int go, .int (nI (cutB (totS ce ra) wt mk (fun _ => 0)))])) := by
      funext k
      by_cases hk0 : k = e
      · rw [hk0, hwL10e_4, gup_ne (by omega), gup_ne (by omega), gup_ne (by omega), gup_ne (by omega), gup_self]
      by_cases hk1 : k = e + 1
      · rw [hk1, hwL10e_5, gup_ne (by omega), gup_ne (by omega), gup_ne (by omega), gup_self]
      by_cases hk2 : k = e + 2
      · rw [hk2, hwL10e_6, gup_ne (by omega), gup_ne (by omega), gup_self]
      by_cases hk3 : k = e + 3
      · rw [hk3, hwL10e_7, gup_ne (by omega), gup_self]
      by_cases hk4 : k = b
      · rw [hk4, hwL10e_3, gup_self]
      rw [hwL10e, gup_ne hk3]
      rw [hu5, gup_ne hk4]
      rw [hui4, gup_ne hk2]
      rw [hui3, gup_ne hk1]
      rw [hui2, gup_ne hk3, gup_ne hk2, gup_ne hk1, gup_ne hk0]
      rw [hu1, gup_ne hk0]
      rw [gup_ne hk4, gup_ne hk3, gup_ne hk2, gup_ne hk1, gup_ne hk0]
    exact g_aret C hR hret (Or.inl ⟨_, rfl⟩) (Or.inr ⟨_, rfl⟩) ⟨rfl, hfin10e7, rfl⟩ d_D_toBill_135
