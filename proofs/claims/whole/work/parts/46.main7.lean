set_option maxHeartbeats 4000000 in
set_option maxRecDepth 100000 in
theorem k_X_club (l : Launch) (X : gX) (ad : Nat → Nat) (u : gW) (sz : Nat) (x nC nB : Nat) (hx : u x = some (.inr (5, [.ref (ad (x + 1)), .ref (ad (x + 2)), .ref (ad (x + 3)), .ref (ad (x + 6)), .int (nI nC), .int (nI nB)]))) (hx1 : u (x + 1) = some (.inl ((X.2 3), 4, .inr (.inr (.inr (.inr (cArr ad x nC))))))) (hn : nC ≤ 4) (hf0 : u (x + 16 * nC + 32) = none) (ha0 : ad (x + 16 * nC + 32) = sz) (hf1 : u (x + 16 * nC + 32 + 1) = none) (ha1 : ad (x + 16 * nC + 32 + 1) = sz + 1) (hf2 : u (x + 16 * nC + 32 + 2) = none) (ha2 : ad (x + 16 * nC + 32 + 2) = sz + 2) (hf3 : u (x + 16 * nC + 32 + 3) = none) (ha3 : ad (x + 16 * nC + 32 + 3) = sz + 3) (hf4 : u (x + 16 * nC + 32 + 3 + 1) = none) (ha4 : ad (x + 16 * nC + 32 + 3 + 1) = sz + 4) (hf5 : u (x + 16 * nC + 32 + 3 + 2) = none) (ha5 : ad (x + 16 * nC + 32 + 3 + 2) = sz + 5) (hf6 : u (x + 16 * nC + 32 + 3 + 3) = none) (ha6 : ad (x + 16 * nC + 32 + 3 + 3) = sz + 6) (hf7 : u (x + 16 * nC + 32 + 3 + 4) = none) (ha7 : ad (x + 16 * nC + 32 + 3 + 4) = sz + 7) (hf8 : u (x + 16 * nC + 32 + 3 + 5) = none) (ha8 : ad (x + 16 * nC + 32 + 3 + 5) = sz + 8) : gMet l (EE X) y_X_club c_X_club 1 (some .int) ({ frames := 3, cells := 9, slots := 99, locals := 60 }) [.ref (ad x)] ad u sz (fun v u' sz' => (¬ nI nC < 4 ∧ v = some (.int (-1)) ∧ u' = u ∧ sz' = sz) ∨ (nI nC < 4 ∧ v = some (.int (nI (nC + 1) - 1)) ∧ u' = gup (gup (gup (gup (gup (gup (gup (gup (gup (gup (gup u x (.inr (5, [.ref (ad (x + 1)), .ref (ad (x + 2)), .ref (ad (x + 3)), .ref (ad (x + 6)), .int (nI (nC + 1)), .int (nI nB)]))) (x + 1) (.inl ((X.2 3), 4, .inr (.inr (.inr (.inr (cArr ad x (nC + 1)))))))) (x + 16 * nC + 32) (.inr (1, [.ref (ad (x + 16 * nC + 32 + 1)), .ref (ad (x + 16 * nC + 32 + 2)), .ref (ad (x + 16 * nC + 32 + 3)), .int 0, .int 0, .int 0]))) (x + 16 * nC + 32 + 1) (.inl ((X.2 1), 12, .inr (.inl (fun _ => 0))))) (x + 16 * nC + 32 + 2) (.inl ((X.2 1), 12, .inr (.inl (fun _ => 0))))) (x + 16 * nC + 32 + 3) (.inr (4, [.ref (ad (x + 16 * nC + 32 + 3 + 1)), .ref (ad (x + 16 * nC + 32 + 3 + 2)), .ref (ad (x + 16 * nC + 32 + 3 + 3)), .ref (ad (x + 16 * nC + 32 + 3 + 4)), .ref (ad (x + 16 * nC + 32 + 3 + 5)), .int 0, .int 0, .int 0, .int 0]))) (x + 16 * nC + 32 + 3 + 1) (.inl ((X.2 0), 12, .inl (fun _ => 0)))) (x + 16 * nC + 32 + 3 + 2) (.inl ((X.2 0), 12, .inl (fun _ => 0)))) (x + 16 * nC + 32 + 3 + 3) (.inl ((X.2 0), 12, .inl (fun _ => 0)))) (x + 16 * nC + 32 + 3 + 4) (.inl ((X.2 1), 12, .inr (.inl (fun _ => 0))))) (x + 16 * nC + 32 + 3 + 5) (.inl ((X.2 2), 12, .inl (fun _ => 0))) ∧ sz' = sz + 9)) := by
  refine gMet_of "ExpenseClubs" rfl (by decide) (Nat.le_of_ble_eq_true rfl) (lv := [(0, .ref (ad x))]) rfl (fun Z hZl C hR hret hname => ?_)
  refine g_aload_n C d_X_club_0 rfl 0 rfl ?_
  refine g_get x 4 C hx rfl i_X (by decide) (gmem wd_85 rfl) rfl rfl d_X_club_1 ?_
  refine g_iconst (v := 4) C d_X_club_4 (by decide) ?_
  refine g_icmp_lt 10 C d_X_club_5 (by decide) (fun c5 => ?_) (fun c5 => ?_)
  · skip
    have hc4 : nC < 4 := (nI_ltI (by omega) (by decide)).mp c5
    refine g_aload_n C d_X_club_10 rfl 0 rfl ?_
    refine g_get x 0 C hx rfl i_X (by decide) (gmem wd_81 rfl) rfl rfl d_X_club_11 ?_
    refine g_aload_n C d_X_club_14 rfl 0 rfl ?_
    refine g_get x 4 C hx rfl i_X (by decide) (gmem wd_85 rfl) rfl rfl d_X_club_15 ?_
    refine g_new (ci := 1) (fs := [.null, .null, .null, .int 0, .int 0, .int 0]) (x + 16 * nC + 32) C hf0 ha0 rfl i_C t_C t_C_ok (gmem wd_23 rfl) (gmem wd_104 rfl) (gmem wd_5 rfl) (fun j hj => by rcases (show j = 0 ∨ j = 1 ∨ j = 2 ∨ j = 3 ∨ j = 4 ∨ j = 5 by omega) with rfl | rfl | rfl | rfl | rfl | rfl <;> rfl) (Nat.le_of_ble_eq_true rfl) (Nat.le_of_ble_eq_true rfl) d_X_club_18 ?_
    obtain ⟨u1, hu1⟩ : ∃ z, z = gup u (x + 16 * nC + 32) (.inr (1, [.null, .null, .null, .int 0, .int 0, .int 0])) := ⟨_, rfl⟩
    rw [← hu1]
    have hu1_0 : u1 x = some (.inr (5, [.ref (ad (x + 1)), .ref (ad (x + 2)), .ref (ad (x + 3)), .ref (ad (x + 6)), .int (nI nC), .int (nI nB)])) := by rw [hu1, gup_ne (by omega)]; exact hx
    have hu1_1 : u1 (x + 1) = some (.inl ((X.2 3), 4, .inr (.inr (.inr (.inr (cArr ad x nC)))))) := by rw [hu1, gup_ne (by omega)]; exact hx1
    have hu1_2 : u1 (x + 16 * nC + 32) = some (.inr (1, [.null, .null, .null, .int 0, .int 0, .int 0])) := by rw [hu1]; exact gup_self _ _ _
    have hu1_f1 : u1 (x + 16 * nC + 32 + 1) = none := by rw [hu1, gup_ne (by omega)]; exact hf1
    have hu1_f2 : u1 (x + 16 * nC + 32 + 2) = none := by rw [hu1, gup_ne (by omega)]; exact hf2
    have hu1_f3 : u1 (x + 16 * nC + 32 + 3) = none := by rw [hu1, gup_ne (by omega)]; exact hf3
    have hu1_f4 : u1 (x + 16 * nC + 32 + 3 + 1) = none := by rw [hu1, gup_ne (by omega)]; exact hf4
    have hu1_f5 : u1 (x + 16 * nC + 32 + 3 + 2) = none := by rw [hu1, gup_ne (by omega)]; exact hf5
    have hu1_f6 : u1 (x + 16 * nC + 32 + 3 + 3) = none := by rw [hu1, gup_ne (by omega)]; exact hf6
    have hu1_f7 : u1 (x + 16 * nC + 32 + 3 + 4) = none := by rw [hu1, gup_ne (by omega)]; exact hf7
    have hu1_f8 : u1 (x + 16 * nC + 32 + 3 + 5) = none := by rw [hu1, gup_ne (by omega)]; exact hf8
    show GW Z _ _ _ ad u1 (sz + 1) [(0, .ref (ad x))] 1 6 21 [.ref (ad (x + 16 * nC + 32)), .int (nI nC), .ref (ad (x + 1))]
    refine g_dup C d_X_club_21 rfl ?_
    refine g_callIN 0 C (k_C_init _ X ad u1 (sz + 1) (x + 16 * nC + 32) hu1_2 hu1_f1 ha1 hu1_f2 ha2 hu1_f3 ha3 hu1_f4 ha4 hu1_f5 ha5 hu1_f6 ha6 hu1_f7 ha7 hu1_f8 ha8) (gmem wd_107 rfl) (gmem wd_5 rfl) (List.mem_of_getElem? (i := 2) rfl) (gmem wd_106 rfl) rfl ⟨by decide, by decide, by decide +kernel⟩ ⟨Nat.le_of_ble_eq_true rfl, Nat.le_of_ble_eq_true rfl⟩ rfl rfl (Nat.le_of_ble_eq_true rfl) d_X_club_22 ⟨Nat.le_of_ble_eq_true rfl, Nat.le_of_ble_eq_true rfl⟩ ?_
    rintro v9 uc2 s9 ⟨h9, huc2, hs9⟩; rw [h9, hs9]; clear h9 hs9 v9 s9
    have huc2_0 : uc2 x = some (.inr (5, [.ref (ad (x + 1)), .ref (ad (x + 2)), .ref (ad (x + 3)), .ref (ad (x + 6)), .int (nI nC), .int (nI nB)])) := by rw [huc2, gup_ne (by omega), gup_ne (by omega), gup_ne (by omega), gup_ne (by omega), gup_ne (by omega), gup_ne (by omega), gup_ne (by omega), gup_ne (by omega), gup_ne (by omega)]; exact hu1_0
    have huc2_1 : uc2 (x + 1) = some (.inl ((X.2 3), 4, .inr (.inr (.inr (.inr (cArr ad x nC)))))) := by rw [huc2, gup_ne (by omega), gup_ne (by omega), gup_ne (by omega), gup_ne (by omega), gup_ne (by omega), gup_ne (by omega), gup_ne (by omega), gup_ne (by omega), gup_ne (by omega)]; exact hu1_1
    have huc2_2 : uc2 (x + 16 * nC + 32) = some (.inr (1, [.ref (ad (x + 16 * nC + 32 + 1)), .ref (ad (x + 16 * nC + 32 + 2)), .ref (ad (x + 16 * nC + 32 + 3)), .int 0, .int 0, .int 0])) := by rw [huc2, gup_ne (by omega), gup_ne (by omega), gup_ne (by omega), gup_ne (by omega), gup_ne (by omega), gup_ne (by omega), gup_ne (by omega), gup_ne (by omega), gup_self]
    have huc2_3 : uc2 (x + 16 * nC + 32 + 1) = some (.inl ((X.2 1), 12, .inr (.inl (fun _ => 0)))) := by rw [huc2, gup_ne (by omega), gup_ne (by omega), gup_ne (by omega), gup_ne (by omega), gup_ne (by omega), gup_ne (by omega), gup_ne (by omega), gup_self]
    have huc2_4 : uc2 (x + 16 * nC + 32 + 2) = some (.inl ((X.2 1), 12, .inr (.inl (fun _ => 0)))) := by rw [huc2, gup_ne (by omega), gup_ne (by omega), gup_ne (by omega), gup_ne (by omega), gup_ne (by omega), gup_ne (by omega), gup_self]
    have huc2_5 : uc2 (x + 16 * nC + 32 + 3) = some (.inr (4, [.ref (ad (x + 16 * nC + 32 + 3 + 1)), .ref (ad (x + 16 * nC + 32 + 3 + 2)), .ref (ad (x + 16 * nC + 32 + 3 + 3)), .ref (ad (x + 16 * nC + 32 + 3 + 4)), .ref (ad (x + 16 * nC + 32 + 3 + 5)), .int 0, .int 0, .int 0, .int 0])) := by rw [huc2, gup_ne (by omega), gup_ne (by omega), gup_ne (by omega), gup_ne (by omega), gup_ne (by omega), gup_self]
    have huc2_6 : uc2 (x + 16 * nC + 32 + 3 + 1) = some (.inl ((X.2 0), 12, .inl (fun _ => 0))) := by rw [huc2, gup_ne (by omega), gup_ne (by omega), gup_ne (by omega), gup_ne (by omega), gup_self]
    have huc2_7 : uc2 (x + 16 * nC + 32 + 3 + 2) = some (.inl ((X.2 0), 12, .inl (fun _ => 0))) := by rw [huc2, gup_ne (by omega), gup_ne (by omega), gup_ne (by omega), gup_self]
    have huc2_8 : uc2 (x + 16 * nC + 32 + 3 + 3) = some (.inl ((X.2 0), 12, .inl (fun _ => 0))) := by rw [huc2, gup_ne (by omega), gup_ne (by omega), gup_self]
    have huc2_9 : uc2 (x + 16 * nC + 32 + 3 + 4) = some (.inl ((X.2 1), 12, .inr (.inl (fun _ => 0)))) := by rw [huc2, gup_ne (by omega), gup_self]
    have huc2_10 : uc2 (x + 16 * nC + 32 + 3 + 5) = some (.inl ((X.2 2), 12, .inl (fun _ => 0))) := by rw [huc2, gup_self]
    show GW Z _ _ _ ad uc2 (sz + 9) [(0, .ref (ad x))] 9 99 25 [.ref (ad (x + 16 * nC + 32)), .int (nI nC), .ref (ad (x + 1))]
    refine g_aast (x + 1) (x + 16 * nC + 32) 3 C huc2_1 rfl huc2_2 rfl (vp_in_nI hc4 (by decide)) d_X_club_25 ?_
    rw [nI_clamp (n := nC) (by omega), cArr_up]
    obtain ⟨u3, hu3⟩ : ∃ z, z = gup uc2 (x + 1) (.inl ((X.2 3), 4, .inr (.inr (.inr (.inr (cArr ad x (nC + 1))))))) := ⟨_, rfl⟩
    rw [← hu3]
    have hu3_0 : u3 x = some (.inr (5, [.ref (ad (x + 1)), .ref (ad (x + 2)), .ref (ad (x + 3)), .ref (ad (x + 6)), .int (nI nC), .int (nI nB)])) := by rw [hu3, gup_ne (by omega)]; exact huc2_0
    have hu3_1 : u3 (x + 1) = some (.inl ((X.2 3), 4, .inr (.inr (.inr (.inr (cArr ad x (nC + 1))))))) := by rw [hu3]; exact gup_self _ _ _
    have hu3_2 : u3 (x + 16 * nC + 32) = some (.inr (1, [.ref (ad (x + 16 * nC + 32 + 1)), .ref (ad (x + 16 * nC + 32 + 2)), .ref (ad (x + 16 * nC + 32 + 3)), .int 0, .int 0, .int 0])) := by rw [hu3, gup_ne (by omega)]; exact huc2_2
    have hu3_3 : u3 (x + 16 * nC + 32 + 1) = some (.inl ((X.2 1), 12, .inr (.inl (fun _ => 0)))) := by rw [hu3, gup_ne (by omega)]; exact huc2_3
    have hu3_4 : u3 (x + 16 * nC + 32 + 2) = some (.inl ((X.2 1), 12, .inr (.inl (fun _ => 0)))) := by rw [hu3, gup_ne (by omega)]; exact huc2_4
    have hu3_5 : u3 (x + 16 * nC + 32 + 3) = some (.inr (4, [.ref (ad (x + 16 * nC + 32 + 3 + 1)), .ref (ad (x + 16 * nC + 32 + 3 + 2)), .ref (ad (x + 16 * nC + 32 + 3 + 3)), .ref (ad (x + 16 * nC + 32 + 3 + 4)), .ref (ad (x + 16 * nC + 32 + 3 + 5)), .int 0, .int 0, .int 0, .int 0])) := by rw [hu3, gup_ne (by omega)]; exact huc2_5
    have hu3_6 : u3 (x + 16 * nC + 32 + 3 + 1) = some (.inl ((X.2 0), 12, .inl (fun _ => 0))) := by rw [hu3, gup_ne (by omega)]; exact huc2_6
    have hu3_7 : u3 (x + 16 * nC + 32 + 3 + 2) = some (.inl ((X.2 0), 12, .inl (fun _ => 0))) := by rw [hu3, gup_ne (by omega)]; exact huc2_7
    have hu3_8 : u3 (x + 16 * nC + 32 + 3 + 3) = some (.inl ((X.2 0), 12, .inl (fun _ => 0))) := by rw [hu3, gup_ne (by omega)]; exact huc2_8
    have hu3_9 : u3 (x + 16 * nC + 32 + 3 + 4) = some (.inl ((X.2 1), 12, .inr (.inl (fun _ => 0)))) := by rw [hu3, gup_ne (by omega)]; exact huc2_9
    have hu3_10 : u3 (x + 16 * nC + 32 + 3 + 5) = some (.inl ((X.2 2), 12, .inl (fun _ => 0))) := by rw [hu3, gup_ne (by omega)]; exact huc2_10
    refine g_aload_n C d_X_club_26 rfl 0 rfl ?_
    refine g_dup C d_X_club_27 rfl ?_
    refine g_get x 4 C hu3_0 rfl i_X (by decide) (gmem wd_85 rfl) rfl rfl d_X_club_28 ?_
    refine g_iconst (v := 1) C d_X_club_31 (by decide) ?_
    refine g_iadd C d_X_club_32 ?_
    rw [nI_1]
    refine g_put x 4 C hu3_0 rfl i_X t_X t_X_ok n_X (by decide) (gmem wd_85 rfl) rfl rfl rfl rfl (Nat.le_of_ble_eq_true rfl) d_X_club_33 ?_
    show GW Z _ _ _ ad (gup u3 x (.inr (5, [.ref (ad (x + 1)), .ref (ad (x + 2)), .ref (ad (x + 3)), .ref (ad (x + 6)), .int (nI (nC + 1)), .int (nI nB)]))) _ _ _ _ _ _
    obtain ⟨u4, hu4⟩ : ∃ z, z = gup u3 x (.inr (5, [.ref (ad (x + 1)), .ref (ad (x + 2)), .ref (ad (x + 3)), .ref (ad (x + 6)), .int (nI (nC + 1)), .int (nI nB)])) := ⟨_, rfl⟩
    rw [← hu4]
    have hu4_0 : u4 x = some (.inr (5, [.ref (ad (x + 1)), .ref (ad (x + 2)), .ref (ad (x + 3)), .ref (ad (x + 6)), .int (nI (nC + 1)), .int (nI nB)])) := by rw [hu4]; exact gup_self _ _ _
    have hu4_1 : u4 (x + 1) = some (.inl ((X.2 3), 4, .inr (.inr (.inr (.inr (cArr ad x (nC + 1))))))) := by rw [hu4, gup_ne (by omega)]; exact hu3_1
    have hu4_2 : u4 (x + 16 * nC + 32) = some (.inr (1, [.ref (ad (x + 16 * nC + 32 + 1)), .ref (ad (x + 16 * nC + 32 + 2)), .ref (ad (x + 16 * nC + 32 + 3)), .int 0, .int 0, .int 0])) := by rw [hu4, gup_ne (by omega)]; exact hu3_2
    have hu4_3 : u4 (x + 16 * nC + 32 + 1) = some (.inl ((X.2 1), 12, .inr (.inl (fun _ => 0)))) := by rw [hu4, gup_ne (by omega)]; exact hu3_3
    have hu4_4 : u4 (x + 16 * nC + 32 + 2) = some (.inl ((X.2 1), 12, .inr (.inl (fun _ => 0)))) := by rw [hu4, gup_ne (by omega)]; exact hu3_4
    have hu4_5 : u4 (x + 16 * nC + 32 + 3) = some (.inr (4, [.ref (ad (x + 16 * nC + 32 + 3 + 1)), .ref (ad (x + 16 * nC + 32 + 3 + 2)), .ref (ad (x + 16 * nC + 32 + 3 + 3)), .ref (ad (x + 16 * nC + 32 + 3 + 4)), .ref (ad (x + 16 * nC + 32 + 3 + 5)), .int 0, .int 0, .int 0, .int 0])) := by rw [hu4, gup_ne (by omega)]; exact hu3_5
    have hu4_6 : u4 (x + 16 * nC + 32 + 3 + 1) = some (.inl ((X.2 0), 12, .inl (fun _ => 0))) := by rw [hu4, gup_ne (by omega)]; exact hu3_6
    have hu4_7 : u4 (x + 16 * nC + 32 + 3 + 2) = some (.inl ((X.2 0), 12, .inl (fun _ => 0))) := by rw [hu4, gup_ne (by omega)]; exact hu3_7
    have hu4_8 : u4 (x + 16 * nC + 32 + 3 + 3) = some (.inl ((X.2 0), 12, .inl (fun _ => 0))) := by rw [hu4, gup_ne (by omega)]; exact hu3_8
    have hu4_9 : u4 (x + 16 * nC + 32 + 3 + 4) = some (.inl ((X.2 1), 12, .inr (.inl (fun _ => 0)))) := by rw [hu4, gup_ne (by omega)]; exact hu3_9
    have hu4_10 : u4 (x + 16 * nC + 32 + 3 + 5) = some (.inl ((X.2 2), 12, .inl (fun _ => 0))) := by rw [hu4, gup_ne (by omega)]; exact hu3_10
    refine g_aload_n C d_X_club_36 rfl 0 rfl ?_
    refine g_get x 4 C hu4_0 rfl i_X (by decide) (gmem wd_85 rfl) rfl rfl d_X_club_37 ?_
    refine g_iconst (v := 1) C d_X_club_40 (by decide) ?_
    refine g_isub C d_X_club_41 ?_
    have hfin5 : u4 = gup (gup (gup (gup (gup (gup (gup (gup (gup (gup (gup u x (.inr (5, [.ref (ad (x + 1)), .ref (ad (x + 2)), .ref (ad (x + 3)), .ref (ad (x + 6)), .int (nI (nC + 1)), .int (nI nB)]))) (x + 1) (.inl ((X.2 3), 4, .inr (.inr (.inr (.inr (cArr ad x (nC + 1)))))))) (x + 16 * nC + 32) (.inr (1, [.ref (ad (x + 16 * nC + 32 + 1)), .ref (ad (x + 16 * nC + 32 + 2)), .ref (ad (x + 16 * nC + 32 + 3)), .int 0, .int 0, .int 0]))) (x + 16 * nC + 32 + 1) (.inl ((X.2 1), 12, .inr (.inl (fun _ => 0))))) (x + 16 * nC + 32 + 2) (.inl ((X.2 1), 12, .inr (.inl (fun _ => 0))))) (x + 16 * nC + 32 + 3) (.inr (4, [.ref (ad (x + 16 * nC + 32 + 3 + 1)), .ref (ad (x + 16 * nC + 32 + 3 + 2)), .ref (ad (x + 16 * nC + 32 + 3 + 3)), .ref (ad (x + 16 * nC + 32 + 3 + 4)), .ref (ad (x + 16 * nC + 32 + 3 + 5)), .int 0, .int 0, .int 0, .int 0]))) (x + 16 * nC + 32 + 3 + 1) (.inl ((X.2 0), 12, .inl (fun _ => 0)))) (x + 16 * nC + 32 + 3 + 2) (.inl ((X.2 0), 12, .inl (fun _ => 0)))) (x + 16 * nC + 32 + 3 + 3) (.inl ((X.2 0), 12, .inl (fun _ => 0)))) (x + 16 * nC + 32 + 3 + 4) (.inl ((X.2 1), 12, .inr (.inl (fun _ => 0))))) (x + 16 * nC + 32 + 3 + 5) (.inl ((X.2 2), 12, .inl (fun _ => 0))) := by
      funext kq
      by_cases hk0 : kq = x
      · rw [hk0, hu4_0, gup_ne (by omega), gup_ne (by omega), gup_ne (by omega), gup_ne (by omega), gup_ne (by omega), gup_ne (by omega), gup_ne (by omega), gup_ne (by omega), gup_ne (by omega), gup_ne (by omega), gup_self]
      by_cases hk1 : kq = x + 1
      · rw [hk1, hu4_1, gup_ne (by omega), gup_ne (by omega), gup_ne (by omega), gup_ne (by omega), gup_ne (by omega), gup_ne (by omega), gup_ne (by omega), gup_ne (by omega), gup_ne (by omega), gup_self]
      by_cases hk2 : kq = x + 16 * nC + 32
      · rw [hk2, hu4_2, gup_ne (by omega), gup_ne (by omega), gup_ne (by omega), gup_ne (by omega), gup_ne (by omega), gup_ne (by omega), gup_ne (by omega), gup_ne (by omega), gup_self]
      by_cases hk3 : kq = x + 16 * nC + 32 + 1
      · rw [hk3, hu4_3, gup_ne (by omega), gup_ne (by omega), gup_ne (by omega), gup_ne (by omega), gup_ne (by omega), gup_ne (by omega), gup_ne (by omega), gup_self]
      by_cases hk4 : kq = x + 16 * nC + 32 + 2
      · rw [hk4, hu4_4, gup_ne (by omega), gup_ne (by omega), gup_ne (by omega), gup_ne (by omega), gup_ne (by omega), gup_ne (by omega), gup_self]
      by_cases hk5 : kq = x + 16 * nC + 32 + 3
      · rw [hk5, hu4_5, gup_ne (by omega), gup_ne (by omega), gup_ne (by omega), gup_ne (by omega), gup_ne (by omega), gup_self]
      by_cases hk6 : kq = x + 16 * nC + 32 + 3 + 1
      · rw [hk6, hu4_6, gup_ne (by omega), gup_ne (by omega), gup_ne (by omega), gup_ne (by omega), gup_self]
      by_cases hk7 : kq = x + 16 * nC + 32 + 3 + 2
      · rw [hk7, hu4_7, gup_ne (by omega), gup_ne (by omega), gup_ne (by omega), gup_self]
      by_cases hk8 : kq = x + 16 * nC + 32 + 3 + 3
      · rw [hk8, hu4_8, gup_ne (by omega), gup_ne (by omega), gup_self]
      by_cases hk9 : kq = x + 16 * nC + 32 + 3 + 4
      · rw [hk9, hu4_9, gup_ne (by omega), gup_self]
      by_cases hk10 : kq = x + 16 * nC + 32 + 3 + 5
      · rw [hk10, hu4_10, gup_self]
      rw [hu4, gup_ne hk0]
      rw [hu3, gup_ne hk1]
      rw [huc2, gup_ne hk10, gup_ne hk9, gup_ne hk8, gup_ne hk7, gup_ne hk6, gup_ne hk5, gup_ne hk4, gup_ne hk3, gup_ne hk2]
      rw [hu1, gup_ne hk2]
      rw [gup_ne hk10, gup_ne hk9, gup_ne hk8, gup_ne hk7, gup_ne hk6, gup_ne hk5, gup_ne hk4, gup_ne hk3, gup_ne hk2, gup_ne hk1, gup_ne hk0]
    exact g_iret C hR hret (Or.inr ⟨c5, rfl, hfin5, rfl⟩) d_X_club_42
  · skip
    refine g_iconst (v := (-1)) C d_X_club_8 (by decide) ?_
    refine g_widen (k := 9) (n := 99) (by decide) (by decide) ?_
    exact g_iret C hR hret (Or.inl ⟨c5, rfl, rfl, rfl⟩) d_X_club_9
