def mAL (X : gX) : List va_E := [.inr (6, []), .inl ((X.2 0), 4, .inl (fun _ => 0)), .inl ((X.2 0), 4, .inl (fun _ => 0)), .inl ((X.2 2), 48, .inl (fun _ => 0)), .inl ((X.2 0), 12, .inl (fun _ => 0)), .inl ((X.2 0), 12, .inl (fun _ => 0)), .inl ((X.2 0), 16, .inl (fun _ => 0)), .inl ((X.2 0), 16, .inl (fun _ => 0)), .inl ((X.2 1), 12, .inr (.inl (fun _ => 0))), .inl ((X.2 0), 64, .inl (fun _ => 0)), .inl ((X.2 1), 64, .inr (.inl (fun _ => 0))), .inl ((X.2 2), 64, .inl (fun _ => 0)), .inl ((X.2 1), 768, .inr (.inl (fun _ => 0))), .inl ((X.2 1), 768, .inr (.inl (fun _ => 0))), .inl ((X.2 1), 768, .inr (.inl (fun _ => 0))), .inl ((X.2 1), 48, .inr (.inl (fun _ => 0))), .inl ((X.2 2), 4, .inl (fun _ => 0)), .inl ((X.2 0), 4, .inl (fun _ => 0)), .inl ((X.2 0), 48, .inl (fun _ => 0)), .inl ((X.2 0), 4, .inl (fun _ => 0)), .inl ((X.2 0), 44, .inl (fun _ => 0)), .inl ((X.2 0), 44, .inl (fun _ => 0)), .inl ((X.2 1), 44, .inr (.inl (fun _ => 0))), .inl ((X.2 2), 44, .inl (fun _ => 0)), .inl ((X.2 1), 4096, .inr (.inl (fun _ => 0))), .inl ((X.2 0), 4096, .inl (fun _ => 0))]
def mA (X : gX) (j : Nat) : va_E := (mAL X).getD j (.inr (6, []))
def mInit (X : gX) (ad : Nat → Nat) (u : gW) (m : Nat) : gW := fun n => if n = m then some (mO ad m 0 0 (-1) 0 0 0 0 0) else if m < n ∧ n ≤ m + 25 then some (mA X (n - m)) else u n
set_option maxHeartbeats 4000000 in
set_option maxRecDepth 100000 in
theorem k_M_init (l : Launch) (X : gX) (ad : Nat → Nat) (u : gW) (sz : Nat) (m : Nat) (hb : u m = some (.inr (6, [.int 0, .int 0, .null, .null, .null, .int 0, .int 0, .int 0, .int 0, .null, .null, .int 0, .null, .null, .null, .int 0, .null, .null, .null, .null, .null, .null, .null, .null, .null, .null, .null, .null, .null, .null, .null, .null, .null]))) (hfr : ∀ j, 0 < j → u (m + j) = none) (had : ∀ j, 1 ≤ j → j ≤ 25 → ad (m + j) = sz + (j - 1)) : gMet l (EE X) y_M_init c_M_init 1 none ({ frames := 1, cells := 25, slots := 11096, locals := 20 }) [.ref (ad m)] ad u sz (fun v u' sz' => v = none ∧ u' = mInit X ad u m ∧ sz' = sz + 25) := by
  refine gMet_of "ExpenseClubsModel" rfl (by decide) (Nat.le_of_ble_eq_true rfl) (lv := [(0, .ref (ad m))]) rfl (fun Z hZl C hR hret hname => ?_)
  have harr0 : ∀ j, 1 ≤ j → j ≤ 0 → u (m + j) = some (mA X j) := fun j h1 h2 => absurd h1 (by omega)
  refine g_aload_n C d_M_init_0 rfl 0 rfl ?_
  refine g_objInit C (gmem wd_517 rfl) (gmem wd_21 rfl) (gmem wd_22 rfl) d_M_init_1 (Nat.le_of_ble_eq_true rfl) (Nat.le_of_ble_eq_true rfl) ?_
  refine g_aload_n C d_M_init_4 rfl 0 rfl ?_
  refine g_iconst (v := 4) C d_M_init_5 (by decide) ?_
  refine g_newa (atype := .int) (ty := .int) (cA := (X.2 0)) (N := 4) (a0 := (4, .inl (fun _ => 0))) (m + 1) 0 C (hfr 1 (by omega)) (had 1 (by omega) (by omega)) (gmem wd_80 rfl) rfl rfl (fun _ => rfl) (by decide) (by decide) (by decide) (Nat.le_of_ble_eq_true rfl) (Nat.le_of_ble_eq_true rfl) d_M_init_6 ?_
  obtain ⟨u1, hu1⟩ : ∃ z, z = gup u (m + 1) (.inl ((X.2 0), 4, .inl (fun _ => 0))) := ⟨_, rfl⟩
  rw [← hu1]
  have hu1_m : u1 m = some (.inr (6, [.int 0, .int 0, .null, .null, .null, .int 0, .int 0, .int 0, .int 0, .null, .null, .int 0, .null, .null, .null, .int 0, .null, .null, .null, .null, .null, .null, .null, .null, .null, .null, .null, .null, .null, .null, .null, .null, .null])) := by rw [hu1, gup_ne (by omega)]; exact hb
  have hu1_a : ∀ j, 1 ≤ j → j ≤ 1 → u1 (m + j) = some (mA X j) := by
    intro j h1 h2
    by_cases hj : j = 1
    · subst hj; rw [hu1]; exact gup_self _ _ _
    · rw [hu1, gup_ne (by omega)]; exact harr0 j h1 (by omega)
  have hu1_f : ∀ j, 1 < j → u1 (m + j) = none := fun j h1 => by rw [hu1, gup_ne (by omega)]; exact hfr j (by omega)
  show GW Z _ _ _ ad u1 (sz + 1) [(0, .ref (ad m))] 1 4 8 [.ref (ad (m + 1)), .ref (ad m)]
  refine g_putF m 2 C hname hu1_m rfl i_M t_M t_M_ok n_M (by decide) (gmem wd_520 rfl) rfl rfl rfl rfl rfl (Nat.le_of_ble_eq_true rfl) d_M_init_8 ?_
  show GW Z _ _ _ ad (gup u1 m (.inr (6, [.int 0, .int 0, .ref (ad (m + 1)), .null, .null, .int 0, .int 0, .int 0, .int 0, .null, .null, .int 0, .null, .null, .null, .int 0, .null, .null, .null, .null, .null, .null, .null, .null, .null, .null, .null, .null, .null, .null, .null, .null, .null]))) _ _ _ _ _ _
  obtain ⟨u2, hu2⟩ : ∃ z, z = gup u1 m (.inr (6, [.int 0, .int 0, .ref (ad (m + 1)), .null, .null, .int 0, .int 0, .int 0, .int 0, .null, .null, .int 0, .null, .null, .null, .int 0, .null, .null, .null, .null, .null, .null, .null, .null, .null, .null, .null, .null, .null, .null, .null, .null, .null])) := ⟨_, rfl⟩
  rw [← hu2]
  have hu2_m : u2 m = some (.inr (6, [.int 0, .int 0, .ref (ad (m + 1)), .null, .null, .int 0, .int 0, .int 0, .int 0, .null, .null, .int 0, .null, .null, .null, .int 0, .null, .null, .null, .null, .null, .null, .null, .null, .null, .null, .null, .null, .null, .null, .null, .null, .null])) := by rw [hu2]; exact gup_self _ _ _
  have hu2_a : ∀ j, 1 ≤ j → j ≤ 1 → u2 (m + j) = some (mA X j) := fun j h1 h2 => by rw [hu2, gup_ne (by omega)]; exact hu1_a j h1 h2
  have hu2_f : ∀ j, 1 < j → u2 (m + j) = none := fun j h1 => by rw [hu2, gup_ne (by omega)]; exact hu1_f j h1
  refine g_aload_n C d_M_init_11 rfl 0 rfl ?_
  refine g_iconst (v := 4) C d_M_init_12 (by decide) ?_
  refine g_newa (atype := .int) (ty := .int) (cA := (X.2 0)) (N := 4) (a0 := (4, .inl (fun _ => 0))) (m + 2) 0 C (hu2_f 2 (by omega)) (had 2 (by omega) (by omega)) (gmem wd_80 rfl) rfl rfl (fun _ => rfl) (by decide) (by decide) (by decide) (Nat.le_of_ble_eq_true rfl) (Nat.le_of_ble_eq_true rfl) d_M_init_13 ?_
  obtain ⟨u3, hu3⟩ : ∃ z, z = gup u2 (m + 2) (.inl ((X.2 0), 4, .inl (fun _ => 0))) := ⟨_, rfl⟩
  rw [← hu3]
  have hu3_m : u3 m = some (.inr (6, [.int 0, .int 0, .ref (ad (m + 1)), .null, .null, .int 0, .int 0, .int 0, .int 0, .null, .null, .int 0, .null, .null, .null, .int 0, .null, .null, .null, .null, .null, .null, .null, .null, .null, .null, .null, .null, .null, .null, .null, .null, .null])) := by rw [hu3, gup_ne (by omega)]; exact hu2_m
  have hu3_a : ∀ j, 1 ≤ j → j ≤ 2 → u3 (m + j) = some (mA X j) := by
    intro j h1 h2
    by_cases hj : j = 2
    · subst hj; rw [hu3]; exact gup_self _ _ _
    · rw [hu3, gup_ne (by omega)]; exact hu2_a j h1 (by omega)
  have hu3_f : ∀ j, 2 < j → u3 (m + j) = none := fun j h1 => by rw [hu3, gup_ne (by omega)]; exact hu2_f j (by omega)
  show GW Z _ _ _ ad u3 (sz + 2) [(0, .ref (ad m))] 2 8 15 [.ref (ad (m + 2)), .ref (ad m)]
  refine g_putF m 3 C hname hu3_m rfl i_M t_M t_M_ok n_M (by decide) (gmem wd_521 rfl) rfl rfl rfl rfl rfl (Nat.le_of_ble_eq_true rfl) d_M_init_15 ?_
  show GW Z _ _ _ ad (gup u3 m (.inr (6, [.int 0, .int 0, .ref (ad (m + 1)), .ref (ad (m + 2)), .null, .int 0, .int 0, .int 0, .int 0, .null, .null, .int 0, .null, .null, .null, .int 0, .null, .null, .null, .null, .null, .null, .null, .null, .null, .null, .null, .null, .null, .null, .null, .null, .null]))) _ _ _ _ _ _
  obtain ⟨u4, hu4⟩ : ∃ z, z = gup u3 m (.inr (6, [.int 0, .int 0, .ref (ad (m + 1)), .ref (ad (m + 2)), .null, .int 0, .int 0, .int 0, .int 0, .null, .null, .int 0, .null, .null, .null, .int 0, .null, .null, .null, .null, .null, .null, .null, .null, .null, .null, .null, .null, .null, .null, .null, .null, .null])) := ⟨_, rfl⟩
  rw [← hu4]
  have hu4_m : u4 m = some (.inr (6, [.int 0, .int 0, .ref (ad (m + 1)), .ref (ad (m + 2)), .null, .int 0, .int 0, .int 0, .int 0, .null, .null, .int 0, .null, .null, .null, .int 0, .null, .null, .null, .null, .null, .null, .null, .null, .null, .null, .null, .null, .null, .null, .null, .null, .null])) := by rw [hu4]; exact gup_self _ _ _
  have hu4_a : ∀ j, 1 ≤ j → j ≤ 2 → u4 (m + j) = some (mA X j) := fun j h1 h2 => by rw [hu4, gup_ne (by omega)]; exact hu3_a j h1 h2
  have hu4_f : ∀ j, 2 < j → u4 (m + j) = none := fun j h1 => by rw [hu4, gup_ne (by omega)]; exact hu3_f j h1
  refine g_aload_n C d_M_init_18 rfl 0 rfl ?_
  refine g_bipush (v := 48) C d_M_init_19 (by decide) ?_
  refine g_newa (atype := .boolean) (ty := .boolean) (cA := (X.2 2)) (N := 48) (a0 := (48, .inl (fun _ => 0))) (m + 3) 2 C (hu4_f 3 (by omega)) (had 3 (by omega) (by omega)) (gmem wd_159 rfl) rfl rfl (fun _ => rfl) (by decide) (by decide) (by decide) (Nat.le_of_ble_eq_true rfl) (Nat.le_of_ble_eq_true rfl) d_M_init_21 ?_
  obtain ⟨u5, hu5⟩ : ∃ z, z = gup u4 (m + 3) (.inl ((X.2 2), 48, .inl (fun _ => 0))) := ⟨_, rfl⟩
  rw [← hu5]
  have hu5_m : u5 m = some (.inr (6, [.int 0, .int 0, .ref (ad (m + 1)), .ref (ad (m + 2)), .null, .int 0, .int 0, .int 0, .int 0, .null, .null, .int 0, .null, .null, .null, .int 0, .null, .null, .null, .null, .null, .null, .null, .null, .null, .null, .null, .null, .null, .null, .null, .null, .null])) := by rw [hu5, gup_ne (by omega)]; exact hu4_m
  have hu5_a : ∀ j, 1 ≤ j → j ≤ 3 → u5 (m + j) = some (mA X j) := by
    intro j h1 h2
    by_cases hj : j = 3
    · subst hj; rw [hu5]; exact gup_self _ _ _
    · rw [hu5, gup_ne (by omega)]; exact hu4_a j h1 (by omega)
  have hu5_f : ∀ j, 3 < j → u5 (m + j) = none := fun j h1 => by rw [hu5, gup_ne (by omega)]; exact hu4_f j (by omega)
  show GW Z _ _ _ ad u5 (sz + 3) [(0, .ref (ad m))] 3 56 23 [.ref (ad (m + 3)), .ref (ad m)]
  refine g_putF m 4 C hname hu5_m rfl i_M t_M t_M_ok n_M (by decide) (gmem wd_522 rfl) rfl rfl rfl rfl rfl (Nat.le_of_ble_eq_true rfl) d_M_init_23 ?_
  show GW Z _ _ _ ad (gup u5 m (.inr (6, [.int 0, .int 0, .ref (ad (m + 1)), .ref (ad (m + 2)), .ref (ad (m + 3)), .int 0, .int 0, .int 0, .int 0, .null, .null, .int 0, .null, .null, .null, .int 0, .null, .null, .null, .null, .null, .null, .null, .null, .null, .null, .null, .null, .null, .null, .null, .null, .null]))) _ _ _ _ _ _
  obtain ⟨u6, hu6⟩ : ∃ z, z = gup u5 m (.inr (6, [.int 0, .int 0, .ref (ad (m + 1)), .ref (ad (m + 2)), .ref (ad (m + 3)), .int 0, .int 0, .int 0, .int 0, .null, .null, .int 0, .null, .null, .null, .int 0, .null, .null, .null, .null, .null, .null, .null, .null, .null, .null, .null, .null, .null, .null, .null, .null, .null])) := ⟨_, rfl⟩
  rw [← hu6]
  have hu6_m : u6 m = some (.inr (6, [.int 0, .int 0, .ref (ad (m + 1)), .ref (ad (m + 2)), .ref (ad (m + 3)), .int 0, .int 0, .int 0, .int 0, .null, .null, .int 0, .null, .null, .null, .int 0, .null, .null, .null, .null, .null, .null, .null, .null, .null, .null, .null, .null, .null, .null, .null, .null, .null])) := by rw [hu6]; exact gup_self _ _ _
  have hu6_a : ∀ j, 1 ≤ j → j ≤ 3 → u6 (m + j) = some (mA X j) := fun j h1 h2 => by rw [hu6, gup_ne (by omega)]; exact hu5_a j h1 h2
  have hu6_f : ∀ j, 3 < j → u6 (m + j) = none := fun j h1 => by rw [hu6, gup_ne (by omega)]; exact hu5_f j h1
  refine g_aload_n C d_M_init_26 rfl 0 rfl ?_
  refine g_iconst (v := (-1)) C d_M_init_27 (by decide) ?_
  refine g_put m 5 C hu6_m rfl i_M t_M t_M_ok n_M (by decide) (gmem wd_523 rfl) rfl rfl rfl rfl (Nat.le_of_ble_eq_true rfl) d_M_init_28 ?_
  show GW Z _ _ _ ad (gup u6 m (.inr (6, [.int 0, .int 0, .ref (ad (m + 1)), .ref (ad (m + 2)), .ref (ad (m + 3)), .int (-1), .int 0, .int 0, .int 0, .null, .null, .int 0, .null, .null, .null, .int 0, .null, .null, .null, .null, .null, .null, .null, .null, .null, .null, .null, .null, .null, .null, .null, .null, .null]))) _ _ _ _ _ _
  obtain ⟨u7, hu7⟩ : ∃ z, z = gup u6 m (.inr (6, [.int 0, .int 0, .ref (ad (m + 1)), .ref (ad (m + 2)), .ref (ad (m + 3)), .int (-1), .int 0, .int 0, .int 0, .null, .null, .int 0, .null, .null, .null, .int 0, .null, .null, .null, .null, .null, .null, .null, .null, .null, .null, .null, .null, .null, .null, .null, .null, .null])) := ⟨_, rfl⟩
  rw [← hu7]
  have hu7_m : u7 m = some (.inr (6, [.int 0, .int 0, .ref (ad (m + 1)), .ref (ad (m + 2)), .ref (ad (m + 3)), .int (-1), .int 0, .int 0, .int 0, .null, .null, .int 0, .null, .null, .null, .int 0, .null, .null, .null, .null, .null, .null, .null, .null, .null, .null, .null, .null, .null, .null, .null, .null, .null])) := by rw [hu7]; exact gup_self _ _ _
  have hu7_a : ∀ j, 1 ≤ j → j ≤ 3 → u7 (m + j) = some (mA X j) := fun j h1 h2 => by rw [hu7, gup_ne (by omega)]; exact hu6_a j h1 h2
  have hu7_f : ∀ j, 3 < j → u7 (m + j) = none := fun j h1 => by rw [hu7, gup_ne (by omega)]; exact hu6_f j h1
  refine g_aload_n C d_M_init_31 rfl 0 rfl ?_
  refine g_bipush (v := 12) C d_M_init_32 (by decide) ?_
  refine g_newa (atype := .int) (ty := .int) (cA := (X.2 0)) (N := 12) (a0 := (12, .inl (fun _ => 0))) (m + 4) 0 C (hu7_f 4 (by omega)) (had 4 (by omega) (by omega)) (gmem wd_80 rfl) rfl rfl (fun _ => rfl) (by decide) (by decide) (by decide) (Nat.le_of_ble_eq_true rfl) (Nat.le_of_ble_eq_true rfl) d_M_init_34 ?_
  obtain ⟨u8, hu8⟩ : ∃ z, z = gup u7 (m + 4) (.inl ((X.2 0), 12, .inl (fun _ => 0))) := ⟨_, rfl⟩
  rw [← hu8]
  have hu8_m : u8 m = some (.inr (6, [.int 0, .int 0, .ref (ad (m + 1)), .ref (ad (m + 2)), .ref (ad (m + 3)), .int (-1), .int 0, .int 0, .int 0, .null, .null, .int 0, .null, .null, .null, .int 0, .null, .null, .null, .null, .null, .null, .null, .null, .null, .null, .null, .null, .null, .null, .null, .null, .null])) := by rw [hu8, gup_ne (by omega)]; exact hu7_m
  have hu8_a : ∀ j, 1 ≤ j → j ≤ 4 → u8 (m + j) = some (mA X j) := by
    intro j h1 h2
    by_cases hj : j = 4
    · subst hj; rw [hu8]; exact gup_self _ _ _
    · rw [hu8, gup_ne (by omega)]; exact hu7_a j h1 (by omega)
  have hu8_f : ∀ j, 4 < j → u8 (m + j) = none := fun j h1 => by rw [hu8, gup_ne (by omega)]; exact hu7_f j (by omega)
  show GW Z _ _ _ ad u8 (sz + 4) [(0, .ref (ad m))] 4 68 36 [.ref (ad (m + 4)), .ref (ad m)]
  refine g_putF m 9 C hname hu8_m rfl i_M t_M t_M_ok n_M (by decide) (gmem wd_527 rfl) rfl rfl rfl rfl rfl (Nat.le_of_ble_eq_true rfl) d_M_init_36 ?_
  show GW Z _ _ _ ad (gup u8 m (.inr (6, [.int 0, .int 0, .ref (ad (m + 1)), .ref (ad (m + 2)), .ref (ad (m + 3)), .int (-1), .int 0, .int 0, .int 0, .ref (ad (m + 4)), .null, .int 0, .null, .null, .null, .int 0, .null, .null, .null, .null, .null, .null, .null, .null, .null, .null, .null, .null, .null, .null, .null, .null, .null]))) _ _ _ _ _ _
  obtain ⟨u9, hu9⟩ : ∃ z, z = gup u8 m (.inr (6, [.int 0, .int 0, .ref (ad (m + 1)), .ref (ad (m + 2)), .ref (ad (m + 3)), .int (-1), .int 0, .int 0, .int 0, .ref (ad (m + 4)), .null, .int 0, .null, .null, .null, .int 0, .null, .null, .null, .null, .null, .null, .null, .null, .null, .null, .null, .null, .null, .null, .null, .null, .null])) := ⟨_, rfl⟩
  rw [← hu9]
  have hu9_m : u9 m = some (.inr (6, [.int 0, .int 0, .ref (ad (m + 1)), .ref (ad (m + 2)), .ref (ad (m + 3)), .int (-1), .int 0, .int 0, .int 0, .ref (ad (m + 4)), .null, .int 0, .null, .null, .null, .int 0, .null, .null, .null, .null, .null, .null, .null, .null, .null, .null, .null, .null, .null, .null, .null, .null, .null])) := by rw [hu9]; exact gup_self _ _ _
  have hu9_a : ∀ j, 1 ≤ j → j ≤ 4 → u9 (m + j) = some (mA X j) := fun j h1 h2 => by rw [hu9, gup_ne (by omega)]; exact hu8_a j h1 h2
  have hu9_f : ∀ j, 4 < j → u9 (m + j) = none := fun j h1 => by rw [hu9, gup_ne (by omega)]; exact hu8_f j h1
  refine g_aload_n C d_M_init_39 rfl 0 rfl ?_
  refine g_bipush (v := 12) C d_M_init_40 (by decide) ?_
  refine g_newa (atype := .int) (ty := .int) (cA := (X.2 0)) (N := 12) (a0 := (12, .inl (fun _ => 0))) (m + 5) 0 C (hu9_f 5 (by omega)) (had 5 (by omega) (by omega)) (gmem wd_80 rfl) rfl rfl (fun _ => rfl) (by decide) (by decide) (by decide) (Nat.le_of_ble_eq_true rfl) (Nat.le_of_ble_eq_true rfl) d_M_init_42 ?_
  obtain ⟨u10, hu10⟩ : ∃ z, z = gup u9 (m + 5) (.inl ((X.2 0), 12, .inl (fun _ => 0))) := ⟨_, rfl⟩
  rw [← hu10]
  have hu10_m : u10 m = some (.inr (6, [.int 0, .int 0, .ref (ad (m + 1)), .ref (ad (m + 2)), .ref (ad (m + 3)), .int (-1), .int 0, .int 0, .int 0, .ref (ad (m + 4)), .null, .int 0, .null, .null, .null, .int 0, .null, .null, .null, .null, .null, .null, .null, .null, .null, .null, .null, .null, .null, .null, .null, .null, .null])) := by rw [hu10, gup_ne (by omega)]; exact hu9_m
  have hu10_a : ∀ j, 1 ≤ j → j ≤ 5 → u10 (m + j) = some (mA X j) := by
    intro j h1 h2
    by_cases hj : j = 5
    · subst hj; rw [hu10]; exact gup_self _ _ _
    · rw [hu10, gup_ne (by omega)]; exact hu9_a j h1 (by omega)
  have hu10_f : ∀ j, 5 < j → u10 (m + j) = none := fun j h1 => by rw [hu10, gup_ne (by omega)]; exact hu9_f j (by omega)
  show GW Z _ _ _ ad u10 (sz + 5) [(0, .ref (ad m))] 5 80 44 [.ref (ad (m + 5)), .ref (ad m)]
  refine g_putF m 10 C hname hu10_m rfl i_M t_M t_M_ok n_M (by decide) (gmem wd_528 rfl) rfl rfl rfl rfl rfl (Nat.le_of_ble_eq_true rfl) d_M_init_44 ?_
  show GW Z _ _ _ ad (gup u10 m (.inr (6, [.int 0, .int 0, .ref (ad (m + 1)), .ref (ad (m + 2)), .ref (ad (m + 3)), .int (-1), .int 0, .int 0, .int 0, .ref (ad (m + 4)), .ref (ad (m + 5)), .int 0, .null, .null, .null, .int 0, .null, .null, .null, .null, .null, .null, .null, .null, .null, .null, .null, .null, .null, .null, .null, .null, .null]))) _ _ _ _ _ _
  obtain ⟨u11, hu11⟩ : ∃ z, z = gup u10 m (.inr (6, [.int 0, .int 0, .ref (ad (m + 1)), .ref (ad (m + 2)), .ref (ad (m + 3)), .int (-1), .int 0, .int 0, .int 0, .ref (ad (m + 4)), .ref (ad (m + 5)), .int 0, .null, .null, .null, .int 0, .null, .null, .null, .null, .null, .null, .null, .null, .null, .null, .null, .null, .null, .null, .null, .null, .null])) := ⟨_, rfl⟩
  rw [← hu11]
  have hu11_m : u11 m = some (.inr (6, [.int 0, .int 0, .ref (ad (m + 1)), .ref (ad (m + 2)), .ref (ad (m + 3)), .int (-1), .int 0, .int 0, .int 0, .ref (ad (m + 4)), .ref (ad (m + 5)), .int 0, .null, .null, .null, .int 0, .null, .null, .null, .null, .null, .null, .null, .null, .null, .null, .null, .null, .null, .null, .null, .null, .null])) := by rw [hu11]; exact gup_self _ _ _
  have hu11_a : ∀ j, 1 ≤ j → j ≤ 5 → u11 (m + j) = some (mA X j) := fun j h1 h2 => by rw [hu11, gup_ne (by omega)]; exact hu10_a j h1 h2
  have hu11_f : ∀ j, 5 < j → u11 (m + j) = none := fun j h1 => by rw [hu11, gup_ne (by omega)]; exact hu10_f j h1
  refine g_aload_n C d_M_init_47 rfl 0 rfl ?_
  refine g_bipush (v := 16) C d_M_init_48 (by decide) ?_
  refine g_newa (atype := .int) (ty := .int) (cA := (X.2 0)) (N := 16) (a0 := (16, .inl (fun _ => 0))) (m + 6) 0 C (hu11_f 6 (by omega)) (had 6 (by omega) (by omega)) (gmem wd_80 rfl) rfl rfl (fun _ => rfl) (by decide) (by decide) (by decide) (Nat.le_of_ble_eq_true rfl) (Nat.le_of_ble_eq_true rfl) d_M_init_50 ?_
  obtain ⟨u12, hu12⟩ : ∃ z, z = gup u11 (m + 6) (.inl ((X.2 0), 16, .inl (fun _ => 0))) := ⟨_, rfl⟩
  rw [← hu12]
  have hu12_m : u12 m = some (.inr (6, [.int 0, .int 0, .ref (ad (m + 1)), .ref (ad (m + 2)), .ref (ad (m + 3)), .int (-1), .int 0, .int 0, .int 0, .ref (ad (m + 4)), .ref (ad (m + 5)), .int 0, .null, .null, .null, .int 0, .null, .null, .null, .null, .null, .null, .null, .null, .null, .null, .null, .null, .null, .null, .null, .null, .null])) := by rw [hu12, gup_ne (by omega)]; exact hu11_m
  have hu12_a : ∀ j, 1 ≤ j → j ≤ 6 → u12 (m + j) = some (mA X j) := by
    intro j h1 h2
    by_cases hj : j = 6
    · subst hj; rw [hu12]; exact gup_self _ _ _
    · rw [hu12, gup_ne (by omega)]; exact hu11_a j h1 (by omega)
  have hu12_f : ∀ j, 6 < j → u12 (m + j) = none := fun j h1 => by rw [hu12, gup_ne (by omega)]; exact hu11_f j (by omega)
  show GW Z _ _ _ ad u12 (sz + 6) [(0, .ref (ad m))] 6 96 52 [.ref (ad (m + 6)), .ref (ad m)]
  refine g_putF m 12 C hname hu12_m rfl i_M t_M t_M_ok n_M (by decide) (gmem wd_530 rfl) rfl rfl rfl rfl rfl (Nat.le_of_ble_eq_true rfl) d_M_init_52 ?_
  show GW Z _ _ _ ad (gup u12 m (.inr (6, [.int 0, .int 0, .ref (ad (m + 1)), .ref (ad (m + 2)), .ref (ad (m + 3)), .int (-1), .int 0, .int 0, .int 0, .ref (ad (m + 4)), .ref (ad (m + 5)), .int 0, .ref (ad (m + 6)), .null, .null, .int 0, .null, .null, .null, .null, .null, .null, .null, .null, .null, .null, .null, .null, .null, .null, .null, .null, .null]))) _ _ _ _ _ _
  obtain ⟨u13, hu13⟩ : ∃ z, z = gup u12 m (.inr (6, [.int 0, .int 0, .ref (ad (m + 1)), .ref (ad (m + 2)), .ref (ad (m + 3)), .int (-1), .int 0, .int 0, .int 0, .ref (ad (m + 4)), .ref (ad (m + 5)), .int 0, .ref (ad (m + 6)), .null, .null, .int 0, .null, .null, .null, .null, .null, .null, .null, .null, .null, .null, .null, .null, .null, .null, .null, .null, .null])) := ⟨_, rfl⟩
  rw [← hu13]
  have hu13_m : u13 m = some (.inr (6, [.int 0, .int 0, .ref (ad (m + 1)), .ref (ad (m + 2)), .ref (ad (m + 3)), .int (-1), .int 0, .int 0, .int 0, .ref (ad (m + 4)), .ref (ad (m + 5)), .int 0, .ref (ad (m + 6)), .null, .null, .int 0, .null, .null, .null, .null, .null, .null, .null, .null, .null, .null, .null, .null, .null, .null, .null, .null, .null])) := by rw [hu13]; exact gup_self _ _ _
  have hu13_a : ∀ j, 1 ≤ j → j ≤ 6 → u13 (m + j) = some (mA X j) := fun j h1 h2 => by rw [hu13, gup_ne (by omega)]; exact hu12_a j h1 h2
  have hu13_f : ∀ j, 6 < j → u13 (m + j) = none := fun j h1 => by rw [hu13, gup_ne (by omega)]; exact hu12_f j h1
  refine g_aload_n C d_M_init_55 rfl 0 rfl ?_
  refine g_bipush (v := 16) C d_M_init_56 (by decide) ?_
  refine g_newa (atype := .int) (ty := .int) (cA := (X.2 0)) (N := 16) (a0 := (16, .inl (fun _ => 0))) (m + 7) 0 C (hu13_f 7 (by omega)) (had 7 (by omega) (by omega)) (gmem wd_80 rfl) rfl rfl (fun _ => rfl) (by decide) (by decide) (by decide) (Nat.le_of_ble_eq_true rfl) (Nat.le_of_ble_eq_true rfl) d_M_init_58 ?_
  obtain ⟨u14, hu14⟩ : ∃ z, z = gup u13 (m + 7) (.inl ((X.2 0), 16, .inl (fun _ => 0))) := ⟨_, rfl⟩
  rw [← hu14]
  have hu14_m : u14 m = some (.inr (6, [.int 0, .int 0, .ref (ad (m + 1)), .ref (ad (m + 2)), .ref (ad (m + 3)), .int (-1), .int 0, .int 0, .int 0, .ref (ad (m + 4)), .ref (ad (m + 5)), .int 0, .ref (ad (m + 6)), .null, .null, .int 0, .null, .null, .null, .null, .null, .null, .null, .null, .null, .null, .null, .null, .null, .null, .null, .null, .null])) := by rw [hu14, gup_ne (by omega)]; exact hu13_m
  have hu14_a : ∀ j, 1 ≤ j → j ≤ 7 → u14 (m + j) = some (mA X j) := by
    intro j h1 h2
    by_cases hj : j = 7
    · subst hj; rw [hu14]; exact gup_self _ _ _
    · rw [hu14, gup_ne (by omega)]; exact hu13_a j h1 (by omega)
  have hu14_f : ∀ j, 7 < j → u14 (m + j) = none := fun j h1 => by rw [hu14, gup_ne (by omega)]; exact hu13_f j (by omega)
  show GW Z _ _ _ ad u14 (sz + 7) [(0, .ref (ad m))] 7 112 60 [.ref (ad (m + 7)), .ref (ad m)]
  refine g_putF m 13 C hname hu14_m rfl i_M t_M t_M_ok n_M (by decide) (gmem wd_531 rfl) rfl rfl rfl rfl rfl (Nat.le_of_ble_eq_true rfl) d_M_init_60 ?_
  show GW Z _ _ _ ad (gup u14 m (.inr (6, [.int 0, .int 0, .ref (ad (m + 1)), .ref (ad (m + 2)), .ref (ad (m + 3)), .int (-1), .int 0, .int 0, .int 0, .ref (ad (m + 4)), .ref (ad (m + 5)), .int 0, .ref (ad (m + 6)), .ref (ad (m + 7)), .null, .int 0, .null, .null, .null, .null, .null, .null, .null, .null, .null, .null, .null, .null, .null, .null, .null, .null, .null]))) _ _ _ _ _ _
  obtain ⟨u15, hu15⟩ : ∃ z, z = gup u14 m (.inr (6, [.int 0, .int 0, .ref (ad (m + 1)), .ref (ad (m + 2)), .ref (ad (m + 3)), .int (-1), .int 0, .int 0, .int 0, .ref (ad (m + 4)), .ref (ad (m + 5)), .int 0, .ref (ad (m + 6)), .ref (ad (m + 7)), .null, .int 0, .null, .null, .null, .null, .null, .null, .null, .null, .null, .null, .null, .null, .null, .null, .null, .null, .null])) := ⟨_, rfl⟩
  rw [← hu15]
  have hu15_m : u15 m = some (.inr (6, [.int 0, .int 0, .ref (ad (m + 1)), .ref (ad (m + 2)), .ref (ad (m + 3)), .int (-1), .int 0, .int 0, .int 0, .ref (ad (m + 4)), .ref (ad (m + 5)), .int 0, .ref (ad (m + 6)), .ref (ad (m + 7)), .null, .int 0, .null, .null, .null, .null, .null, .null, .null, .null, .null, .null, .null, .null, .null, .null, .null, .null, .null])) := by rw [hu15]; exact gup_self _ _ _
  have hu15_a : ∀ j, 1 ≤ j → j ≤ 7 → u15 (m + j) = some (mA X j) := fun j h1 h2 => by rw [hu15, gup_ne (by omega)]; exact hu14_a j h1 h2
  have hu15_f : ∀ j, 7 < j → u15 (m + j) = none := fun j h1 => by rw [hu15, gup_ne (by omega)]; exact hu14_f j h1
  refine g_aload_n C d_M_init_63 rfl 0 rfl ?_
  refine g_bipush (v := 12) C d_M_init_64 (by decide) ?_
  refine g_newa (atype := .long) (ty := .long) (cA := (X.2 1)) (N := 12) (a0 := (12, .inr (.inl (fun _ => 0)))) (m + 8) 1 C (hu15_f 8 (by omega)) (had 8 (by omega) (by omega)) (gmem wd_60 rfl) rfl rfl (fun _ => rfl) (by decide) (by decide) (by decide) (Nat.le_of_ble_eq_true rfl) (Nat.le_of_ble_eq_true rfl) d_M_init_66 ?_
  obtain ⟨u16, hu16⟩ : ∃ z, z = gup u15 (m + 8) (.inl ((X.2 1), 12, .inr (.inl (fun _ => 0)))) := ⟨_, rfl⟩
  rw [← hu16]
  have hu16_m : u16 m = some (.inr (6, [.int 0, .int 0, .ref (ad (m + 1)), .ref (ad (m + 2)), .ref (ad (m + 3)), .int (-1), .int 0, .int 0, .int 0, .ref (ad (m + 4)), .ref (ad (m + 5)), .int 0, .ref (ad (m + 6)), .ref (ad (m + 7)), .null, .int 0, .null, .null, .null, .null, .null, .null, .null, .null, .null, .null, .null, .null, .null, .null, .null, .null, .null])) := by rw [hu16, gup_ne (by omega)]; exact hu15_m
  have hu16_a : ∀ j, 1 ≤ j → j ≤ 8 → u16 (m + j) = some (mA X j) := by
    intro j h1 h2
    by_cases hj : j = 8
    · subst hj; rw [hu16]; exact gup_self _ _ _
    · rw [hu16, gup_ne (by omega)]; exact hu15_a j h1 (by omega)
  have hu16_f : ∀ j, 8 < j → u16 (m + j) = none := fun j h1 => by rw [hu16, gup_ne (by omega)]; exact hu15_f j (by omega)
  show GW Z _ _ _ ad u16 (sz + 8) [(0, .ref (ad m))] 8 124 68 [.ref (ad (m + 8)), .ref (ad m)]
  refine g_putF m 14 C hname hu16_m rfl i_M t_M t_M_ok n_M (by decide) (gmem wd_532 rfl) rfl rfl rfl rfl rfl (Nat.le_of_ble_eq_true rfl) d_M_init_68 ?_
  show GW Z _ _ _ ad (gup u16 m (.inr (6, [.int 0, .int 0, .ref (ad (m + 1)), .ref (ad (m + 2)), .ref (ad (m + 3)), .int (-1), .int 0, .int 0, .int 0, .ref (ad (m + 4)), .ref (ad (m + 5)), .int 0, .ref (ad (m + 6)), .ref (ad (m + 7)), .ref (ad (m + 8)), .int 0, .null, .null, .null, .null, .null, .null, .null, .null, .null, .null, .null, .null, .null, .null, .null, .null, .null]))) _ _ _ _ _ _
  obtain ⟨u17, hu17⟩ : ∃ z, z = gup u16 m (.inr (6, [.int 0, .int 0, .ref (ad (m + 1)), .ref (ad (m + 2)), .ref (ad (m + 3)), .int (-1), .int 0, .int 0, .int 0, .ref (ad (m + 4)), .ref (ad (m + 5)), .int 0, .ref (ad (m + 6)), .ref (ad (m + 7)), .ref (ad (m + 8)), .int 0, .null, .null, .null, .null, .null, .null, .null, .null, .null, .null, .null, .null, .null, .null, .null, .null, .null])) := ⟨_, rfl⟩
  rw [← hu17]
  have hu17_m : u17 m = some (.inr (6, [.int 0, .int 0, .ref (ad (m + 1)), .ref (ad (m + 2)), .ref (ad (m + 3)), .int (-1), .int 0, .int 0, .int 0, .ref (ad (m + 4)), .ref (ad (m + 5)), .int 0, .ref (ad (m + 6)), .ref (ad (m + 7)), .ref (ad (m + 8)), .int 0, .null, .null, .null, .null, .null, .null, .null, .null, .null, .null, .null, .null, .null, .null, .null, .null, .null])) := by rw [hu17]; exact gup_self _ _ _
  have hu17_a : ∀ j, 1 ≤ j → j ≤ 8 → u17 (m + j) = some (mA X j) := fun j h1 h2 => by rw [hu17, gup_ne (by omega)]; exact hu16_a j h1 h2
  have hu17_f : ∀ j, 8 < j → u17 (m + j) = none := fun j h1 => by rw [hu17, gup_ne (by omega)]; exact hu16_f j h1
  refine g_aload_n C d_M_init_71 rfl 0 rfl ?_
  refine g_bipush (v := 64) C d_M_init_72 (by decide) ?_
  refine g_newa (atype := .int) (ty := .int) (cA := (X.2 0)) (N := 64) (a0 := (64, .inl (fun _ => 0))) (m + 9) 0 C (hu17_f 9 (by omega)) (had 9 (by omega) (by omega)) (gmem wd_80 rfl) rfl rfl (fun _ => rfl) (by decide) (by decide) (by decide) (Nat.le_of_ble_eq_true rfl) (Nat.le_of_ble_eq_true rfl) d_M_init_74 ?_
  obtain ⟨u18, hu18⟩ : ∃ z, z = gup u17 (m + 9) (.inl ((X.2 0), 64, .inl (fun _ => 0))) := ⟨_, rfl⟩
  rw [← hu18]
  have hu18_m : u18 m = some (.inr (6, [.int 0, .int 0, .ref (ad (m + 1)), .ref (ad (m + 2)), .ref (ad (m + 3)), .int (-1), .int 0, .int 0, .int 0, .ref (ad (m + 4)), .ref (ad (m + 5)), .int 0, .ref (ad (m + 6)), .ref (ad (m + 7)), .ref (ad (m + 8)), .int 0, .null, .null, .null, .null, .null, .null, .null, .null, .null, .null, .null, .null, .null, .null, .null, .null, .null])) := by rw [hu18, gup_ne (by omega)]; exact hu17_m
  have hu18_a : ∀ j, 1 ≤ j → j ≤ 9 → u18 (m + j) = some (mA X j) := by
    intro j h1 h2
    by_cases hj : j = 9
    · subst hj; rw [hu18]; exact gup_self _ _ _
    · rw [hu18, gup_ne (by omega)]; exact hu17_a j h1 (by omega)
  have hu18_f : ∀ j, 9 < j → u18 (m + j) = none := fun j h1 => by rw [hu18, gup_ne (by omega)]; exact hu17_f j (by omega)
  show GW Z _ _ _ ad u18 (sz + 9) [(0, .ref (ad m))] 9 188 76 [.ref (ad (m + 9)), .ref (ad m)]
  refine g_putF m 16 C hname hu18_m rfl i_M t_M t_M_ok n_M (by decide) (gmem wd_534 rfl) rfl rfl rfl rfl rfl (Nat.le_of_ble_eq_true rfl) d_M_init_76 ?_
  show GW Z _ _ _ ad (gup u18 m (.inr (6, [.int 0, .int 0, .ref (ad (m + 1)), .ref (ad (m + 2)), .ref (ad (m + 3)), .int (-1), .int 0, .int 0, .int 0, .ref (ad (m + 4)), .ref (ad (m + 5)), .int 0, .ref (ad (m + 6)), .ref (ad (m + 7)), .ref (ad (m + 8)), .int 0, .ref (ad (m + 9)), .null, .null, .null, .null, .null, .null, .null, .null, .null, .null, .null, .null, .null, .null, .null, .null]))) _ _ _ _ _ _
  obtain ⟨u19, hu19⟩ : ∃ z, z = gup u18 m (.inr (6, [.int 0, .int 0, .ref (ad (m + 1)), .ref (ad (m + 2)), .ref (ad (m + 3)), .int (-1), .int 0, .int 0, .int 0, .ref (ad (m + 4)), .ref (ad (m + 5)), .int 0, .ref (ad (m + 6)), .ref (ad (m + 7)), .ref (ad (m + 8)), .int 0, .ref (ad (m + 9)), .null, .null, .null, .null, .null, .null, .null, .null, .null, .null, .null, .null, .null, .null, .null, .null])) := ⟨_, rfl⟩
  rw [← hu19]
  have hu19_m : u19 m = some (.inr (6, [.int 0, .int 0, .ref (ad (m + 1)), .ref (ad (m + 2)), .ref (ad (m + 3)), .int (-1), .int 0, .int 0, .int 0, .ref (ad (m + 4)), .ref (ad (m + 5)), .int 0, .ref (ad (m + 6)), .ref (ad (m + 7)), .ref (ad (m + 8)), .int 0, .ref (ad (m + 9)), .null, .null, .null, .null, .null, .null, .null, .null, .null, .null, .null, .null, .null, .null, .null, .null])) := by rw [hu19]; exact gup_self _ _ _
  have hu19_a : ∀ j, 1 ≤ j → j ≤ 9 → u19 (m + j) = some (mA X j) := fun j h1 h2 => by rw [hu19, gup_ne (by omega)]; exact hu18_a j h1 h2
  have hu19_f : ∀ j, 9 < j → u19 (m + j) = none := fun j h1 => by rw [hu19, gup_ne (by omega)]; exact hu18_f j h1
  refine g_aload_n C d_M_init_79 rfl 0 rfl ?_
  refine g_bipush (v := 64) C d_M_init_80 (by decide) ?_
  refine g_newa (atype := .long) (ty := .long) (cA := (X.2 1)) (N := 64) (a0 := (64, .inr (.inl (fun _ => 0)))) (m + 10) 1 C (hu19_f 10 (by omega)) (had 10 (by omega) (by omega)) (gmem wd_60 rfl) rfl rfl (fun _ => rfl) (by decide) (by decide) (by decide) (Nat.le_of_ble_eq_true rfl) (Nat.le_of_ble_eq_true rfl) d_M_init_82 ?_
  obtain ⟨u20, hu20⟩ : ∃ z, z = gup u19 (m + 10) (.inl ((X.2 1), 64, .inr (.inl (fun _ => 0)))) := ⟨_, rfl⟩
  rw [← hu20]
  have hu20_m : u20 m = some (.inr (6, [.int 0, .int 0, .ref (ad (m + 1)), .ref (ad (m + 2)), .ref (ad (m + 3)), .int (-1), .int 0, .int 0, .int 0, .ref (ad (m + 4)), .ref (ad (m + 5)), .int 0, .ref (ad (m + 6)), .ref (ad (m + 7)), .ref (ad (m + 8)), .int 0, .ref (ad (m + 9)), .null, .null, .null, .null, .null, .null, .null, .null, .null, .null, .null, .null, .null, .null, .null, .null])) := by rw [hu20, gup_ne (by omega)]; exact hu19_m
  have hu20_a : ∀ j, 1 ≤ j → j ≤ 10 → u20 (m + j) = some (mA X j) := by
    intro j h1 h2
    by_cases hj : j = 10
    · subst hj; rw [hu20]; exact gup_self _ _ _
    · rw [hu20, gup_ne (by omega)]; exact hu19_a j h1 (by omega)
  have hu20_f : ∀ j, 10 < j → u20 (m + j) = none := fun j h1 => by rw [hu20, gup_ne (by omega)]; exact hu19_f j (by omega)
  show GW Z _ _ _ ad u20 (sz + 10) [(0, .ref (ad m))] 10 252 84 [.ref (ad (m + 10)), .ref (ad m)]
  refine g_putF m 17 C hname hu20_m rfl i_M t_M t_M_ok n_M (by decide) (gmem wd_535 rfl) rfl rfl rfl rfl rfl (Nat.le_of_ble_eq_true rfl) d_M_init_84 ?_
  show GW Z _ _ _ ad (gup u20 m (.inr (6, [.int 0, .int 0, .ref (ad (m + 1)), .ref (ad (m + 2)), .ref (ad (m + 3)), .int (-1), .int 0, .int 0, .int 0, .ref (ad (m + 4)), .ref (ad (m + 5)), .int 0, .ref (ad (m + 6)), .ref (ad (m + 7)), .ref (ad (m + 8)), .int 0, .ref (ad (m + 9)), .ref (ad (m + 10)), .null, .null, .null, .null, .null, .null, .null, .null, .null, .null, .null, .null, .null, .null, .null]))) _ _ _ _ _ _
  obtain ⟨u21, hu21⟩ : ∃ z, z = gup u20 m (.inr (6, [.int 0, .int 0, .ref (ad (m + 1)), .ref (ad (m + 2)), .ref (ad (m + 3)), .int (-1), .int 0, .int 0, .int 0, .ref (ad (m + 4)), .ref (ad (m + 5)), .int 0, .ref (ad (m + 6)), .ref (ad (m + 7)), .ref (ad (m + 8)), .int 0, .ref (ad (m + 9)), .ref (ad (m + 10)), .null, .null, .null, .null, .null, .null, .null, .null, .null, .null, .null, .null, .null, .null, .null])) := ⟨_, rfl⟩
  rw [← hu21]
  have hu21_m : u21 m = some (.inr (6, [.int 0, .int 0, .ref (ad (m + 1)), .ref (ad (m + 2)), .ref (ad (m + 3)), .int (-1), .int 0, .int 0, .int 0, .ref (ad (m + 4)), .ref (ad (m + 5)), .int 0, .ref (ad (m + 6)), .ref (ad (m + 7)), .ref (ad (m + 8)), .int 0, .ref (ad (m + 9)), .ref (ad (m + 10)), .null, .null, .null, .null, .null, .null, .null, .null, .null, .null, .null, .null, .null, .null, .null])) := by rw [hu21]; exact gup_self _ _ _
  have hu21_a : ∀ j, 1 ≤ j → j ≤ 10 → u21 (m + j) = some (mA X j) := fun j h1 h2 => by rw [hu21, gup_ne (by omega)]; exact hu20_a j h1 h2
  have hu21_f : ∀ j, 10 < j → u21 (m + j) = none := fun j h1 => by rw [hu21, gup_ne (by omega)]; exact hu20_f j h1
  refine g_aload_n C d_M_init_87 rfl 0 rfl ?_
  refine g_bipush (v := 64) C d_M_init_88 (by decide) ?_
  refine g_newa (atype := .boolean) (ty := .boolean) (cA := (X.2 2)) (N := 64) (a0 := (64, .inl (fun _ => 0))) (m + 11) 2 C (hu21_f 11 (by omega)) (had 11 (by omega) (by omega)) (gmem wd_159 rfl) rfl rfl (fun _ => rfl) (by decide) (by decide) (by decide) (Nat.le_of_ble_eq_true rfl) (Nat.le_of_ble_eq_true rfl) d_M_init_90 ?_
  obtain ⟨u22, hu22⟩ : ∃ z, z = gup u21 (m + 11) (.inl ((X.2 2), 64, .inl (fun _ => 0))) := ⟨_, rfl⟩
  rw [← hu22]
  have hu22_m : u22 m = some (.inr (6, [.int 0, .int 0, .ref (ad (m + 1)), .ref (ad (m + 2)), .ref (ad (m + 3)), .int (-1), .int 0, .int 0, .int 0, .ref (ad (m + 4)), .ref (ad (m + 5)), .int 0, .ref (ad (m + 6)), .ref (ad (m + 7)), .ref (ad (m + 8)), .int 0, .ref (ad (m + 9)), .ref (ad (m + 10)), .null, .null, .null, .null, .null, .null, .null, .null, .null, .null, .null, .null, .null, .null, .null])) := by rw [hu22, gup_ne (by omega)]; exact hu21_m
  have hu22_a : ∀ j, 1 ≤ j → j ≤ 11 → u22 (m + j) = some (mA X j) := by
    intro j h1 h2
    by_cases hj : j = 11
    · subst hj; rw [hu22]; exact gup_self _ _ _
    · rw [hu22, gup_ne (by omega)]; exact hu21_a j h1 (by omega)
  have hu22_f : ∀ j, 11 < j → u22 (m + j) = none := fun j h1 => by rw [hu22, gup_ne (by omega)]; exact hu21_f j (by omega)
  show GW Z _ _ _ ad u22 (sz + 11) [(0, .ref (ad m))] 11 316 92 [.ref (ad (m + 11)), .ref (ad m)]
  refine g_putF m 18 C hname hu22_m rfl i_M t_M t_M_ok n_M (by decide) (gmem wd_536 rfl) rfl rfl rfl rfl rfl (Nat.le_of_ble_eq_true rfl) d_M_init_92 ?_
  show GW Z _ _ _ ad (gup u22 m (.inr (6, [.int 0, .int 0, .ref (ad (m + 1)), .ref (ad (m + 2)), .ref (ad (m + 3)), .int (-1), .int 0, .int 0, .int 0, .ref (ad (m + 4)), .ref (ad (m + 5)), .int 0, .ref (ad (m + 6)), .ref (ad (m + 7)), .ref (ad (m + 8)), .int 0, .ref (ad (m + 9)), .ref (ad (m + 10)), .ref (ad (m + 11)), .null, .null, .null, .null, .null, .null, .null, .null, .null, .null, .null, .null, .null, .null]))) _ _ _ _ _ _
  obtain ⟨u23, hu23⟩ : ∃ z, z = gup u22 m (.inr (6, [.int 0, .int 0, .ref (ad (m + 1)), .ref (ad (m + 2)), .ref (ad (m + 3)), .int (-1), .int 0, .int 0, .int 0, .ref (ad (m + 4)), .ref (ad (m + 5)), .int 0, .ref (ad (m + 6)), .ref (ad (m + 7)), .ref (ad (m + 8)), .int 0, .ref (ad (m + 9)), .ref (ad (m + 10)), .ref (ad (m + 11)), .null, .null, .null, .null, .null, .null, .null, .null, .null, .null, .null, .null, .null, .null])) := ⟨_, rfl⟩
  rw [← hu23]
  have hu23_m : u23 m = some (.inr (6, [.int 0, .int 0, .ref (ad (m + 1)), .ref (ad (m + 2)), .ref (ad (m + 3)), .int (-1), .int 0, .int 0, .int 0, .ref (ad (m + 4)), .ref (ad (m + 5)), .int 0, .ref (ad (m + 6)), .ref (ad (m + 7)), .ref (ad (m + 8)), .int 0, .ref (ad (m + 9)), .ref (ad (m + 10)), .ref (ad (m + 11)), .null, .null, .null, .null, .null, .null, .null, .null, .null, .null, .null, .null, .null, .null])) := by rw [hu23]; exact gup_self _ _ _
  have hu23_a : ∀ j, 1 ≤ j → j ≤ 11 → u23 (m + j) = some (mA X j) := fun j h1 h2 => by rw [hu23, gup_ne (by omega)]; exact hu22_a j h1 h2
  have hu23_f : ∀ j, 11 < j → u23 (m + j) = none := fun j h1 => by rw [hu23, gup_ne (by omega)]; exact hu22_f j h1
  refine g_aload_n C d_M_init_95 rfl 0 rfl ?_
  refine g_sipush (v := 768) C d_M_init_96 (by decide) ?_
  refine g_newa (atype := .long) (ty := .long) (cA := (X.2 1)) (N := 768) (a0 := (768, .inr (.inl (fun _ => 0)))) (m + 12) 1 C (hu23_f 12 (by omega)) (had 12 (by omega) (by omega)) (gmem wd_60 rfl) rfl rfl (fun _ => rfl) (by decide) (by decide) (by decide) (Nat.le_of_ble_eq_true rfl) (Nat.le_of_ble_eq_true rfl) d_M_init_99 ?_
  obtain ⟨u24, hu24⟩ : ∃ z, z = gup u23 (m + 12) (.inl ((X.2 1), 768, .inr (.inl (fun _ => 0)))) := ⟨_, rfl⟩
  rw [← hu24]
  have hu24_m : u24 m = some (.inr (6, [.int 0, .int 0, .ref (ad (m + 1)), .ref (ad (m + 2)), .ref (ad (m + 3)), .int (-1), .int 0, .int 0, .int 0, .ref (ad (m + 4)), .ref (ad (m + 5)), .int 0, .ref (ad (m + 6)), .ref (ad (m + 7)), .ref (ad (m + 8)), .int 0, .ref (ad (m + 9)), .ref (ad (m + 10)), .ref (ad (m + 11)), .null, .null, .null, .null, .null, .null, .null, .null, .null, .null, .null, .null, .null, .null])) := by rw [hu24, gup_ne (by omega)]; exact hu23_m
  have hu24_a : ∀ j, 1 ≤ j → j ≤ 12 → u24 (m + j) = some (mA X j) := by
    intro j h1 h2
    by_cases hj : j = 12
    · subst hj; rw [hu24]; exact gup_self _ _ _
    · rw [hu24, gup_ne (by omega)]; exact hu23_a j h1 (by omega)
  have hu24_f : ∀ j, 12 < j → u24 (m + j) = none := fun j h1 => by rw [hu24, gup_ne (by omega)]; exact hu23_f j (by omega)
  show GW Z _ _ _ ad u24 (sz + 12) [(0, .ref (ad m))] 12 1084 101 [.ref (ad (m + 12)), .ref (ad m)]
  refine g_putF m 19 C hname hu24_m rfl i_M t_M t_M_ok n_M (by decide) (gmem wd_537 rfl) rfl rfl rfl rfl rfl (Nat.le_of_ble_eq_true rfl) d_M_init_101 ?_
  show GW Z _ _ _ ad (gup u24 m (.inr (6, [.int 0, .int 0, .ref (ad (m + 1)), .ref (ad (m + 2)), .ref (ad (m + 3)), .int (-1), .int 0, .int 0, .int 0, .ref (ad (m + 4)), .ref (ad (m + 5)), .int 0, .ref (ad (m + 6)), .ref (ad (m + 7)), .ref (ad (m + 8)), .int 0, .ref (ad (m + 9)), .ref (ad (m + 10)), .ref (ad (m + 11)), .ref (ad (m + 12)), .null, .null, .null, .null, .null, .null, .null, .null, .null, .null, .null, .null, .null]))) _ _ _ _ _ _
  obtain ⟨u25, hu25⟩ : ∃ z, z = gup u24 m (.inr (6, [.int 0, .int 0, .ref (ad (m + 1)), .ref (ad (m + 2)), .ref (ad (m + 3)), .int (-1), .int 0, .int 0, .int 0, .ref (ad (m + 4)), .ref (ad (m + 5)), .int 0, .ref (ad (m + 6)), .ref (ad (m + 7)), .ref (ad (m + 8)), .int 0, .ref (ad (m + 9)), .ref (ad (m + 10)), .ref (ad (m + 11)), .ref (ad (m + 12)), .null, .null, .null, .null, .null, .null, .null, .null, .null, .null, .null, .null, .null])) := ⟨_, rfl⟩
  rw [← hu25]
  have hu25_m : u25 m = some (.inr (6, [.int 0, .int 0, .ref (ad (m + 1)), .ref (ad (m + 2)), .ref (ad (m + 3)), .int (-1), .int 0, .int 0, .int 0, .ref (ad (m + 4)), .ref (ad (m + 5)), .int 0, .ref (ad (m + 6)), .ref (ad (m + 7)), .ref (ad (m + 8)), .int 0, .ref (ad (m + 9)), .ref (ad (m + 10)), .ref (ad (m + 11)), .ref (ad (m + 12)), .null, .null, .null, .null, .null, .null, .null, .null, .null, .null, .null, .null, .null])) := by rw [hu25]; exact gup_self _ _ _
  have hu25_a : ∀ j, 1 ≤ j → j ≤ 12 → u25 (m + j) = some (mA X j) := fun j h1 h2 => by rw [hu25, gup_ne (by omega)]; exact hu24_a j h1 h2
  have hu25_f : ∀ j, 12 < j → u25 (m + j) = none := fun j h1 => by rw [hu25, gup_ne (by omega)]; exact hu24_f j h1
  refine g_aload_n C d_M_init_104 rfl 0 rfl ?_
  refine g_sipush (v := 768) C d_M_init_105 (by decide) ?_
  refine g_newa (atype := .long) (ty := .long) (cA := (X.2 1)) (N := 768) (a0 := (768, .inr (.inl (fun _ => 0)))) (m + 13) 1 C (hu25_f 13 (by omega)) (had 13 (by omega) (by omega)) (gmem wd_60 rfl) rfl rfl (fun _ => rfl) (by decide) (by decide) (by decide) (Nat.le_of_ble_eq_true rfl) (Nat.le_of_ble_eq_true rfl) d_M_init_108 ?_
  obtain ⟨u26, hu26⟩ : ∃ z, z = gup u25 (m + 13) (.inl ((X.2 1), 768, .inr (.inl (fun _ => 0)))) := ⟨_, rfl⟩
  rw [← hu26]
  have hu26_m : u26 m = some (.inr (6, [.int 0, .int 0, .ref (ad (m + 1)), .ref (ad (m + 2)), .ref (ad (m + 3)), .int (-1), .int 0, .int 0, .int 0, .ref (ad (m + 4)), .ref (ad (m + 5)), .int 0, .ref (ad (m + 6)), .ref (ad (m + 7)), .ref (ad (m + 8)), .int 0, .ref (ad (m + 9)), .ref (ad (m + 10)), .ref (ad (m + 11)), .ref (ad (m + 12)), .null, .null, .null, .null, .null, .null, .null, .null, .null, .null, .null, .null, .null])) := by rw [hu26, gup_ne (by omega)]; exact hu25_m
  have hu26_a : ∀ j, 1 ≤ j → j ≤ 13 → u26 (m + j) = some (mA X j) := by
    intro j h1 h2
    by_cases hj : j = 13
    · subst hj; rw [hu26]; exact gup_self _ _ _
    · rw [hu26, gup_ne (by omega)]; exact hu25_a j h1 (by omega)
  have hu26_f : ∀ j, 13 < j → u26 (m + j) = none := fun j h1 => by rw [hu26, gup_ne (by omega)]; exact hu25_f j (by omega)
  show GW Z _ _ _ ad u26 (sz + 13) [(0, .ref (ad m))] 13 1852 110 [.ref (ad (m + 13)), .ref (ad m)]
  refine g_putF m 20 C hname hu26_m rfl i_M t_M t_M_ok n_M (by decide) (gmem wd_538 rfl) rfl rfl rfl rfl rfl (Nat.le_of_ble_eq_true rfl) d_M_init_110 ?_
  show GW Z _ _ _ ad (gup u26 m (.inr (6, [.int 0, .int 0, .ref (ad (m + 1)), .ref (ad (m + 2)), .ref (ad (m + 3)), .int (-1), .int 0, .int 0, .int 0, .ref (ad (m + 4)), .ref (ad (m + 5)), .int 0, .ref (ad (m + 6)), .ref (ad (m + 7)), .ref (ad (m + 8)), .int 0, .ref (ad (m + 9)), .ref (ad (m + 10)), .ref (ad (m + 11)), .ref (ad (m + 12)), .ref (ad (m + 13)), .null, .null, .null, .null, .null, .null, .null, .null, .null, .null, .null, .null]))) _ _ _ _ _ _
  obtain ⟨u27, hu27⟩ : ∃ z, z = gup u26 m (.inr (6, [.int 0, .int 0, .ref (ad (m + 1)), .ref (ad (m + 2)), .ref (ad (m + 3)), .int (-1), .int 0, .int 0, .int 0, .ref (ad (m + 4)), .ref (ad (m + 5)), .int 0, .ref (ad (m + 6)), .ref (ad (m + 7)), .ref (ad (m + 8)), .int 0, .ref (ad (m + 9)), .ref (ad (m + 10)), .ref (ad (m + 11)), .ref (ad (m + 12)), .ref (ad (m + 13)), .null, .null, .null, .null, .null, .null, .null, .null, .null, .null, .null, .null])) := ⟨_, rfl⟩
  rw [← hu27]
  have hu27_m : u27 m = some (.inr (6, [.int 0, .int 0, .ref (ad (m + 1)), .ref (ad (m + 2)), .ref (ad (m + 3)), .int (-1), .int 0, .int 0, .int 0, .ref (ad (m + 4)), .ref (ad (m + 5)), .int 0, .ref (ad (m + 6)), .ref (ad (m + 7)), .ref (ad (m + 8)), .int 0, .ref (ad (m + 9)), .ref (ad (m + 10)), .ref (ad (m + 11)), .ref (ad (m + 12)), .ref (ad (m + 13)), .null, .null, .null, .null, .null, .null, .null, .null, .null, .null, .null, .null])) := by rw [hu27]; exact gup_self _ _ _
  have hu27_a : ∀ j, 1 ≤ j → j ≤ 13 → u27 (m + j) = some (mA X j) := fun j h1 h2 => by rw [hu27, gup_ne (by omega)]; exact hu26_a j h1 h2
  have hu27_f : ∀ j, 13 < j → u27 (m + j) = none := fun j h1 => by rw [hu27, gup_ne (by omega)]; exact hu26_f j h1
  refine g_aload_n C d_M_init_113 rfl 0 rfl ?_
  refine g_sipush (v := 768) C d_M_init_114 (by decide) ?_
  refine g_newa (atype := .long) (ty := .long) (cA := (X.2 1)) (N := 768) (a0 := (768, .inr (.inl (fun _ => 0)))) (m + 14) 1 C (hu27_f 14 (by omega)) (had 14 (by omega) (by omega)) (gmem wd_60 rfl) rfl rfl (fun _ => rfl) (by decide) (by decide) (by decide) (Nat.le_of_ble_eq_true rfl) (Nat.le_of_ble_eq_true rfl) d_M_init_117 ?_
  obtain ⟨u28, hu28⟩ : ∃ z, z = gup u27 (m + 14) (.inl ((X.2 1), 768, .inr (.inl (fun _ => 0)))) := ⟨_, rfl⟩
  rw [← hu28]
  have hu28_m : u28 m = some (.inr (6, [.int 0, .int 0, .ref (ad (m + 1)), .ref (ad (m + 2)), .ref (ad (m + 3)), .int (-1), .int 0, .int 0, .int 0, .ref (ad (m + 4)), .ref (ad (m + 5)), .int 0, .ref (ad (m + 6)), .ref (ad (m + 7)), .ref (ad (m + 8)), .int 0, .ref (ad (m + 9)), .ref (ad (m + 10)), .ref (ad (m + 11)), .ref (ad (m + 12)), .ref (ad (m + 13)), .null, .null, .null, .null, .null, .null, .null, .null, .null, .null, .null, .null])) := by rw [hu28, gup_ne (by omega)]; exact hu27_m
  have hu28_a : ∀ j, 1 ≤ j → j ≤ 14 → u28 (m + j) = some (mA X j) := by
    intro j h1 h2
    by_cases hj : j = 14
    · subst hj; rw [hu28]; exact gup_self _ _ _
    · rw [hu28, gup_ne (by omega)]; exact hu27_a j h1 (by omega)
  have hu28_f : ∀ j, 14 < j → u28 (m + j) = none := fun j h1 => by rw [hu28, gup_ne (by omega)]; exact hu27_f j (by omega)
  show GW Z _ _ _ ad u28 (sz + 14) [(0, .ref (ad m))] 14 2620 119 [.ref (ad (m + 14)), .ref (ad m)]
  refine g_putF m 21 C hname hu28_m rfl i_M t_M t_M_ok n_M (by decide) (gmem wd_539 rfl) rfl rfl rfl rfl rfl (Nat.le_of_ble_eq_true rfl) d_M_init_119 ?_
  show GW Z _ _ _ ad (gup u28 m (.inr (6, [.int 0, .int 0, .ref (ad (m + 1)), .ref (ad (m + 2)), .ref (ad (m + 3)), .int (-1), .int 0, .int 0, .int 0, .ref (ad (m + 4)), .ref (ad (m + 5)), .int 0, .ref (ad (m + 6)), .ref (ad (m + 7)), .ref (ad (m + 8)), .int 0, .ref (ad (m + 9)), .ref (ad (m + 10)), .ref (ad (m + 11)), .ref (ad (m + 12)), .ref (ad (m + 13)), .ref (ad (m + 14)), .null, .null, .null, .null, .null, .null, .null, .null, .null, .null, .null]))) _ _ _ _ _ _
  obtain ⟨u29, hu29⟩ : ∃ z, z = gup u28 m (.inr (6, [.int 0, .int 0, .ref (ad (m + 1)), .ref (ad (m + 2)), .ref (ad (m + 3)), .int (-1), .int 0, .int 0, .int 0, .ref (ad (m + 4)), .ref (ad (m + 5)), .int 0, .ref (ad (m + 6)), .ref (ad (m + 7)), .ref (ad (m + 8)), .int 0, .ref (ad (m + 9)), .ref (ad (m + 10)), .ref (ad (m + 11)), .ref (ad (m + 12)), .ref (ad (m + 13)), .ref (ad (m + 14)), .null, .null, .null, .null, .null, .null, .null, .null, .null, .null, .null])) := ⟨_, rfl⟩
  rw [← hu29]
  have hu29_m : u29 m = some (.inr (6, [.int 0, .int 0, .ref (ad (m + 1)), .ref (ad (m + 2)), .ref (ad (m + 3)), .int (-1), .int 0, .int 0, .int 0, .ref (ad (m + 4)), .ref (ad (m + 5)), .int 0, .ref (ad (m + 6)), .ref (ad (m + 7)), .ref (ad (m + 8)), .int 0, .ref (ad (m + 9)), .ref (ad (m + 10)), .ref (ad (m + 11)), .ref (ad (m + 12)), .ref (ad (m + 13)), .ref (ad (m + 14)), .null, .null, .null, .null, .null, .null, .null, .null, .null, .null, .null])) := by rw [hu29]; exact gup_self _ _ _
  have hu29_a : ∀ j, 1 ≤ j → j ≤ 14 → u29 (m + j) = some (mA X j) := fun j h1 h2 => by rw [hu29, gup_ne (by omega)]; exact hu28_a j h1 h2
  have hu29_f : ∀ j, 14 < j → u29 (m + j) = none := fun j h1 => by rw [hu29, gup_ne (by omega)]; exact hu28_f j h1
  refine g_aload_n C d_M_init_122 rfl 0 rfl ?_
  refine g_bipush (v := 48) C d_M_init_123 (by decide) ?_
  refine g_newa (atype := .long) (ty := .long) (cA := (X.2 1)) (N := 48) (a0 := (48, .inr (.inl (fun _ => 0)))) (m + 15) 1 C (hu29_f 15 (by omega)) (had 15 (by omega) (by omega)) (gmem wd_60 rfl) rfl rfl (fun _ => rfl) (by decide) (by decide) (by decide) (Nat.le_of_ble_eq_true rfl) (Nat.le_of_ble_eq_true rfl) d_M_init_125 ?_
  obtain ⟨u30, hu30⟩ : ∃ z, z = gup u29 (m + 15) (.inl ((X.2 1), 48, .inr (.inl (fun _ => 0)))) := ⟨_, rfl⟩
  rw [← hu30]
  have hu30_m : u30 m = some (.inr (6, [.int 0, .int 0, .ref (ad (m + 1)), .ref (ad (m + 2)), .ref (ad (m + 3)), .int (-1), .int 0, .int 0, .int 0, .ref (ad (m + 4)), .ref (ad (m + 5)), .int 0, .ref (ad (m + 6)), .ref (ad (m + 7)), .ref (ad (m + 8)), .int 0, .ref (ad (m + 9)), .ref (ad (m + 10)), .ref (ad (m + 11)), .ref (ad (m + 12)), .ref (ad (m + 13)), .ref (ad (m + 14)), .null, .null, .null, .null, .null, .null, .null, .null, .null, .null, .null])) := by rw [hu30, gup_ne (by omega)]; exact hu29_m
  have hu30_a : ∀ j, 1 ≤ j → j ≤ 15 → u30 (m + j) = some (mA X j) := by
    intro j h1 h2
    by_cases hj : j = 15
    · subst hj; rw [hu30]; exact gup_self _ _ _
    · rw [hu30, gup_ne (by omega)]; exact hu29_a j h1 (by omega)
  have hu30_f : ∀ j, 15 < j → u30 (m + j) = none := fun j h1 => by rw [hu30, gup_ne (by omega)]; exact hu29_f j (by omega)
  show GW Z _ _ _ ad u30 (sz + 15) [(0, .ref (ad m))] 15 2668 127 [.ref (ad (m + 15)), .ref (ad m)]
  refine g_putF m 22 C hname hu30_m rfl i_M t_M t_M_ok n_M (by decide) (gmem wd_540 rfl) rfl rfl rfl rfl rfl (Nat.le_of_ble_eq_true rfl) d_M_init_127 ?_
  show GW Z _ _ _ ad (gup u30 m (.inr (6, [.int 0, .int 0, .ref (ad (m + 1)), .ref (ad (m + 2)), .ref (ad (m + 3)), .int (-1), .int 0, .int 0, .int 0, .ref (ad (m + 4)), .ref (ad (m + 5)), .int 0, .ref (ad (m + 6)), .ref (ad (m + 7)), .ref (ad (m + 8)), .int 0, .ref (ad (m + 9)), .ref (ad (m + 10)), .ref (ad (m + 11)), .ref (ad (m + 12)), .ref (ad (m + 13)), .ref (ad (m + 14)), .ref (ad (m + 15)), .null, .null, .null, .null, .null, .null, .null, .null, .null, .null]))) _ _ _ _ _ _
  obtain ⟨u31, hu31⟩ : ∃ z, z = gup u30 m (.inr (6, [.int 0, .int 0, .ref (ad (m + 1)), .ref (ad (m + 2)), .ref (ad (m + 3)), .int (-1), .int 0, .int 0, .int 0, .ref (ad (m + 4)), .ref (ad (m + 5)), .int 0, .ref (ad (m + 6)), .ref (ad (m + 7)), .ref (ad (m + 8)), .int 0, .ref (ad (m + 9)), .ref (ad (m + 10)), .ref (ad (m + 11)), .ref (ad (m + 12)), .ref (ad (m + 13)), .ref (ad (m + 14)), .ref (ad (m + 15)), .null, .null, .null, .null, .null, .null, .null, .null, .null, .null])) := ⟨_, rfl⟩
  rw [← hu31]
  have hu31_m : u31 m = some (.inr (6, [.int 0, .int 0, .ref (ad (m + 1)), .ref (ad (m + 2)), .ref (ad (m + 3)), .int (-1), .int 0, .int 0, .int 0, .ref (ad (m + 4)), .ref (ad (m + 5)), .int 0, .ref (ad (m + 6)), .ref (ad (m + 7)), .ref (ad (m + 8)), .int 0, .ref (ad (m + 9)), .ref (ad (m + 10)), .ref (ad (m + 11)), .ref (ad (m + 12)), .ref (ad (m + 13)), .ref (ad (m + 14)), .ref (ad (m + 15)), .null, .null, .null, .null, .null, .null, .null, .null, .null, .null])) := by rw [hu31]; exact gup_self _ _ _
  have hu31_a : ∀ j, 1 ≤ j → j ≤ 15 → u31 (m + j) = some (mA X j) := fun j h1 h2 => by rw [hu31, gup_ne (by omega)]; exact hu30_a j h1 h2
  have hu31_f : ∀ j, 15 < j → u31 (m + j) = none := fun j h1 => by rw [hu31, gup_ne (by omega)]; exact hu30_f j h1
  refine g_aload_n C d_M_init_130 rfl 0 rfl ?_
  refine g_iconst (v := 4) C d_M_init_131 (by decide) ?_
  refine g_newa (atype := .boolean) (ty := .boolean) (cA := (X.2 2)) (N := 4) (a0 := (4, .inl (fun _ => 0))) (m + 16) 2 C (hu31_f 16 (by omega)) (had 16 (by omega) (by omega)) (gmem wd_159 rfl) rfl rfl (fun _ => rfl) (by decide) (by decide) (by decide) (Nat.le_of_ble_eq_true rfl) (Nat.le_of_ble_eq_true rfl) d_M_init_132 ?_
  obtain ⟨u32, hu32⟩ : ∃ z, z = gup u31 (m + 16) (.inl ((X.2 2), 4, .inl (fun _ => 0))) := ⟨_, rfl⟩
  rw [← hu32]
  have hu32_m : u32 m = some (.inr (6, [.int 0, .int 0, .ref (ad (m + 1)), .ref (ad (m + 2)), .ref (ad (m + 3)), .int (-1), .int 0, .int 0, .int 0, .ref (ad (m + 4)), .ref (ad (m + 5)), .int 0, .ref (ad (m + 6)), .ref (ad (m + 7)), .ref (ad (m + 8)), .int 0, .ref (ad (m + 9)), .ref (ad (m + 10)), .ref (ad (m + 11)), .ref (ad (m + 12)), .ref (ad (m + 13)), .ref (ad (m + 14)), .ref (ad (m + 15)), .null, .null, .null, .null, .null, .null, .null, .null, .null, .null])) := by rw [hu32, gup_ne (by omega)]; exact hu31_m
  have hu32_a : ∀ j, 1 ≤ j → j ≤ 16 → u32 (m + j) = some (mA X j) := by
    intro j h1 h2
    by_cases hj : j = 16
    · subst hj; rw [hu32]; exact gup_self _ _ _
    · rw [hu32, gup_ne (by omega)]; exact hu31_a j h1 (by omega)
  have hu32_f : ∀ j, 16 < j → u32 (m + j) = none := fun j h1 => by rw [hu32, gup_ne (by omega)]; exact hu31_f j (by omega)
  show GW Z _ _ _ ad u32 (sz + 16) [(0, .ref (ad m))] 16 2672 134 [.ref (ad (m + 16)), .ref (ad m)]
  refine g_putF m 23 C hname hu32_m rfl i_M t_M t_M_ok n_M (by decide) (gmem wd_541 rfl) rfl rfl rfl rfl rfl (Nat.le_of_ble_eq_true rfl) d_M_init_134 ?_
  show GW Z _ _ _ ad (gup u32 m (.inr (6, [.int 0, .int 0, .ref (ad (m + 1)), .ref (ad (m + 2)), .ref (ad (m + 3)), .int (-1), .int 0, .int 0, .int 0, .ref (ad (m + 4)), .ref (ad (m + 5)), .int 0, .ref (ad (m + 6)), .ref (ad (m + 7)), .ref (ad (m + 8)), .int 0, .ref (ad (m + 9)), .ref (ad (m + 10)), .ref (ad (m + 11)), .ref (ad (m + 12)), .ref (ad (m + 13)), .ref (ad (m + 14)), .ref (ad (m + 15)), .ref (ad (m + 16)), .null, .null, .null, .null, .null, .null, .null, .null, .null]))) _ _ _ _ _ _
  obtain ⟨u33, hu33⟩ : ∃ z, z = gup u32 m (.inr (6, [.int 0, .int 0, .ref (ad (m + 1)), .ref (ad (m + 2)), .ref (ad (m + 3)), .int (-1), .int 0, .int 0, .int 0, .ref (ad (m + 4)), .ref (ad (m + 5)), .int 0, .ref (ad (m + 6)), .ref (ad (m + 7)), .ref (ad (m + 8)), .int 0, .ref (ad (m + 9)), .ref (ad (m + 10)), .ref (ad (m + 11)), .ref (ad (m + 12)), .ref (ad (m + 13)), .ref (ad (m + 14)), .ref (ad (m + 15)), .ref (ad (m + 16)), .null, .null, .null, .null, .null, .null, .null, .null, .null])) := ⟨_, rfl⟩
  rw [← hu33]
  have hu33_m : u33 m = some (.inr (6, [.int 0, .int 0, .ref (ad (m + 1)), .ref (ad (m + 2)), .ref (ad (m + 3)), .int (-1), .int 0, .int 0, .int 0, .ref (ad (m + 4)), .ref (ad (m + 5)), .int 0, .ref (ad (m + 6)), .ref (ad (m + 7)), .ref (ad (m + 8)), .int 0, .ref (ad (m + 9)), .ref (ad (m + 10)), .ref (ad (m + 11)), .ref (ad (m + 12)), .ref (ad (m + 13)), .ref (ad (m + 14)), .ref (ad (m + 15)), .ref (ad (m + 16)), .null, .null, .null, .null, .null, .null, .null, .null, .null])) := by rw [hu33]; exact gup_self _ _ _
  have hu33_a : ∀ j, 1 ≤ j → j ≤ 16 → u33 (m + j) = some (mA X j) := fun j h1 h2 => by rw [hu33, gup_ne (by omega)]; exact hu32_a j h1 h2
  have hu33_f : ∀ j, 16 < j → u33 (m + j) = none := fun j h1 => by rw [hu33, gup_ne (by omega)]; exact hu32_f j h1
  refine g_aload_n C d_M_init_137 rfl 0 rfl ?_
  refine g_iconst (v := 4) C d_M_init_138 (by decide) ?_
  refine g_newa (atype := .int) (ty := .int) (cA := (X.2 0)) (N := 4) (a0 := (4, .inl (fun _ => 0))) (m + 17) 0 C (hu33_f 17 (by omega)) (had 17 (by omega) (by omega)) (gmem wd_80 rfl) rfl rfl (fun _ => rfl) (by decide) (by decide) (by decide) (Nat.le_of_ble_eq_true rfl) (Nat.le_of_ble_eq_true rfl) d_M_init_139 ?_
  obtain ⟨u34, hu34⟩ : ∃ z, z = gup u33 (m + 17) (.inl ((X.2 0), 4, .inl (fun _ => 0))) := ⟨_, rfl⟩
  rw [← hu34]
  have hu34_m : u34 m = some (.inr (6, [.int 0, .int 0, .ref (ad (m + 1)), .ref (ad (m + 2)), .ref (ad (m + 3)), .int (-1), .int 0, .int 0, .int 0, .ref (ad (m + 4)), .ref (ad (m + 5)), .int 0, .ref (ad (m + 6)), .ref (ad (m + 7)), .ref (ad (m + 8)), .int 0, .ref (ad (m + 9)), .ref (ad (m + 10)), .ref (ad (m + 11)), .ref (ad (m + 12)), .ref (ad (m + 13)), .ref (ad (m + 14)), .ref (ad (m + 15)), .ref (ad (m + 16)), .null, .null, .null, .null, .null, .null, .null, .null, .null])) := by rw [hu34, gup_ne (by omega)]; exact hu33_m
  have hu34_a : ∀ j, 1 ≤ j → j ≤ 17 → u34 (m + j) = some (mA X j) := by
    intro j h1 h2
    by_cases hj : j = 17
    · subst hj; rw [hu34]; exact gup_self _ _ _
    · rw [hu34, gup_ne (by omega)]; exact hu33_a j h1 (by omega)
  have hu34_f : ∀ j, 17 < j → u34 (m + j) = none := fun j h1 => by rw [hu34, gup_ne (by omega)]; exact hu33_f j (by omega)
  show GW Z _ _ _ ad u34 (sz + 17) [(0, .ref (ad m))] 17 2676 141 [.ref (ad (m + 17)), .ref (ad m)]
  refine g_putF m 24 C hname hu34_m rfl i_M t_M t_M_ok n_M (by decide) (gmem wd_542 rfl) rfl rfl rfl rfl rfl (Nat.le_of_ble_eq_true rfl) d_M_init_141 ?_
  show GW Z _ _ _ ad (gup u34 m (.inr (6, [.int 0, .int 0, .ref (ad (m + 1)), .ref (ad (m + 2)), .ref (ad (m + 3)), .int (-1), .int 0, .int 0, .int 0, .ref (ad (m + 4)), .ref (ad (m + 5)), .int 0, .ref (ad (m + 6)), .ref (ad (m + 7)), .ref (ad (m + 8)), .int 0, .ref (ad (m + 9)), .ref (ad (m + 10)), .ref (ad (m + 11)), .ref (ad (m + 12)), .ref (ad (m + 13)), .ref (ad (m + 14)), .ref (ad (m + 15)), .ref (ad (m + 16)), .ref (ad (m + 17)), .null, .null, .null, .null, .null, .null, .null, .null]))) _ _ _ _ _ _
  obtain ⟨u35, hu35⟩ : ∃ z, z = gup u34 m (.inr (6, [.int 0, .int 0, .ref (ad (m + 1)), .ref (ad (m + 2)), .ref (ad (m + 3)), .int (-1), .int 0, .int 0, .int 0, .ref (ad (m + 4)), .ref (ad (m + 5)), .int 0, .ref (ad (m + 6)), .ref (ad (m + 7)), .ref (ad (m + 8)), .int 0, .ref (ad (m + 9)), .ref (ad (m + 10)), .ref (ad (m + 11)), .ref (ad (m + 12)), .ref (ad (m + 13)), .ref (ad (m + 14)), .ref (ad (m + 15)), .ref (ad (m + 16)), .ref (ad (m + 17)), .null, .null, .null, .null, .null, .null, .null, .null])) := ⟨_, rfl⟩
  rw [← hu35]
  have hu35_m : u35 m = some (.inr (6, [.int 0, .int 0, .ref (ad (m + 1)), .ref (ad (m + 2)), .ref (ad (m + 3)), .int (-1), .int 0, .int 0, .int 0, .ref (ad (m + 4)), .ref (ad (m + 5)), .int 0, .ref (ad (m + 6)), .ref (ad (m + 7)), .ref (ad (m + 8)), .int 0, .ref (ad (m + 9)), .ref (ad (m + 10)), .ref (ad (m + 11)), .ref (ad (m + 12)), .ref (ad (m + 13)), .ref (ad (m + 14)), .ref (ad (m + 15)), .ref (ad (m + 16)), .ref (ad (m + 17)), .null, .null, .null, .null, .null, .null, .null, .null])) := by rw [hu35]; exact gup_self _ _ _
  have hu35_a : ∀ j, 1 ≤ j → j ≤ 17 → u35 (m + j) = some (mA X j) := fun j h1 h2 => by rw [hu35, gup_ne (by omega)]; exact hu34_a j h1 h2
  have hu35_f : ∀ j, 17 < j → u35 (m + j) = none := fun j h1 => by rw [hu35, gup_ne (by omega)]; exact hu34_f j h1
  refine g_aload_n C d_M_init_144 rfl 0 rfl ?_
  refine g_bipush (v := 48) C d_M_init_145 (by decide) ?_
  refine g_newa (atype := .int) (ty := .int) (cA := (X.2 0)) (N := 48) (a0 := (48, .inl (fun _ => 0))) (m + 18) 0 C (hu35_f 18 (by omega)) (had 18 (by omega) (by omega)) (gmem wd_80 rfl) rfl rfl (fun _ => rfl) (by decide) (by decide) (by decide) (Nat.le_of_ble_eq_true rfl) (Nat.le_of_ble_eq_true rfl) d_M_init_147 ?_
  obtain ⟨u36, hu36⟩ : ∃ z, z = gup u35 (m + 18) (.inl ((X.2 0), 48, .inl (fun _ => 0))) := ⟨_, rfl⟩
  rw [← hu36]
  have hu36_m : u36 m = some (.inr (6, [.int 0, .int 0, .ref (ad (m + 1)), .ref (ad (m + 2)), .ref (ad (m + 3)), .int (-1), .int 0, .int 0, .int 0, .ref (ad (m + 4)), .ref (ad (m + 5)), .int 0, .ref (ad (m + 6)), .ref (ad (m + 7)), .ref (ad (m + 8)), .int 0, .ref (ad (m + 9)), .ref (ad (m + 10)), .ref (ad (m + 11)), .ref (ad (m + 12)), .ref (ad (m + 13)), .ref (ad (m + 14)), .ref (ad (m + 15)), .ref (ad (m + 16)), .ref (ad (m + 17)), .null, .null, .null, .null, .null, .null, .null, .null])) := by rw [hu36, gup_ne (by omega)]; exact hu35_m
  have hu36_a : ∀ j, 1 ≤ j → j ≤ 18 → u36 (m + j) = some (mA X j) := by
    intro j h1 h2
    by_cases hj : j = 18
    · subst hj; rw [hu36]; exact gup_self _ _ _
    · rw [hu36, gup_ne (by omega)]; exact hu35_a j h1 (by omega)
  have hu36_f : ∀ j, 18 < j → u36 (m + j) = none := fun j h1 => by rw [hu36, gup_ne (by omega)]; exact hu35_f j (by omega)
  show GW Z _ _ _ ad u36 (sz + 18) [(0, .ref (ad m))] 18 2724 149 [.ref (ad (m + 18)), .ref (ad m)]
  refine g_putF m 25 C hname hu36_m rfl i_M t_M t_M_ok n_M (by decide) (gmem wd_543 rfl) rfl rfl rfl rfl rfl (Nat.le_of_ble_eq_true rfl) d_M_init_149 ?_
  show GW Z _ _ _ ad (gup u36 m (.inr (6, [.int 0, .int 0, .ref (ad (m + 1)), .ref (ad (m + 2)), .ref (ad (m + 3)), .int (-1), .int 0, .int 0, .int 0, .ref (ad (m + 4)), .ref (ad (m + 5)), .int 0, .ref (ad (m + 6)), .ref (ad (m + 7)), .ref (ad (m + 8)), .int 0, .ref (ad (m + 9)), .ref (ad (m + 10)), .ref (ad (m + 11)), .ref (ad (m + 12)), .ref (ad (m + 13)), .ref (ad (m + 14)), .ref (ad (m + 15)), .ref (ad (m + 16)), .ref (ad (m + 17)), .ref (ad (m + 18)), .null, .null, .null, .null, .null, .null, .null]))) _ _ _ _ _ _
  obtain ⟨u37, hu37⟩ : ∃ z, z = gup u36 m (.inr (6, [.int 0, .int 0, .ref (ad (m + 1)), .ref (ad (m + 2)), .ref (ad (m + 3)), .int (-1), .int 0, .int 0, .int 0, .ref (ad (m + 4)), .ref (ad (m + 5)), .int 0, .ref (ad (m + 6)), .ref (ad (m + 7)), .ref (ad (m + 8)), .int 0, .ref (ad (m + 9)), .ref (ad (m + 10)), .ref (ad (m + 11)), .ref (ad (m + 12)), .ref (ad (m + 13)), .ref (ad (m + 14)), .ref (ad (m + 15)), .ref (ad (m + 16)), .ref (ad (m + 17)), .ref (ad (m + 18)), .null, .null, .null, .null, .null, .null, .null])) := ⟨_, rfl⟩
  rw [← hu37]
  have hu37_m : u37 m = some (.inr (6, [.int 0, .int 0, .ref (ad (m + 1)), .ref (ad (m + 2)), .ref (ad (m + 3)), .int (-1), .int 0, .int 0, .int 0, .ref (ad (m + 4)), .ref (ad (m + 5)), .int 0, .ref (ad (m + 6)), .ref (ad (m + 7)), .ref (ad (m + 8)), .int 0, .ref (ad (m + 9)), .ref (ad (m + 10)), .ref (ad (m + 11)), .ref (ad (m + 12)), .ref (ad (m + 13)), .ref (ad (m + 14)), .ref (ad (m + 15)), .ref (ad (m + 16)), .ref (ad (m + 17)), .ref (ad (m + 18)), .null, .null, .null, .null, .null, .null, .null])) := by rw [hu37]; exact gup_self _ _ _
  have hu37_a : ∀ j, 1 ≤ j → j ≤ 18 → u37 (m + j) = some (mA X j) := fun j h1 h2 => by rw [hu37, gup_ne (by omega)]; exact hu36_a j h1 h2
  have hu37_f : ∀ j, 18 < j → u37 (m + j) = none := fun j h1 => by rw [hu37, gup_ne (by omega)]; exact hu36_f j h1
  refine g_aload_n C d_M_init_152 rfl 0 rfl ?_
  refine g_iconst (v := 4) C d_M_init_153 (by decide) ?_
  refine g_newa (atype := .int) (ty := .int) (cA := (X.2 0)) (N := 4) (a0 := (4, .inl (fun _ => 0))) (m + 19) 0 C (hu37_f 19 (by omega)) (had 19 (by omega) (by omega)) (gmem wd_80 rfl) rfl rfl (fun _ => rfl) (by decide) (by decide) (by decide) (Nat.le_of_ble_eq_true rfl) (Nat.le_of_ble_eq_true rfl) d_M_init_154 ?_
  obtain ⟨u38, hu38⟩ : ∃ z, z = gup u37 (m + 19) (.inl ((X.2 0), 4, .inl (fun _ => 0))) := ⟨_, rfl⟩
  rw [← hu38]
  have hu38_m : u38 m = some (.inr (6, [.int 0, .int 0, .ref (ad (m + 1)), .ref (ad (m + 2)), .ref (ad (m + 3)), .int (-1), .int 0, .int 0, .int 0, .ref (ad (m + 4)), .ref (ad (m + 5)), .int 0, .ref (ad (m + 6)), .ref (ad (m + 7)), .ref (ad (m + 8)), .int 0, .ref (ad (m + 9)), .ref (ad (m + 10)), .ref (ad (m + 11)), .ref (ad (m + 12)), .ref (ad (m + 13)), .ref (ad (m + 14)), .ref (ad (m + 15)), .ref (ad (m + 16)), .ref (ad (m + 17)), .ref (ad (m + 18)), .null, .null, .null, .null, .null, .null, .null])) := by rw [hu38, gup_ne (by omega)]; exact hu37_m
  have hu38_a : ∀ j, 1 ≤ j → j ≤ 19 → u38 (m + j) = some (mA X j) := by
    intro j h1 h2
    by_cases hj : j = 19
    · subst hj; rw [hu38]; exact gup_self _ _ _
    · rw [hu38, gup_ne (by omega)]; exact hu37_a j h1 (by omega)
  have hu38_f : ∀ j, 19 < j → u38 (m + j) = none := fun j h1 => by rw [hu38, gup_ne (by omega)]; exact hu37_f j (by omega)
  show GW Z _ _ _ ad u38 (sz + 19) [(0, .ref (ad m))] 19 2728 156 [.ref (ad (m + 19)), .ref (ad m)]
  refine g_putF m 26 C hname hu38_m rfl i_M t_M t_M_ok n_M (by decide) (gmem wd_544 rfl) rfl rfl rfl rfl rfl (Nat.le_of_ble_eq_true rfl) d_M_init_156 ?_
  show GW Z _ _ _ ad (gup u38 m (.inr (6, [.int 0, .int 0, .ref (ad (m + 1)), .ref (ad (m + 2)), .ref (ad (m + 3)), .int (-1), .int 0, .int 0, .int 0, .ref (ad (m + 4)), .ref (ad (m + 5)), .int 0, .ref (ad (m + 6)), .ref (ad (m + 7)), .ref (ad (m + 8)), .int 0, .ref (ad (m + 9)), .ref (ad (m + 10)), .ref (ad (m + 11)), .ref (ad (m + 12)), .ref (ad (m + 13)), .ref (ad (m + 14)), .ref (ad (m + 15)), .ref (ad (m + 16)), .ref (ad (m + 17)), .ref (ad (m + 18)), .ref (ad (m + 19)), .null, .null, .null, .null, .null, .null]))) _ _ _ _ _ _
  obtain ⟨u39, hu39⟩ : ∃ z, z = gup u38 m (.inr (6, [.int 0, .int 0, .ref (ad (m + 1)), .ref (ad (m + 2)), .ref (ad (m + 3)), .int (-1), .int 0, .int 0, .int 0, .ref (ad (m + 4)), .ref (ad (m + 5)), .int 0, .ref (ad (m + 6)), .ref (ad (m + 7)), .ref (ad (m + 8)), .int 0, .ref (ad (m + 9)), .ref (ad (m + 10)), .ref (ad (m + 11)), .ref (ad (m + 12)), .ref (ad (m + 13)), .ref (ad (m + 14)), .ref (ad (m + 15)), .ref (ad (m + 16)), .ref (ad (m + 17)), .ref (ad (m + 18)), .ref (ad (m + 19)), .null, .null, .null, .null, .null, .null])) := ⟨_, rfl⟩
  rw [← hu39]
  have hu39_m : u39 m = some (.inr (6, [.int 0, .int 0, .ref (ad (m + 1)), .ref (ad (m + 2)), .ref (ad (m + 3)), .int (-1), .int 0, .int 0, .int 0, .ref (ad (m + 4)), .ref (ad (m + 5)), .int 0, .ref (ad (m + 6)), .ref (ad (m + 7)), .ref (ad (m + 8)), .int 0, .ref (ad (m + 9)), .ref (ad (m + 10)), .ref (ad (m + 11)), .ref (ad (m + 12)), .ref (ad (m + 13)), .ref (ad (m + 14)), .ref (ad (m + 15)), .ref (ad (m + 16)), .ref (ad (m + 17)), .ref (ad (m + 18)), .ref (ad (m + 19)), .null, .null, .null, .null, .null, .null])) := by rw [hu39]; exact gup_self _ _ _
  have hu39_a : ∀ j, 1 ≤ j → j ≤ 19 → u39 (m + j) = some (mA X j) := fun j h1 h2 => by rw [hu39, gup_ne (by omega)]; exact hu38_a j h1 h2
  have hu39_f : ∀ j, 19 < j → u39 (m + j) = none := fun j h1 => by rw [hu39, gup_ne (by omega)]; exact hu38_f j h1
  refine g_aload_n C d_M_init_159 rfl 0 rfl ?_
  refine g_bipush (v := 44) C d_M_init_160 (by decide) ?_
  refine g_newa (atype := .int) (ty := .int) (cA := (X.2 0)) (N := 44) (a0 := (44, .inl (fun _ => 0))) (m + 20) 0 C (hu39_f 20 (by omega)) (had 20 (by omega) (by omega)) (gmem wd_80 rfl) rfl rfl (fun _ => rfl) (by decide) (by decide) (by decide) (Nat.le_of_ble_eq_true rfl) (Nat.le_of_ble_eq_true rfl) d_M_init_162 ?_
  obtain ⟨u40, hu40⟩ : ∃ z, z = gup u39 (m + 20) (.inl ((X.2 0), 44, .inl (fun _ => 0))) := ⟨_, rfl⟩
  rw [← hu40]
  have hu40_m : u40 m = some (.inr (6, [.int 0, .int 0, .ref (ad (m + 1)), .ref (ad (m + 2)), .ref (ad (m + 3)), .int (-1), .int 0, .int 0, .int 0, .ref (ad (m + 4)), .ref (ad (m + 5)), .int 0, .ref (ad (m + 6)), .ref (ad (m + 7)), .ref (ad (m + 8)), .int 0, .ref (ad (m + 9)), .ref (ad (m + 10)), .ref (ad (m + 11)), .ref (ad (m + 12)), .ref (ad (m + 13)), .ref (ad (m + 14)), .ref (ad (m + 15)), .ref (ad (m + 16)), .ref (ad (m + 17)), .ref (ad (m + 18)), .ref (ad (m + 19)), .null, .null, .null, .null, .null, .null])) := by rw [hu40, gup_ne (by omega)]; exact hu39_m
  have hu40_a : ∀ j, 1 ≤ j → j ≤ 20 → u40 (m + j) = some (mA X j) := by
    intro j h1 h2
    by_cases hj : j = 20
    · subst hj; rw [hu40]; exact gup_self _ _ _
    · rw [hu40, gup_ne (by omega)]; exact hu39_a j h1 (by omega)
  have hu40_f : ∀ j, 20 < j → u40 (m + j) = none := fun j h1 => by rw [hu40, gup_ne (by omega)]; exact hu39_f j (by omega)
  show GW Z _ _ _ ad u40 (sz + 20) [(0, .ref (ad m))] 20 2772 164 [.ref (ad (m + 20)), .ref (ad m)]
  refine g_putF m 27 C hname hu40_m rfl i_M t_M t_M_ok n_M (by decide) (gmem wd_545 rfl) rfl rfl rfl rfl rfl (Nat.le_of_ble_eq_true rfl) d_M_init_164 ?_
  show GW Z _ _ _ ad (gup u40 m (.inr (6, [.int 0, .int 0, .ref (ad (m + 1)), .ref (ad (m + 2)), .ref (ad (m + 3)), .int (-1), .int 0, .int 0, .int 0, .ref (ad (m + 4)), .ref (ad (m + 5)), .int 0, .ref (ad (m + 6)), .ref (ad (m + 7)), .ref (ad (m + 8)), .int 0, .ref (ad (m + 9)), .ref (ad (m + 10)), .ref (ad (m + 11)), .ref (ad (m + 12)), .ref (ad (m + 13)), .ref (ad (m + 14)), .ref (ad (m + 15)), .ref (ad (m + 16)), .ref (ad (m + 17)), .ref (ad (m + 18)), .ref (ad (m + 19)), .ref (ad (m + 20)), .null, .null, .null, .null, .null]))) _ _ _ _ _ _
  obtain ⟨u41, hu41⟩ : ∃ z, z = gup u40 m (.inr (6, [.int 0, .int 0, .ref (ad (m + 1)), .ref (ad (m + 2)), .ref (ad (m + 3)), .int (-1), .int 0, .int 0, .int 0, .ref (ad (m + 4)), .ref (ad (m + 5)), .int 0, .ref (ad (m + 6)), .ref (ad (m + 7)), .ref (ad (m + 8)), .int 0, .ref (ad (m + 9)), .ref (ad (m + 10)), .ref (ad (m + 11)), .ref (ad (m + 12)), .ref (ad (m + 13)), .ref (ad (m + 14)), .ref (ad (m + 15)), .ref (ad (m + 16)), .ref (ad (m + 17)), .ref (ad (m + 18)), .ref (ad (m + 19)), .ref (ad (m + 20)), .null, .null, .null, .null, .null])) := ⟨_, rfl⟩
  rw [← hu41]
  have hu41_m : u41 m = some (.inr (6, [.int 0, .int 0, .ref (ad (m + 1)), .ref (ad (m + 2)), .ref (ad (m + 3)), .int (-1), .int 0, .int 0, .int 0, .ref (ad (m + 4)), .ref (ad (m + 5)), .int 0, .ref (ad (m + 6)), .ref (ad (m + 7)), .ref (ad (m + 8)), .int 0, .ref (ad (m + 9)), .ref (ad (m + 10)), .ref (ad (m + 11)), .ref (ad (m + 12)), .ref (ad (m + 13)), .ref (ad (m + 14)), .ref (ad (m + 15)), .ref (ad (m + 16)), .ref (ad (m + 17)), .ref (ad (m + 18)), .ref (ad (m + 19)), .ref (ad (m + 20)), .null, .null, .null, .null, .null])) := by rw [hu41]; exact gup_self _ _ _
  have hu41_a : ∀ j, 1 ≤ j → j ≤ 20 → u41 (m + j) = some (mA X j) := fun j h1 h2 => by rw [hu41, gup_ne (by omega)]; exact hu40_a j h1 h2
  have hu41_f : ∀ j, 20 < j → u41 (m + j) = none := fun j h1 => by rw [hu41, gup_ne (by omega)]; exact hu40_f j h1
  refine g_aload_n C d_M_init_167 rfl 0 rfl ?_
  refine g_bipush (v := 44) C d_M_init_168 (by decide) ?_
  refine g_newa (atype := .int) (ty := .int) (cA := (X.2 0)) (N := 44) (a0 := (44, .inl (fun _ => 0))) (m + 21) 0 C (hu41_f 21 (by omega)) (had 21 (by omega) (by omega)) (gmem wd_80 rfl) rfl rfl (fun _ => rfl) (by decide) (by decide) (by decide) (Nat.le_of_ble_eq_true rfl) (Nat.le_of_ble_eq_true rfl) d_M_init_170 ?_
  obtain ⟨u42, hu42⟩ : ∃ z, z = gup u41 (m + 21) (.inl ((X.2 0), 44, .inl (fun _ => 0))) := ⟨_, rfl⟩
  rw [← hu42]
  have hu42_m : u42 m = some (.inr (6, [.int 0, .int 0, .ref (ad (m + 1)), .ref (ad (m + 2)), .ref (ad (m + 3)), .int (-1), .int 0, .int 0, .int 0, .ref (ad (m + 4)), .ref (ad (m + 5)), .int 0, .ref (ad (m + 6)), .ref (ad (m + 7)), .ref (ad (m + 8)), .int 0, .ref (ad (m + 9)), .ref (ad (m + 10)), .ref (ad (m + 11)), .ref (ad (m + 12)), .ref (ad (m + 13)), .ref (ad (m + 14)), .ref (ad (m + 15)), .ref (ad (m + 16)), .ref (ad (m + 17)), .ref (ad (m + 18)), .ref (ad (m + 19)), .ref (ad (m + 20)), .null, .null, .null, .null, .null])) := by rw [hu42, gup_ne (by omega)]; exact hu41_m
  have hu42_a : ∀ j, 1 ≤ j → j ≤ 21 → u42 (m + j) = some (mA X j) := by
    intro j h1 h2
    by_cases hj : j = 21
    · subst hj; rw [hu42]; exact gup_self _ _ _
    · rw [hu42, gup_ne (by omega)]; exact hu41_a j h1 (by omega)
  have hu42_f : ∀ j, 21 < j → u42 (m + j) = none := fun j h1 => by rw [hu42, gup_ne (by omega)]; exact hu41_f j (by omega)
  show GW Z _ _ _ ad u42 (sz + 21) [(0, .ref (ad m))] 21 2816 172 [.ref (ad (m + 21)), .ref (ad m)]
  refine g_putF m 28 C hname hu42_m rfl i_M t_M t_M_ok n_M (by decide) (gmem wd_546 rfl) rfl rfl rfl rfl rfl (Nat.le_of_ble_eq_true rfl) d_M_init_172 ?_
  show GW Z _ _ _ ad (gup u42 m (.inr (6, [.int 0, .int 0, .ref (ad (m + 1)), .ref (ad (m + 2)), .ref (ad (m + 3)), .int (-1), .int 0, .int 0, .int 0, .ref (ad (m + 4)), .ref (ad (m + 5)), .int 0, .ref (ad (m + 6)), .ref (ad (m + 7)), .ref (ad (m + 8)), .int 0, .ref (ad (m + 9)), .ref (ad (m + 10)), .ref (ad (m + 11)), .ref (ad (m + 12)), .ref (ad (m + 13)), .ref (ad (m + 14)), .ref (ad (m + 15)), .ref (ad (m + 16)), .ref (ad (m + 17)), .ref (ad (m + 18)), .ref (ad (m + 19)), .ref (ad (m + 20)), .ref (ad (m + 21)), .null, .null, .null, .null]))) _ _ _ _ _ _
  obtain ⟨u43, hu43⟩ : ∃ z, z = gup u42 m (.inr (6, [.int 0, .int 0, .ref (ad (m + 1)), .ref (ad (m + 2)), .ref (ad (m + 3)), .int (-1), .int 0, .int 0, .int 0, .ref (ad (m + 4)), .ref (ad (m + 5)), .int 0, .ref (ad (m + 6)), .ref (ad (m + 7)), .ref (ad (m + 8)), .int 0, .ref (ad (m + 9)), .ref (ad (m + 10)), .ref (ad (m + 11)), .ref (ad (m + 12)), .ref (ad (m + 13)), .ref (ad (m + 14)), .ref (ad (m + 15)), .ref (ad (m + 16)), .ref (ad (m + 17)), .ref (ad (m + 18)), .ref (ad (m + 19)), .ref (ad (m + 20)), .ref (ad (m + 21)), .null, .null, .null, .null])) := ⟨_, rfl⟩
  rw [← hu43]
  have hu43_m : u43 m = some (.inr (6, [.int 0, .int 0, .ref (ad (m + 1)), .ref (ad (m + 2)), .ref (ad (m + 3)), .int (-1), .int 0, .int 0, .int 0, .ref (ad (m + 4)), .ref (ad (m + 5)), .int 0, .ref (ad (m + 6)), .ref (ad (m + 7)), .ref (ad (m + 8)), .int 0, .ref (ad (m + 9)), .ref (ad (m + 10)), .ref (ad (m + 11)), .ref (ad (m + 12)), .ref (ad (m + 13)), .ref (ad (m + 14)), .ref (ad (m + 15)), .ref (ad (m + 16)), .ref (ad (m + 17)), .ref (ad (m + 18)), .ref (ad (m + 19)), .ref (ad (m + 20)), .ref (ad (m + 21)), .null, .null, .null, .null])) := by rw [hu43]; exact gup_self _ _ _
  have hu43_a : ∀ j, 1 ≤ j → j ≤ 21 → u43 (m + j) = some (mA X j) := fun j h1 h2 => by rw [hu43, gup_ne (by omega)]; exact hu42_a j h1 h2
  have hu43_f : ∀ j, 21 < j → u43 (m + j) = none := fun j h1 => by rw [hu43, gup_ne (by omega)]; exact hu42_f j h1
  refine g_aload_n C d_M_init_175 rfl 0 rfl ?_
  refine g_bipush (v := 44) C d_M_init_176 (by decide) ?_
  refine g_newa (atype := .long) (ty := .long) (cA := (X.2 1)) (N := 44) (a0 := (44, .inr (.inl (fun _ => 0)))) (m + 22) 1 C (hu43_f 22 (by omega)) (had 22 (by omega) (by omega)) (gmem wd_60 rfl) rfl rfl (fun _ => rfl) (by decide) (by decide) (by decide) (Nat.le_of_ble_eq_true rfl) (Nat.le_of_ble_eq_true rfl) d_M_init_178 ?_
  obtain ⟨u44, hu44⟩ : ∃ z, z = gup u43 (m + 22) (.inl ((X.2 1), 44, .inr (.inl (fun _ => 0)))) := ⟨_, rfl⟩
  rw [← hu44]
  have hu44_m : u44 m = some (.inr (6, [.int 0, .int 0, .ref (ad (m + 1)), .ref (ad (m + 2)), .ref (ad (m + 3)), .int (-1), .int 0, .int 0, .int 0, .ref (ad (m + 4)), .ref (ad (m + 5)), .int 0, .ref (ad (m + 6)), .ref (ad (m + 7)), .ref (ad (m + 8)), .int 0, .ref (ad (m + 9)), .ref (ad (m + 10)), .ref (ad (m + 11)), .ref (ad (m + 12)), .ref (ad (m + 13)), .ref (ad (m + 14)), .ref (ad (m + 15)), .ref (ad (m + 16)), .ref (ad (m + 17)), .ref (ad (m + 18)), .ref (ad (m + 19)), .ref (ad (m + 20)), .ref (ad (m + 21)), .null, .null, .null, .null])) := by rw [hu44, gup_ne (by omega)]; exact hu43_m
  have hu44_a : ∀ j, 1 ≤ j → j ≤ 22 → u44 (m + j) = some (mA X j) := by
    intro j h1 h2
    by_cases hj : j = 22
    · subst hj; rw [hu44]; exact gup_self _ _ _
    · rw [hu44, gup_ne (by omega)]; exact hu43_a j h1 (by omega)
  have hu44_f : ∀ j, 22 < j → u44 (m + j) = none := fun j h1 => by rw [hu44, gup_ne (by omega)]; exact hu43_f j (by omega)
  show GW Z _ _ _ ad u44 (sz + 22) [(0, .ref (ad m))] 22 2860 180 [.ref (ad (m + 22)), .ref (ad m)]
  refine g_putF m 29 C hname hu44_m rfl i_M t_M t_M_ok n_M (by decide) (gmem wd_547 rfl) rfl rfl rfl rfl rfl (Nat.le_of_ble_eq_true rfl) d_M_init_180 ?_
  show GW Z _ _ _ ad (gup u44 m (.inr (6, [.int 0, .int 0, .ref (ad (m + 1)), .ref (ad (m + 2)), .ref (ad (m + 3)), .int (-1), .int 0, .int 0, .int 0, .ref (ad (m + 4)), .ref (ad (m + 5)), .int 0, .ref (ad (m + 6)), .ref (ad (m + 7)), .ref (ad (m + 8)), .int 0, .ref (ad (m + 9)), .ref (ad (m + 10)), .ref (ad (m + 11)), .ref (ad (m + 12)), .ref (ad (m + 13)), .ref (ad (m + 14)), .ref (ad (m + 15)), .ref (ad (m + 16)), .ref (ad (m + 17)), .ref (ad (m + 18)), .ref (ad (m + 19)), .ref (ad (m + 20)), .ref (ad (m + 21)), .ref (ad (m + 22)), .null, .null, .null]))) _ _ _ _ _ _
  obtain ⟨u45, hu45⟩ : ∃ z, z = gup u44 m (.inr (6, [.int 0, .int 0, .ref (ad (m + 1)), .ref (ad (m + 2)), .ref (ad (m + 3)), .int (-1), .int 0, .int 0, .int 0, .ref (ad (m + 4)), .ref (ad (m + 5)), .int 0, .ref (ad (m + 6)), .ref (ad (m + 7)), .ref (ad (m + 8)), .int 0, .ref (ad (m + 9)), .ref (ad (m + 10)), .ref (ad (m + 11)), .ref (ad (m + 12)), .ref (ad (m + 13)), .ref (ad (m + 14)), .ref (ad (m + 15)), .ref (ad (m + 16)), .ref (ad (m + 17)), .ref (ad (m + 18)), .ref (ad (m + 19)), .ref (ad (m + 20)), .ref (ad (m + 21)), .ref (ad (m + 22)), .null, .null, .null])) := ⟨_, rfl⟩
  rw [← hu45]
  have hu45_m : u45 m = some (.inr (6, [.int 0, .int 0, .ref (ad (m + 1)), .ref (ad (m + 2)), .ref (ad (m + 3)), .int (-1), .int 0, .int 0, .int 0, .ref (ad (m + 4)), .ref (ad (m + 5)), .int 0, .ref (ad (m + 6)), .ref (ad (m + 7)), .ref (ad (m + 8)), .int 0, .ref (ad (m + 9)), .ref (ad (m + 10)), .ref (ad (m + 11)), .ref (ad (m + 12)), .ref (ad (m + 13)), .ref (ad (m + 14)), .ref (ad (m + 15)), .ref (ad (m + 16)), .ref (ad (m + 17)), .ref (ad (m + 18)), .ref (ad (m + 19)), .ref (ad (m + 20)), .ref (ad (m + 21)), .ref (ad (m + 22)), .null, .null, .null])) := by rw [hu45]; exact gup_self _ _ _
  have hu45_a : ∀ j, 1 ≤ j → j ≤ 22 → u45 (m + j) = some (mA X j) := fun j h1 h2 => by rw [hu45, gup_ne (by omega)]; exact hu44_a j h1 h2
  have hu45_f : ∀ j, 22 < j → u45 (m + j) = none := fun j h1 => by rw [hu45, gup_ne (by omega)]; exact hu44_f j h1
  refine g_aload_n C d_M_init_183 rfl 0 rfl ?_
  refine g_bipush (v := 44) C d_M_init_184 (by decide) ?_
  refine g_newa (atype := .boolean) (ty := .boolean) (cA := (X.2 2)) (N := 44) (a0 := (44, .inl (fun _ => 0))) (m + 23) 2 C (hu45_f 23 (by omega)) (had 23 (by omega) (by omega)) (gmem wd_159 rfl) rfl rfl (fun _ => rfl) (by decide) (by decide) (by decide) (Nat.le_of_ble_eq_true rfl) (Nat.le_of_ble_eq_true rfl) d_M_init_186 ?_
  obtain ⟨u46, hu46⟩ : ∃ z, z = gup u45 (m + 23) (.inl ((X.2 2), 44, .inl (fun _ => 0))) := ⟨_, rfl⟩
  rw [← hu46]
  have hu46_m : u46 m = some (.inr (6, [.int 0, .int 0, .ref (ad (m + 1)), .ref (ad (m + 2)), .ref (ad (m + 3)), .int (-1), .int 0, .int 0, .int 0, .ref (ad (m + 4)), .ref (ad (m + 5)), .int 0, .ref (ad (m + 6)), .ref (ad (m + 7)), .ref (ad (m + 8)), .int 0, .ref (ad (m + 9)), .ref (ad (m + 10)), .ref (ad (m + 11)), .ref (ad (m + 12)), .ref (ad (m + 13)), .ref (ad (m + 14)), .ref (ad (m + 15)), .ref (ad (m + 16)), .ref (ad (m + 17)), .ref (ad (m + 18)), .ref (ad (m + 19)), .ref (ad (m + 20)), .ref (ad (m + 21)), .ref (ad (m + 22)), .null, .null, .null])) := by rw [hu46, gup_ne (by omega)]; exact hu45_m
  have hu46_a : ∀ j, 1 ≤ j → j ≤ 23 → u46 (m + j) = some (mA X j) := by
    intro j h1 h2
    by_cases hj : j = 23
    · subst hj; rw [hu46]; exact gup_self _ _ _
    · rw [hu46, gup_ne (by omega)]; exact hu45_a j h1 (by omega)
  have hu46_f : ∀ j, 23 < j → u46 (m + j) = none := fun j h1 => by rw [hu46, gup_ne (by omega)]; exact hu45_f j (by omega)
  show GW Z _ _ _ ad u46 (sz + 23) [(0, .ref (ad m))] 23 2904 188 [.ref (ad (m + 23)), .ref (ad m)]
  refine g_putF m 30 C hname hu46_m rfl i_M t_M t_M_ok n_M (by decide) (gmem wd_548 rfl) rfl rfl rfl rfl rfl (Nat.le_of_ble_eq_true rfl) d_M_init_188 ?_
  show GW Z _ _ _ ad (gup u46 m (.inr (6, [.int 0, .int 0, .ref (ad (m + 1)), .ref (ad (m + 2)), .ref (ad (m + 3)), .int (-1), .int 0, .int 0, .int 0, .ref (ad (m + 4)), .ref (ad (m + 5)), .int 0, .ref (ad (m + 6)), .ref (ad (m + 7)), .ref (ad (m + 8)), .int 0, .ref (ad (m + 9)), .ref (ad (m + 10)), .ref (ad (m + 11)), .ref (ad (m + 12)), .ref (ad (m + 13)), .ref (ad (m + 14)), .ref (ad (m + 15)), .ref (ad (m + 16)), .ref (ad (m + 17)), .ref (ad (m + 18)), .ref (ad (m + 19)), .ref (ad (m + 20)), .ref (ad (m + 21)), .ref (ad (m + 22)), .ref (ad (m + 23)), .null, .null]))) _ _ _ _ _ _
  obtain ⟨u47, hu47⟩ : ∃ z, z = gup u46 m (.inr (6, [.int 0, .int 0, .ref (ad (m + 1)), .ref (ad (m + 2)), .ref (ad (m + 3)), .int (-1), .int 0, .int 0, .int 0, .ref (ad (m + 4)), .ref (ad (m + 5)), .int 0, .ref (ad (m + 6)), .ref (ad (m + 7)), .ref (ad (m + 8)), .int 0, .ref (ad (m + 9)), .ref (ad (m + 10)), .ref (ad (m + 11)), .ref (ad (m + 12)), .ref (ad (m + 13)), .ref (ad (m + 14)), .ref (ad (m + 15)), .ref (ad (m + 16)), .ref (ad (m + 17)), .ref (ad (m + 18)), .ref (ad (m + 19)), .ref (ad (m + 20)), .ref (ad (m + 21)), .ref (ad (m + 22)), .ref (ad (m + 23)), .null, .null])) := ⟨_, rfl⟩
  rw [← hu47]
  have hu47_m : u47 m = some (.inr (6, [.int 0, .int 0, .ref (ad (m + 1)), .ref (ad (m + 2)), .ref (ad (m + 3)), .int (-1), .int 0, .int 0, .int 0, .ref (ad (m + 4)), .ref (ad (m + 5)), .int 0, .ref (ad (m + 6)), .ref (ad (m + 7)), .ref (ad (m + 8)), .int 0, .ref (ad (m + 9)), .ref (ad (m + 10)), .ref (ad (m + 11)), .ref (ad (m + 12)), .ref (ad (m + 13)), .ref (ad (m + 14)), .ref (ad (m + 15)), .ref (ad (m + 16)), .ref (ad (m + 17)), .ref (ad (m + 18)), .ref (ad (m + 19)), .ref (ad (m + 20)), .ref (ad (m + 21)), .ref (ad (m + 22)), .ref (ad (m + 23)), .null, .null])) := by rw [hu47]; exact gup_self _ _ _
  have hu47_a : ∀ j, 1 ≤ j → j ≤ 23 → u47 (m + j) = some (mA X j) := fun j h1 h2 => by rw [hu47, gup_ne (by omega)]; exact hu46_a j h1 h2
  have hu47_f : ∀ j, 23 < j → u47 (m + j) = none := fun j h1 => by rw [hu47, gup_ne (by omega)]; exact hu46_f j h1
  refine g_aload_n C d_M_init_191 rfl 0 rfl ?_
  refine g_sipush (v := 4096) C d_M_init_192 (by decide) ?_
  refine g_newa (atype := .long) (ty := .long) (cA := (X.2 1)) (N := 4096) (a0 := (4096, .inr (.inl (fun _ => 0)))) (m + 24) 1 C (hu47_f 24 (by omega)) (had 24 (by omega) (by omega)) (gmem wd_60 rfl) rfl rfl (fun _ => rfl) (by decide) (by decide) (by decide) (Nat.le_of_ble_eq_true rfl) (Nat.le_of_ble_eq_true rfl) d_M_init_195 ?_
  obtain ⟨u48, hu48⟩ : ∃ z, z = gup u47 (m + 24) (.inl ((X.2 1), 4096, .inr (.inl (fun _ => 0)))) := ⟨_, rfl⟩
  rw [← hu48]
  have hu48_m : u48 m = some (.inr (6, [.int 0, .int 0, .ref (ad (m + 1)), .ref (ad (m + 2)), .ref (ad (m + 3)), .int (-1), .int 0, .int 0, .int 0, .ref (ad (m + 4)), .ref (ad (m + 5)), .int 0, .ref (ad (m + 6)), .ref (ad (m + 7)), .ref (ad (m + 8)), .int 0, .ref (ad (m + 9)), .ref (ad (m + 10)), .ref (ad (m + 11)), .ref (ad (m + 12)), .ref (ad (m + 13)), .ref (ad (m + 14)), .ref (ad (m + 15)), .ref (ad (m + 16)), .ref (ad (m + 17)), .ref (ad (m + 18)), .ref (ad (m + 19)), .ref (ad (m + 20)), .ref (ad (m + 21)), .ref (ad (m + 22)), .ref (ad (m + 23)), .null, .null])) := by rw [hu48, gup_ne (by omega)]; exact hu47_m
  have hu48_a : ∀ j, 1 ≤ j → j ≤ 24 → u48 (m + j) = some (mA X j) := by
    intro j h1 h2
    by_cases hj : j = 24
    · subst hj; rw [hu48]; exact gup_self _ _ _
    · rw [hu48, gup_ne (by omega)]; exact hu47_a j h1 (by omega)
  have hu48_f : ∀ j, 24 < j → u48 (m + j) = none := fun j h1 => by rw [hu48, gup_ne (by omega)]; exact hu47_f j (by omega)
  show GW Z _ _ _ ad u48 (sz + 24) [(0, .ref (ad m))] 24 7000 197 [.ref (ad (m + 24)), .ref (ad m)]
  refine g_putF m 31 C hname hu48_m rfl i_M t_M t_M_ok n_M (by decide) (gmem wd_549 rfl) rfl rfl rfl rfl rfl (Nat.le_of_ble_eq_true rfl) d_M_init_197 ?_
  show GW Z _ _ _ ad (gup u48 m (.inr (6, [.int 0, .int 0, .ref (ad (m + 1)), .ref (ad (m + 2)), .ref (ad (m + 3)), .int (-1), .int 0, .int 0, .int 0, .ref (ad (m + 4)), .ref (ad (m + 5)), .int 0, .ref (ad (m + 6)), .ref (ad (m + 7)), .ref (ad (m + 8)), .int 0, .ref (ad (m + 9)), .ref (ad (m + 10)), .ref (ad (m + 11)), .ref (ad (m + 12)), .ref (ad (m + 13)), .ref (ad (m + 14)), .ref (ad (m + 15)), .ref (ad (m + 16)), .ref (ad (m + 17)), .ref (ad (m + 18)), .ref (ad (m + 19)), .ref (ad (m + 20)), .ref (ad (m + 21)), .ref (ad (m + 22)), .ref (ad (m + 23)), .ref (ad (m + 24)), .null]))) _ _ _ _ _ _
  obtain ⟨u49, hu49⟩ : ∃ z, z = gup u48 m (.inr (6, [.int 0, .int 0, .ref (ad (m + 1)), .ref (ad (m + 2)), .ref (ad (m + 3)), .int (-1), .int 0, .int 0, .int 0, .ref (ad (m + 4)), .ref (ad (m + 5)), .int 0, .ref (ad (m + 6)), .ref (ad (m + 7)), .ref (ad (m + 8)), .int 0, .ref (ad (m + 9)), .ref (ad (m + 10)), .ref (ad (m + 11)), .ref (ad (m + 12)), .ref (ad (m + 13)), .ref (ad (m + 14)), .ref (ad (m + 15)), .ref (ad (m + 16)), .ref (ad (m + 17)), .ref (ad (m + 18)), .ref (ad (m + 19)), .ref (ad (m + 20)), .ref (ad (m + 21)), .ref (ad (m + 22)), .ref (ad (m + 23)), .ref (ad (m + 24)), .null])) := ⟨_, rfl⟩
  rw [← hu49]
  have hu49_m : u49 m = some (.inr (6, [.int 0, .int 0, .ref (ad (m + 1)), .ref (ad (m + 2)), .ref (ad (m + 3)), .int (-1), .int 0, .int 0, .int 0, .ref (ad (m + 4)), .ref (ad (m + 5)), .int 0, .ref (ad (m + 6)), .ref (ad (m + 7)), .ref (ad (m + 8)), .int 0, .ref (ad (m + 9)), .ref (ad (m + 10)), .ref (ad (m + 11)), .ref (ad (m + 12)), .ref (ad (m + 13)), .ref (ad (m + 14)), .ref (ad (m + 15)), .ref (ad (m + 16)), .ref (ad (m + 17)), .ref (ad (m + 18)), .ref (ad (m + 19)), .ref (ad (m + 20)), .ref (ad (m + 21)), .ref (ad (m + 22)), .ref (ad (m + 23)), .ref (ad (m + 24)), .null])) := by rw [hu49]; exact gup_self _ _ _
  have hu49_a : ∀ j, 1 ≤ j → j ≤ 24 → u49 (m + j) = some (mA X j) := fun j h1 h2 => by rw [hu49, gup_ne (by omega)]; exact hu48_a j h1 h2
  have hu49_f : ∀ j, 24 < j → u49 (m + j) = none := fun j h1 => by rw [hu49, gup_ne (by omega)]; exact hu48_f j h1
  refine g_aload_n C d_M_init_200 rfl 0 rfl ?_
  refine g_sipush (v := 4096) C d_M_init_201 (by decide) ?_
  refine g_newa (atype := .int) (ty := .int) (cA := (X.2 0)) (N := 4096) (a0 := (4096, .inl (fun _ => 0))) (m + 25) 0 C (hu49_f 25 (by omega)) (had 25 (by omega) (by omega)) (gmem wd_80 rfl) rfl rfl (fun _ => rfl) (by decide) (by decide) (by decide) (Nat.le_of_ble_eq_true rfl) (Nat.le_of_ble_eq_true rfl) d_M_init_204 ?_
  obtain ⟨u50, hu50⟩ : ∃ z, z = gup u49 (m + 25) (.inl ((X.2 0), 4096, .inl (fun _ => 0))) := ⟨_, rfl⟩
  rw [← hu50]
  have hu50_m : u50 m = some (.inr (6, [.int 0, .int 0, .ref (ad (m + 1)), .ref (ad (m + 2)), .ref (ad (m + 3)), .int (-1), .int 0, .int 0, .int 0, .ref (ad (m + 4)), .ref (ad (m + 5)), .int 0, .ref (ad (m + 6)), .ref (ad (m + 7)), .ref (ad (m + 8)), .int 0, .ref (ad (m + 9)), .ref (ad (m + 10)), .ref (ad (m + 11)), .ref (ad (m + 12)), .ref (ad (m + 13)), .ref (ad (m + 14)), .ref (ad (m + 15)), .ref (ad (m + 16)), .ref (ad (m + 17)), .ref (ad (m + 18)), .ref (ad (m + 19)), .ref (ad (m + 20)), .ref (ad (m + 21)), .ref (ad (m + 22)), .ref (ad (m + 23)), .ref (ad (m + 24)), .null])) := by rw [hu50, gup_ne (by omega)]; exact hu49_m
  have hu50_a : ∀ j, 1 ≤ j → j ≤ 25 → u50 (m + j) = some (mA X j) := by
    intro j h1 h2
    by_cases hj : j = 25
    · subst hj; rw [hu50]; exact gup_self _ _ _
    · rw [hu50, gup_ne (by omega)]; exact hu49_a j h1 (by omega)
  have hu50_f : ∀ j, 25 < j → u50 (m + j) = none := fun j h1 => by rw [hu50, gup_ne (by omega)]; exact hu49_f j (by omega)
  show GW Z _ _ _ ad u50 (sz + 25) [(0, .ref (ad m))] 25 11096 206 [.ref (ad (m + 25)), .ref (ad m)]
  refine g_putF m 32 C hname hu50_m rfl i_M t_M t_M_ok n_M (by decide) (gmem wd_550 rfl) rfl rfl rfl rfl rfl (Nat.le_of_ble_eq_true rfl) d_M_init_206 ?_
  show GW Z _ _ _ ad (gup u50 m (.inr (6, [.int 0, .int 0, .ref (ad (m + 1)), .ref (ad (m + 2)), .ref (ad (m + 3)), .int (-1), .int 0, .int 0, .int 0, .ref (ad (m + 4)), .ref (ad (m + 5)), .int 0, .ref (ad (m + 6)), .ref (ad (m + 7)), .ref (ad (m + 8)), .int 0, .ref (ad (m + 9)), .ref (ad (m + 10)), .ref (ad (m + 11)), .ref (ad (m + 12)), .ref (ad (m + 13)), .ref (ad (m + 14)), .ref (ad (m + 15)), .ref (ad (m + 16)), .ref (ad (m + 17)), .ref (ad (m + 18)), .ref (ad (m + 19)), .ref (ad (m + 20)), .ref (ad (m + 21)), .ref (ad (m + 22)), .ref (ad (m + 23)), .ref (ad (m + 24)), .ref (ad (m + 25))]))) _ _ _ _ _ _
  obtain ⟨u51, hu51⟩ : ∃ z, z = gup u50 m (.inr (6, [.int 0, .int 0, .ref (ad (m + 1)), .ref (ad (m + 2)), .ref (ad (m + 3)), .int (-1), .int 0, .int 0, .int 0, .ref (ad (m + 4)), .ref (ad (m + 5)), .int 0, .ref (ad (m + 6)), .ref (ad (m + 7)), .ref (ad (m + 8)), .int 0, .ref (ad (m + 9)), .ref (ad (m + 10)), .ref (ad (m + 11)), .ref (ad (m + 12)), .ref (ad (m + 13)), .ref (ad (m + 14)), .ref (ad (m + 15)), .ref (ad (m + 16)), .ref (ad (m + 17)), .ref (ad (m + 18)), .ref (ad (m + 19)), .ref (ad (m + 20)), .ref (ad (m + 21)), .ref (ad (m + 22)), .ref (ad (m + 23)), .ref (ad (m + 24)), .ref (ad (m + 25))])) := ⟨_, rfl⟩
  rw [← hu51]
  have hu51_m : u51 m = some (.inr (6, [.int 0, .int 0, .ref (ad (m + 1)), .ref (ad (m + 2)), .ref (ad (m + 3)), .int (-1), .int 0, .int 0, .int 0, .ref (ad (m + 4)), .ref (ad (m + 5)), .int 0, .ref (ad (m + 6)), .ref (ad (m + 7)), .ref (ad (m + 8)), .int 0, .ref (ad (m + 9)), .ref (ad (m + 10)), .ref (ad (m + 11)), .ref (ad (m + 12)), .ref (ad (m + 13)), .ref (ad (m + 14)), .ref (ad (m + 15)), .ref (ad (m + 16)), .ref (ad (m + 17)), .ref (ad (m + 18)), .ref (ad (m + 19)), .ref (ad (m + 20)), .ref (ad (m + 21)), .ref (ad (m + 22)), .ref (ad (m + 23)), .ref (ad (m + 24)), .ref (ad (m + 25))])) := by rw [hu51]; exact gup_self _ _ _
  have hu51_a : ∀ j, 1 ≤ j → j ≤ 25 → u51 (m + j) = some (mA X j) := fun j h1 h2 => by rw [hu51, gup_ne (by omega)]; exact hu50_a j h1 h2
  have hu51_f : ∀ j, 25 < j → u51 (m + j) = none := fun j h1 => by rw [hu51, gup_ne (by omega)]; exact hu50_f j h1
  have hfin : u51 = mInit X ad u m := by
    funext n
    simp only [mInit]
    by_cases h1 : n = m
    · rw [if_pos h1, h1, hu51_m]; rfl
    rw [if_neg h1]
    by_cases h2 : m < n ∧ n ≤ m + 25
    · rw [if_pos h2]; have h3 := hu51_a (n - m) (by omega) (by omega); rw [show m + (n - m) = n by omega] at h3; exact h3
    rw [if_neg h2]
    rw [hu51, gup_ne (by omega)]
    rw [hu50, gup_ne (by omega)]
    rw [hu49, gup_ne (by omega)]
    rw [hu48, gup_ne (by omega)]
    rw [hu47, gup_ne (by omega)]
    rw [hu46, gup_ne (by omega)]
    rw [hu45, gup_ne (by omega)]
    rw [hu44, gup_ne (by omega)]
    rw [hu43, gup_ne (by omega)]
    rw [hu42, gup_ne (by omega)]
    rw [hu41, gup_ne (by omega)]
    rw [hu40, gup_ne (by omega)]
    rw [hu39, gup_ne (by omega)]
    rw [hu38, gup_ne (by omega)]
    rw [hu37, gup_ne (by omega)]
    rw [hu36, gup_ne (by omega)]
    rw [hu35, gup_ne (by omega)]
    rw [hu34, gup_ne (by omega)]
    rw [hu33, gup_ne (by omega)]
    rw [hu32, gup_ne (by omega)]
    rw [hu31, gup_ne (by omega)]
    rw [hu30, gup_ne (by omega)]
    rw [hu29, gup_ne (by omega)]
    rw [hu28, gup_ne (by omega)]
    rw [hu27, gup_ne (by omega)]
    rw [hu26, gup_ne (by omega)]
    rw [hu25, gup_ne (by omega)]
    rw [hu24, gup_ne (by omega)]
    rw [hu23, gup_ne (by omega)]
    rw [hu22, gup_ne (by omega)]
    rw [hu21, gup_ne (by omega)]
    rw [hu20, gup_ne (by omega)]
    rw [hu19, gup_ne (by omega)]
    rw [hu18, gup_ne (by omega)]
    rw [hu17, gup_ne (by omega)]
    rw [hu16, gup_ne (by omega)]
    rw [hu15, gup_ne (by omega)]
    rw [hu14, gup_ne (by omega)]
    rw [hu13, gup_ne (by omega)]
    rw [hu12, gup_ne (by omega)]
    rw [hu11, gup_ne (by omega)]
    rw [hu10, gup_ne (by omega)]
    rw [hu9, gup_ne (by omega)]
    rw [hu8, gup_ne (by omega)]
    rw [hu7, gup_ne (by omega)]
    rw [hu6, gup_ne (by omega)]
    rw [hu5, gup_ne (by omega)]
    rw [hu4, gup_ne (by omega)]
    rw [hu3, gup_ne (by omega)]
    rw [hu2, gup_ne (by omega)]
    rw [hu1, gup_ne (by omega)]
  exact g_vret C hR hret ⟨rfl, hfin, rfl⟩ d_M_init_209
