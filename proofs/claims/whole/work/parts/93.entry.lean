def adW0 (sz x : Nat) : Nat → Nat := fun n => if n < x + 512 then sz + (n - x) else sz + 10 + (n - (x + 512))
theorem adW0_x {sz x : Nat} (j : Nat) (hj : j < 512) : adW0 sz x (x + j) = sz + j := by
  unfold adW0
  rw [if_pos (by omega)]
  omega
theorem adW0_m {sz x : Nat} (j : Nat) : adW0 sz x (x + 512 + j) = sz + 10 + j := by
  unfold adW0
  rw [if_neg (by omega)]
  omega
set_option maxHeartbeats 4000000 in
set_option maxRecDepth 100000 in
theorem lw_entry {Z : gZ} {b L : Nat} {xs : Nat → Int32} {X : gX} (G : lwG Z b L xs X) (sz x : Nat) (hL : L ≤ 2560) (hr : (gme Z).sig.returnType = ret) (hQ : gQ Z = lw_Z (gb Z) #[.ref b] (gs Z)) (ha : ga Z = #[.ref b]) (hA : ∀ q, gA Z q → (gs Z).heap.size ≤ q) : ∃ ad : Nat → Nat, GW Z room_1 8 (EE X) ad (fun _ => none) sz [(0, .ref b)] 0 0 0 [] := by
  have C := G.1
  obtain ⟨ad, ead⟩ : ∃ z, z = adW0 sz x := ⟨_, rfl⟩
  have hax : ∀ j, j < 512 → ad (x + j) = sz + j := fun j hj => by rw [ead]; exact adW0_x j hj
  obtain ⟨m, em⟩ : ∃ z, z = x + 512 := ⟨_, rfl⟩
  have ham : ∀ j, ad (m + j) = sz + 10 + j := fun j => by rw [ead, em]; exact adW0_m j
  refine ⟨ad, ?_⟩
  refine g_new (ci := 5) (fs := [.null, .null, .null, .null, .int 0, .int 0]) x C rfl (hax 0 (by decide)) rfl i_X t_X t_X_ok (gmem wd_15 rfl) (gmem wd_16 rfl) (gmem wd_1 rfl) (fun j hj => by rcases (show j = 0 ∨ j = 1 ∨ j = 2 ∨ j = 3 ∨ j = 4 ∨ j = 5 by omega) with rfl | rfl | rfl | rfl | rfl | rfl <;> rfl) (Nat.le_of_ble_eq_true rfl) (Nat.le_of_ble_eq_true rfl) d_L_law_0 ?_
  obtain ⟨u1, hu1⟩ : ∃ z, z = gup (fun _ => none) x (.inr (5, [.null, .null, .null, .null, .int 0, .int 0])) := ⟨_, rfl⟩
  rw [← hu1]
  have hx1 : u1 x = some (.inr (5, [.null, .null, .null, .null, .int 0, .int 0])) := by rw [hu1]; exact gup_self _ _ _
  have hn1 : ∀ n, n ≠ x → u1 n = none := fun n hn => by rw [hu1]; exact gup_ne hn
  refine g_dup C d_L_law_3 rfl ?_
  refine g_callI 0 C (k_X_init _ X ad u1 (sz + 1) x hx1 (hn1 _ (by omega)) ((hax 1 (by decide)).trans (by omega)) (hn1 _ (by omega)) ((hax 2 (by decide)).trans (by omega)) (hn1 _ (by omega)) ((hax 3 (by decide)).trans (by omega)) (hn1 _ (by omega)) ((hax 4 (by decide)).trans (by omega)) (hn1 _ (by omega)) ((hax 5 (by decide)).trans (by omega)) (hn1 _ (by omega)) ((hax 6 (by decide)).trans (by omega)) (hn1 _ (by omega)) ((hax 7 (by decide)).trans (by omega)) (hn1 _ (by omega)) ((hax 8 (by decide)).trans (by omega)) (hn1 _ (by omega)) ((hax 9 (by decide)).trans (by omega))) (gmem wd_19 rfl) (gmem wd_1 rfl) (gmem wd_17 rfl) (gmem wd_18 rfl) rfl ⟨by decide, by decide, by decide +kernel⟩ ⟨Nat.le_of_ble_eq_true rfl, Nat.le_of_ble_eq_true rfl⟩ rfl rfl (Nat.le_of_ble_eq_true rfl) d_L_law_4 ⟨Nat.le_of_ble_eq_true rfl, Nat.le_of_ble_eq_true rfl⟩ ?_
  rintro v2 u2 s2 ⟨rfl, hu2, hs2⟩
  show GW Z room_1 8 (EE X) ad u2 s2 [(0, .ref b)] 10 4229 7 [.ref (ad x)]
  have k0 : u2 (x) = some (.inr (5, [.ref (ad (x + 1)), .ref (ad (x + 2)), .ref (ad (x + 3)), .ref (ad (x + 6)), .int 0, .int 0])) := by rw [hu2, gup_ne (by omega), gup_ne (by omega), gup_ne (by omega), gup_ne (by omega), gup_ne (by omega), gup_ne (by omega), gup_ne (by omega), gup_ne (by omega), gup_ne (by omega)]; exact gup_self _ _ _
  have k1 : u2 (x + 1) = some (.inl ((X.2 3), 4, .inr (.inr (.inr (.inr (fun _ => none)))))) := by rw [hu2, gup_ne (by omega), gup_ne (by omega), gup_ne (by omega), gup_ne (by omega), gup_ne (by omega), gup_ne (by omega), gup_ne (by omega), gup_ne (by omega)]; exact gup_self _ _ _
  have k2 : u2 (x + 2) = some (.inl ((X.2 4), 64, .inr (.inr (.inr (.inr (fun _ => none)))))) := by rw [hu2, gup_ne (by omega), gup_ne (by omega), gup_ne (by omega), gup_ne (by omega), gup_ne (by omega), gup_ne (by omega), gup_ne (by omega)]; exact gup_self _ _ _
  have k3 : u2 (x + 3) = some (.inr (2, [.ref (ad (x + 3 + 1)), .ref (ad (x + 3 + 2)), .null, .int 0, .int 0, .int 0, .int 0])) := by rw [hu2, gup_ne (by omega), gup_ne (by omega), gup_ne (by omega), gup_ne (by omega), gup_ne (by omega), gup_ne (by omega)]; exact gup_self _ _ _
  have k4 : u2 (x + 3 + 1) = some (.inl ((X.2 1), 12, .inr (.inl (fun _ => 0)))) := by rw [hu2, gup_ne (by omega), gup_ne (by omega), gup_ne (by omega), gup_ne (by omega), gup_ne (by omega)]; exact gup_self _ _ _
  have k5 : u2 (x + 3 + 2) = some (.inl ((X.2 1), 12, .inr (.inl (fun _ => 0)))) := by rw [hu2, gup_ne (by omega), gup_ne (by omega), gup_ne (by omega), gup_ne (by omega)]; exact gup_self _ _ _
  have k6 : u2 (x + 6) = some (.inr (3, [.ref (ad (x + 6 + 1)), .ref (ad (x + 6 + 2)), .ref (ad (x + 6 + 3)), .int 0])) := by rw [hu2, gup_ne (by omega), gup_ne (by omega), gup_ne (by omega)]; exact gup_self _ _ _
  have k7 : u2 (x + 6 + 1) = some (.inl ((X.2 0), 12, .inl (fun _ => 0))) := by rw [hu2, gup_ne (by omega), gup_ne (by omega)]; exact gup_self _ _ _
  have k8 : u2 (x + 6 + 2) = some (.inl ((X.2 1), 12, .inr (.inl (fun _ => 0)))) := by rw [hu2, gup_ne (by omega)]; exact gup_self _ _ _
  have k9 : u2 (x + 6 + 3) = some (.inl ((X.2 0), 4096, .inl (fun _ => 0))) := by rw [hu2]; exact gup_self _ _ _
  have kn : ∀ n, (n < x ∨ x + 10 ≤ n) → u2 n = none := fun n hn => by rw [hu2, gup_ne (by omega), gup_ne (by omega), gup_ne (by omega), gup_ne (by omega), gup_ne (by omega), gup_ne (by omega), gup_ne (by omega), gup_ne (by omega), gup_ne (by omega), gup_ne (by omega)]; exact hn1 n (by omega)
  clear hu2
  refine g_astore_n C d_L_law_7 rfl [(1, .ref (ad x)), (0, .ref b)] (by decide) rfl ?_
  refine g_new (ci := 6) (fs := [.int 0, .int 0, .null, .null, .null, .int 0, .int 0, .int 0, .int 0, .null, .null, .int 0, .null, .null, .null, .int 0, .null, .null, .null, .null, .null, .null, .null, .null, .null, .null, .null, .null, .null, .null, .null, .null, .null]) m C (kn m (by omega)) (by rw [hs2]; exact ham 0) rfl i_M t_M t_M_ok (gmem wd_512 rfl) (gmem wd_513 rfl) (gmem wd_4 rfl) (fun j hj => by rcases (show j = 0 ∨ j = 1 ∨ j = 2 ∨ j = 3 ∨ j = 4 ∨ j = 5 ∨ j = 6 ∨ j = 7 ∨ j = 8 ∨ j = 9 ∨ j = 10 ∨ j = 11 ∨ j = 12 ∨ j = 13 ∨ j = 14 ∨ j = 15 ∨ j = 16 ∨ j = 17 ∨ j = 18 ∨ j = 19 ∨ j = 20 ∨ j = 21 ∨ j = 22 ∨ j = 23 ∨ j = 24 ∨ j = 25 ∨ j = 26 ∨ j = 27 ∨ j = 28 ∨ j = 29 ∨ j = 30 ∨ j = 31 ∨ j = 32 by omega) with rfl | rfl | rfl | rfl | rfl | rfl | rfl | rfl | rfl | rfl | rfl | rfl | rfl | rfl | rfl | rfl | rfl | rfl | rfl | rfl | rfl | rfl | rfl | rfl | rfl | rfl | rfl | rfl | rfl | rfl | rfl | rfl | rfl <;> rfl) (Nat.le_of_ble_eq_true rfl) (Nat.le_of_ble_eq_true rfl) d_L_law_8 ?_
  obtain ⟨u3, hu3⟩ : ∃ z, z = gup u2 m (.inr (6, [.int 0, .int 0, .null, .null, .null, .int 0, .int 0, .int 0, .int 0, .null, .null, .int 0, .null, .null, .null, .int 0, .null, .null, .null, .null, .null, .null, .null, .null, .null, .null, .null, .null, .null, .null, .null, .null, .null])) := ⟨_, rfl⟩
  rw [← hu3]
  have hm3 : u3 m = some (.inr (6, [.int 0, .int 0, .null, .null, .null, .int 0, .int 0, .int 0, .int 0, .null, .null, .int 0, .null, .null, .null, .int 0, .null, .null, .null, .null, .null, .null, .null, .null, .null, .null, .null, .null, .null, .null, .null, .null, .null])) := by rw [hu3]; exact gup_self _ _ _
  have hn3 : ∀ n, n ≠ m → u3 n = u2 n := fun n hn => by rw [hu3]; exact gup_ne hn
  clear hu3
  refine g_dup C d_L_law_11 rfl ?_
  refine g_callI 0 C (k_M_init _ X ad u3 (s2 + 1) m hm3 (fun j hj => (hn3 _ (by omega)).trans (kn _ (by omega))) (fun j h1 h2 => by rw [ham j, hs2]; omega)) (gmem wd_516 rfl) (gmem wd_4 rfl) (gmem wd_514 rfl) (gmem wd_515 rfl) rfl ⟨by decide, by decide, by decide +kernel⟩ ⟨Nat.le_of_ble_eq_true rfl, Nat.le_of_ble_eq_true rfl⟩ rfl rfl (Nat.le_of_ble_eq_true rfl) d_L_law_12 ⟨Nat.le_of_ble_eq_true rfl, Nat.le_of_ble_eq_true rfl⟩ ?_
  rintro v4 u4 s4 ⟨rfl, hu4, hs4⟩
  show GW Z room_1 8 (EE X) ad u4 s4 [(1, .ref (ad x)), (0, .ref b)] 36 15358 15 [.ref (ad m)]
  have hm4 : u4 m = some (mO ad m 0 0 (-1) 0 0 0 0 0) := by rw [hu4]; exact if_pos rfl
  have ha4 : ∀ j, 1 ≤ j → j ≤ 25 → u4 (m + j) = some (mA X j) := fun j h1 h2 => by
    rw [hu4, mInit, if_neg (by omega), if_pos ⟨by omega, by omega⟩, Nat.add_sub_cancel_left]
  have hn4 : ∀ n, (n < m ∨ m + 25 < n) → u4 n = u2 n := fun n hn => by
    rw [hu4, mInit, if_neg (by omega), if_neg (by omega)]
    exact hn3 n (by omega)
  clear hu4
  refine g_astore_n C d_L_law_15 rfl [(2, .ref (ad m)), (1, .ref (ad x)), (0, .ref b)] (by decide) rfl ?_
  refine g_iconst (v := 1) C d_L_law_16 (by decide) ?_
  refine g_newa (atype := .long) (ty := .long) (cA := (X.2 1)) (N := 1) (a0 := (1, .inr (.inl (fun _ => 0)))) (m + 26) 1 C ((hn4 _ (by omega)).trans (kn _ (by omega))) (by rw [ham 26, hs4, hs2]) (gmem wd_60 rfl) rfl rfl (fun _ => rfl) (by decide) (by decide) (by decide) (Nat.le_of_ble_eq_true rfl) (Nat.le_of_ble_eq_true rfl) d_L_law_17 ?_
  obtain ⟨u5, hu5⟩ : ∃ z, z = gup u4 (m + 26) (.inl ((X.2 1), 1, .inr (.inl (fun _ => 0)))) := ⟨_, rfl⟩
  rw [← hu5]
  have ho5 : u5 (m + 26) = some (.inl ((X.2 1), 1, .inr (.inl (fun _ => 0)))) := by rw [hu5]; exact gup_self _ _ _
  have hn5 : ∀ n, n ≠ m + 26 → u5 n = u4 n := fun n hn => by rw [hu5]; exact gup_ne hn
  clear hu5
  refine g_astore_n C d_L_law_19 rfl [(3, .ref (ad (m + 26))), (2, .ref (ad m)), (1, .ref (ad x)), (0, .ref b)] (by decide) rfl ?_
  refine g_iconst (v := 0) C d_L_law_20 (by decide) ?_
  refine g_istore C d_L_law_21 (lvL ad b x m (m + 26) (5 * 0)) (by decide) rfl ?_
  have hz : ∀ n, n < x + 512 → u5 n = u2 n := fun n hn => (hn5 n (by omega)).trans (hn4 n (by omega))
  have hI : lwI X ad x m (m + 26) M00 u5 0 0 := lw_init ((hz _ (by omega)).trans k0) ((hz _ (by omega)).trans k1) ((hz _ (by omega)).trans k2) ((hz _ (by omega)).trans k3) ((hz _ (by omega)).trans k4) ((hz _ (by omega)).trans k5) ((hz _ (by omega)).trans k6) ((hz _ (by omega)).trans k7) ((hz _ (by omega)).trans k8) ((hz _ (by omega)).trans k9) ((hn5 _ (by omega)).trans hm4) (fun j h1 h2 => (hn5 _ (by omega)).trans (ha4 j h1 h2)) ho5 (fun n h1 h2 => (hz n h2).trans (kn n (by omega)))
  exact lw_loop G (c0 := 37) (s0 := 15359) (by omega) (by omega) hL (by decide) (by decide) hr hQ ha hA 512 0 rfl ad u5 _ M00 0 0 hI
theorem whole_start {p : Program} {e : Env} {s : State} {m : MethodId} {below : List Frame} {meth : Method} {c : Code} (l : Launch) (htr : noTr l) {b L : Nat} {xs : Nat → Int32} (hL : L ≤ 2560) (C0 : lw_At p s m meth c b L xs) : W p l e room_1 s m #[Value.ref b] below meth c s.heap [] 0 0 (lw_Z below #[Value.ref b] s) (entryFrame m ([Value.ref b] : List Value).toArray 8) := by
  obtain ⟨hx, hb, hr, hml, hown, hts, hX, hbl, hlocks, hgv⟩ := C0
  obtain ⟨X, hK⟩ := lw_known hts
  obtain ⟨Z, eZ⟩ : ∃ Z : gZ, Z = (p, l, e, s, m, #[.ref b], below, meth, c, fun q => s.heap.size ≤ q, s.heap, lw_Z below #[.ref b] s) := ⟨_, rfl⟩
  have C : gC Z c_L_law 8 "ExpenseClubsLaw" gT (EE X) := by
    rw [eZ]
    exact ⟨hx, hb, hml, hown, fun w h => hts w (gT_of h), hK, fun q h => h, hlocks, lw_nest hts⟩
  have hThF : gThF Z := by
    rw [eZ]
    exact gThF_of (lw_Th hts hgv) rfl (fun a cell hc _ hA => absurd (Array.getElem?_eq_some_iff.mp hc).1 (Nat.not_lt.mpr hA))
  have G : lwG Z b L xs X := ⟨C, by rw [eZ]; exact ⟨hX, hbl, Nat.not_le.mpr hbl⟩, hThF, by rw [eZ]; exact htr⟩
  obtain ⟨ad, K⟩ := lw_entry G s.heap.size 0 hL (by rw [eZ]; exact hr) (by rw [eZ]; rfl) (by rw [eZ]; rfl) (by rw [eZ]; exact fun q h => h)
  have hl := lv_entry ([.ref b]) (n := 8) (Nat.le_of_ble_eq_true rfl)
  rw [lg_entry_eq]
  rw [eZ] at K
  exact K s.heap [] _ rfl ⟨fun n e h => (by cases h), fun n k h => absurd rfl h⟩ (fun n h => absurd rfl h) va_S.rf hl
