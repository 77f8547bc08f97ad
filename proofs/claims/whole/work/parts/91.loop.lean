theorem lvL_ad {ad ad' : Nat → Nat} {b x m o i : Nat} (h1 : ad' x = ad x) (h2 : ad' m = ad m) (h3 : ad' o = ad o) : lvL ad b x m o i = lvL ad' b x m o i := by
  unfold lvL
  rw [h1, h2, h3]
set_option maxHeartbeats 4000000 in
set_option maxRecDepth 100000 in
theorem lw_body {Z : gZ} {b L : Nat} {xs : Nat → Int32} {X : gX} (G : lwG Z b L xs X) {x m o i cs ss : Nat} (hm : x + 512 ≤ m) (ho : m + 26 ≤ o) (hi : i + 5 ≤ L) (hL : L ≤ 2560) (hcs : cs + 16 ≤ 601024) (hss : ss + 200 ≤ 7293034) {ad : Nat → Nat} {u : gW} {sz : Nat} {M : mM} {nC nB : Nat} (h : lwI X ad x m o M u nC nB) (hp : lwP ad x nC nB sz) (K : lwN Z X b x m o i (cs + 16) (ss + 200)) : GW Z room_1 8 (EE X) ad u sz (lvL ad b x m o i) cs ss 32 [] := by
  have C := G.1
  refine g_aload_n C d_L_law_32 rfl 4 rfl ?_
  refine g_iload C d_L_law_33 0 rfl ?_
  refine g_sld C G.2.1 (vp_in_nI (by omega) (by omega)) d_L_law_35 ?_
  refine g_bipush (v := 31) C d_L_law_36 (by decide) ?_
  refine g_iand C d_L_law_38 ?_
  obtain ⟨j, hj, ej⟩ := lw_sw (xs (nI i).toNatClampNeg)
  rw [ej]
  by_cases h20 : 20 ≤ j
  · refine g_tableOut 834 C d_L_law_39 (Or.inr (by rw [nI_toInt (by omega)]; omega)) (by decide) ?_
    refine g_widen (k := cs + 16) (n := ss + 200) (by omega) (by omega) ?_
    exact K ad u sz M nC nB h
  · rcases (show j = 0 ∨ j = 1 ∨ j = 2 ∨ j = 3 ∨ j = 4 ∨ j = 5 ∨ j = 6 ∨ j = 7 ∨ j = 8 ∨ j = 9 ∨ j = 10 ∨ j = 11 ∨ j = 12 ∨ j = 13 ∨ j = 14 ∨ j = 15 ∨ j = 16 ∨ j = 17 ∨ j = 18 ∨ j = 19 by omega) with rfl | rfl | rfl | rfl | rfl | rfl | rfl | rfl | rfl | rfl | rfl | rfl | rfl | rfl | rfl | rfl | rfl | rfl | rfl | rfl
    · exact g_tableIn (off := 93) 132 C d_L_law_39 (by decide) (by decide) (by decide +kernel) (by decide) (lw_c0 G hm ho hi hL hcs hss h hp K)
    · exact g_tableIn (off := 106) 145 C d_L_law_39 (by decide) (by decide) (by decide +kernel) (by decide) (lw_c1 G hm ho hi hL hcs hss h hp K)
    · exact g_tableIn (off := 131) 170 C d_L_law_39 (by decide) (by decide) (by decide +kernel) (by decide) (lw_c2 G hm ho hi hL hcs hss h hp K)
    · exact g_tableIn (off := 168) 207 C d_L_law_39 (by decide) (by decide) (by decide +kernel) (by decide) (lw_c3 G hm ho hi hL hcs hss h hp K)
    · exact g_tableIn (off := 229) 268 C d_L_law_39 (by decide) (by decide) (by decide +kernel) (by decide) (lw_c4 G hm ho hi hL hcs hss h hp K)
    · exact g_tableIn (off := 266) 305 C d_L_law_39 (by decide) (by decide) (by decide +kernel) (by decide) (lw_c5 G hm ho hi hL hcs hss h hp K)
    · exact g_tableIn (off := 303) 342 C d_L_law_39 (by decide) (by decide) (by decide +kernel) (by decide) (lw_c6 G hm ho hi hL hcs hss h hp K)
    · exact g_tableIn (off := 340) 379 C d_L_law_39 (by decide) (by decide) (by decide +kernel) (by decide) (lw_c7 G hm ho hi hL hcs hss h hp K)
    · exact g_tableIn (off := 353) 392 C d_L_law_39 (by decide) (by decide) (by decide +kernel) (by decide) (lw_c8 G hm ho hi hL hcs hss h hp K)
    · exact g_tableIn (off := 378) 417 C d_L_law_39 (by decide) (by decide) (by decide +kernel) (by decide) (lw_c9 G hm ho hi hL hcs hss h hp K)
    · exact g_tableIn (off := 428) 467 C d_L_law_39 (by decide) (by decide) (by decide +kernel) (by decide) (lw_c10 G hm ho hi hL hcs hss h hp K)
    · exact g_tableIn (off := 454) 493 C d_L_law_39 (by decide) (by decide) (by decide +kernel) (by decide) (lw_c11 G hm ho hi hL hcs hss h hp K)
    · exact g_tableIn (off := 492) 531 C d_L_law_39 (by decide) (by decide) (by decide +kernel) (by decide) (lw_c12 G hm ho hi hL hcs hss h hp K)
    · exact g_tableIn (off := 530) 569 C d_L_law_39 (by decide) (by decide) (by decide +kernel) (by decide) (lw_c13 G hm ho hi hL hcs hss h hp K)
    · exact g_tableIn (off := 555) 594 C d_L_law_39 (by decide) (by decide) (by decide +kernel) (by decide) (lw_c14 G hm ho hi hL hcs hss h hp K)
    · exact g_tableIn (off := 634) 673 C d_L_law_39 (by decide) (by decide) (by decide +kernel) (by decide) (lw_c15 G hm ho hi hL hcs hss h hp K)
    · exact g_tableIn (off := 671) 710 C d_L_law_39 (by decide) (by decide) (by decide +kernel) (by decide) (lw_c16 G hm ho hi hL hcs hss h hp K)
    · exact g_tableIn (off := 696) 735 C d_L_law_39 (by decide) (by decide) (by decide +kernel) (by decide) (lw_c17 G hm ho hi hL hcs hss h hp K)
    · exact g_tableIn (off := 721) 760 C d_L_law_39 (by decide) (by decide) (by decide +kernel) (by decide) (lw_c18 G hm ho hi hL hcs hss h hp K)
    · exact g_tableIn (off := 758) 797 C d_L_law_39 (by decide) (by decide) (by decide +kernel) (by decide) (lw_c19 G hm ho hi hL hcs hss h hp K)
set_option maxHeartbeats 4000000 in
theorem lw_loop {Z : gZ} {b L : Nat} {xs : Nat → Int32} {X : gX} (G : lwG Z b L xs X) {x m o c0 s0 : Nat} (hm : x + 512 ≤ m) (ho : m + 26 ≤ o) (hL : L ≤ 2560) (hc0 : c0 ≤ 100) (hs0 : s0 ≤ 100000) (hr : (gme Z).sig.returnType = ret) (hQ : gQ Z = lw_Z (gb Z) #[.ref b] (gs Z)) (ha : ga Z = #[.ref b]) (hA : ∀ q, gA Z q → (gs Z).heap.size ≤ q) :
    ∀ (n k : Nat), k + n = 512 → ∀ (ad : Nat → Nat) (u : gW) (sz : Nat) (M : mM) (nC nB : Nat), lwI X ad x m o M u nC nB → GW Z room_1 8 (EE X) ad u sz (lvL ad b x m o (5 * k)) (c0 + 16 * k) (s0 + 200 * k) 23 [] := by
  have C := G.1
  have hend : ∀ (ad : Nat → Nat) (u : gW) (sz : Nat) (lv : List (Nat × Value)) (cs ss : Nat), cs ≤ 601024 → ss ≤ 7293034 → GW Z room_1 8 (EE X) ad u sz lv cs ss 840 [] := fun ad u sz lv cs ss h1 h2 => by
    refine g_iconst (v := 1) C d_L_law_840 (by decide) ?_
    exact g_lawend C hr hQ ha hA h1 h2 d_L_law_841
  intro n
  induction n with
  | zero =>
    intro k hk ad u sz M nC nB h
    refine g_iload C d_L_law_23 0 rfl ?_
    refine g_aload_n C d_L_law_25 rfl 4 rfl ?_
    refine g_slen C G.2.1 d_L_law_26 ?_
    refine g_iconst (v := 5) C d_L_law_27 (by decide) ?_
    refine g_isub C d_L_law_28 ?_
    refine g_icmp_gt 840 C d_L_law_29 (by decide) (fun _ => ?_) (fun hn => absurd ((lw_gt (by omega) hL).mpr (by omega)) hn)
    exact hend _ _ _ _ _ _ (by omega) (by omega)
  | succ n ih =>
    intro k hk ad u sz M nC nB h
    refine g_iload C d_L_law_23 0 rfl ?_
    refine g_aload_n C d_L_law_25 rfl 4 rfl ?_
    refine g_slen C G.2.1 d_L_law_26 ?_
    refine g_iconst (v := 5) C d_L_law_27 (by decide) ?_
    refine g_isub C d_L_law_28 ?_
    refine g_icmp_gt 840 C d_L_law_29 (by decide) (fun _ => hend _ _ _ _ _ _ (by omega) (by omega)) (fun hn => ?_)
    have hi : 5 * k + 5 ≤ L := Nat.not_lt.mp fun q => hn ((lw_gt (by omega) hL).mpr q)
    obtain ⟨hk0, hw0, f, hf⟩ := h
    refine g_ad (ad' := adP ad u x nC nB sz) adP_old ?_
    have e1 : adP ad u x nC nB sz x = ad x := adP_old _ (by rw [hk0.2.1.1]; simp)
    have e2 : adP ad u x nC nB sz m = ad m := adP_old _ (by rw [mW_0 hw0]; simp)
    have e3 : adP ad u x nC nB sz o = ad o := adP_old _ (by rw [hf]; simp)
    rw [lvL_ad (b := b) (i := 5 * k) e1 e2 e3]
    refine lw_body G hm ho hi hL (by omega) (by omega) ⟨kD_ad adP_old hk0, mW_ad adP_old hw0, f, hf⟩ (adP_new hk0) ?_
    intro ad2 u2 sz2 M2 nC2 nB2 h2
    refine g_iinc (v := nI (5 * (k + 1))) C d_L_law_834 0 rfl ?_ (lvL ad2 b x m o (5 * (k + 1))) (by decide) rfl ?_
    · exact nI_add (5 * k) 5
    refine g_goto 23 C d_L_law_837 (by decide) ?_
    refine g_widen (k := c0 + 16 * (k + 1)) (n := s0 + 200 * (k + 1)) (by omega) (by omega) ?_
    exact ih (k + 1) (by omega) ad2 u2 sz2 M2 nC2 nB2 h2
