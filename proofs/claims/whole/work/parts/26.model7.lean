theorem mapL_mapL (f g : Nat → Int64) (n : Nat) : mapL (mapL f g n) g n = mapL f g n := by
  funext j; simp only [mapL]; split <;> rfl
/-- the drifts of the model's bill -/
def driMG (t all : Int64) (hv sh : Nat → Int64) : Nat → Int64 := fun j => if hv j ≤ 0 then 0 else 1000 * sh j - (parS (1000 * t) (hv j) all 63).1
set_option maxHeartbeats 4000000 in
set_option maxRecDepth 100000 in
theorem k_M_post (l : Launch) (X : gX) (ad : Nat → Nat) (u : gW) (sz : Nat) (m : Nat) (th cl dr wy ce ra li bi : Int32) (mar ope lef pay wei lic lis cof str : Nat → Int32) (hea tot sha pai dri : Nat → Int64)  (hm : u m = some (mO ad m th cl dr wy ce ra li bi)) (h_mar : u (m + 2) = some (.inl ((X.2 0), 4, .inl mar))) (h_ope : u (m + 16) = some (.inl ((X.2 2), 4, .inl ope))) (h_lef : u (m + 3) = some (.inl ((X.2 2), 48, .inl lef))) (h_pay : u (m + 4) = some (.inl ((X.2 0), 12, .inl pay))) (h_wei : u (m + 5) = some (.inl ((X.2 0), 12, .inl wei))) (h_lic : u (m + 6) = some (.inl ((X.2 0), 16, .inl lic))) (h_lis : u (m + 7) = some (.inl ((X.2 0), 16, .inl lis))) (h_cof : u (m + 9) = some (.inl ((X.2 0), 64, .inl cof))) (h_str : u (m + 11) = some (.inl ((X.2 2), 64, .inl str))) (h_hea : u (m + 8) = some (.inl ((X.2 1), 12, .inr (.inl hea)))) (h_tot : u (m + 10) = some (.inl ((X.2 1), 64, .inr (.inl tot)))) (h_sha : u (m + 12) = some (.inl ((X.2 1), 768, .inr (.inl sha)))) (h_pai : u (m + 13) = some (.inl ((X.2 1), 768, .inr (.inl pai)))) (h_dri : u (m + 14) = some (.inl ((X.2 1), 768, .inr (.inl dri)))) (hdr : ¬ dr = -1 → vp_in dr 4) (L : Nat) (hli : li = nI L) (hL16 : L ≤ 16) (hsz : ∀ k, k < L → ¬ sizS (lis k) 12 = 0) (nb : Nat) (hnb : bi = nI nb) (hn64 : nb ≤ 64) (s0 : Nat) (hs0 : s0 < 12) (hmk : mar dr.toNatClampNeg = nI s0) (hend : ¬ dr = -1 → wroR lef pay (mapL hea (heaV wy wei lis lic L) 12) (heaV wy wei lis lic L) dr.toNatClampNeg wy ce (linS lic L) 0 → ¬ ce.toInt64 = 0 ∧ (handS (fun j => (pay j).toInt64) 0 (fun j => (parS (totS ce ra) (pay j).toInt64 ce.toInt64 63).1) (wantS (totS ce ra) (fun j => (parS (totS ce ra) (pay j).toInt64 ce.toInt64 63).1) 12) 12).2.1 ≤ 0 ∧ ¬ (sumL (heaV wy wei lis lic L) 12) = 0 ∧ (handS (mapL hea (heaV wy wei lis lic L) 12) s0 (fun j => (parS (totS ce ra) ((mapL hea (heaV wy wei lis lic L) 12) j) (sumL (heaV wy wei lis lic L) 12) 63).1) (wantS (totS ce ra) (fun j => (parS (totS ce ra) ((mapL hea (heaV wy wei lis lic L) 12) j) (sumL (heaV wy wei lis lic L) 12) 63).1) 12) 12).2.1 ≤ 0) : gMet l (EE X) y_M_post c_M_post 8 (some .int) ({ frames := 3, cells := 0, slots := 0, locals := 71 }) [.ref (ad m)] ad u sz (fun v u' sz' => ∃ r : Int32, v = some (.int r) ∧ sz' = sz ∧ ((dr = -1 ∧ r = -1 ∧ u' = gup u m (mO ad m 0 cl dr wy ce ra li bi)) ∨ (¬ dr = -1 ∧ ¬ ope dr.toNatClampNeg = 0 ∧ r = -2 ∧ u' = gup u m (mO ad m 0 cl dr wy ce ra li bi)) ∨ (¬ dr = -1 ∧ ope dr.toNatClampNeg = 0 ∧ bi = 64 ∧ r = -3 ∧ u' = gup u m (mO ad m 0 cl dr wy ce ra li bi)) ∨ (¬ dr = -1 ∧ ope dr.toNatClampNeg = 0 ∧ ¬ bi = 64 ∧ ¬ r = 0 ∧ wroR lef pay (mapL hea (heaV wy wei lis lic L) 12) (heaV wy wei lis lic L) dr.toNatClampNeg wy ce (linS lic L) r ∧ u' = gup (gup u m (mO ad m 0 cl dr wy ce ra li bi)) (m + 8) (.inl ((X.2 1), 12, .inr (.inl (mapL hea (heaV wy wei lis lic L) 12))))) ∨ (¬ dr = -1 ∧ ope dr.toNatClampNeg = 0 ∧ ¬ bi = 64 ∧ wroR lef pay (mapL hea (heaV wy wei lis lic L) 12) (heaV wy wei lis lic L) dr.toNatClampNeg wy ce (linS lic L) 0 ∧ r = (bi + 1) - 1 ∧ u' = gup (gup (gup (gup (gup (gup (gup (gup (gup u m (mO ad m 0 cl (-1) wy ce ra li (bi + 1))) (m + 2) (.inl ((X.2 0), 4, .inl (upd mar dr.toNatClampNeg (nI (handS (mapL hea (heaV wy wei lis lic L) 12) s0 (fun j => (parS (totS ce ra) ((mapL hea (heaV wy wei lis lic L) 12) j) (sumL (heaV wy wei lis lic L) 12) 63).1) (wantS (totS ce ra) (fun j => (parS (totS ce ra) ((mapL hea (heaV wy wei lis lic L) 12) j) (sumL (heaV wy wei lis lic L) 12) 63).1) 12) 12).2.2))))) (m + 9) (.inl ((X.2 0), 64, .inl (upd cof nb dr)))) (m + 11) (.inl ((X.2 2), 64, .inl (upd str nb 0)))) (m + 8) (.inl ((X.2 1), 12, .inr (.inl (mapL hea (heaV wy wei lis lic L) 12))))) (m + 10) (.inl ((X.2 1), 64, .inr (.inl (vp_updL tot nb (totS ce ra)))))) (m + 12) (.inl ((X.2 1), 768, .inr (.inl (mapO sha (handS (mapL hea (heaV wy wei lis lic L) 12) s0 (fun j => (parS (totS ce ra) ((mapL hea (heaV wy wei lis lic L) 12) j) (sumL (heaV wy wei lis lic L) 12) 63).1) (wantS (totS ce ra) (fun j => (parS (totS ce ra) ((mapL hea (heaV wy wei lis lic L) 12) j) (sumL (heaV wy wei lis lic L) 12) 63).1) 12) 12).1 (12 * nb) 12))))) (m + 13) (.inl ((X.2 1), 768, .inr (.inl (mapO pai (handS (fun j => (pay j).toInt64) 0 (fun j => (parS (totS ce ra) (pay j).toInt64 ce.toInt64 63).1) (wantS (totS ce ra) (fun j => (parS (totS ce ra) (pay j).toInt64 ce.toInt64 63).1) 12) 12).1 (12 * nb) 12))))) (m + 14) (.inl ((X.2 1), 768, .inr (.inl (mapO dri (driMG (totS ce ra) (sumL (heaV wy wei lis lic L) 12) (mapL hea (heaV wy wei lis lic L) 12) (handS (mapL hea (heaV wy wei lis lic L) 12) s0 (fun j => (parS (totS ce ra) ((mapL hea (heaV wy wei lis lic L) 12) j) (sumL (heaV wy wei lis lic L) 12) 63).1) (wantS (totS ce ra) (fun j => (parS (totS ce ra) ((mapL hea (heaV wy wei lis lic L) 12) j) (sumL (heaV wy wei lis lic L) 12) 63).1) 12) 12).1) (12 * nb) 12))))))) := by
  refine gMet_of "ExpenseClubsModel" rfl (by decide) (Nat.le_of_ble_eq_true rfl) (lv := [(0, .ref (ad m))]) rfl (fun Z hZl C hR hret hname => ?_)
  refine g_aload_n C d_M_post_0 rfl 0 rfl ?_
  refine g_iconst (v := 0) C d_M_post_1 (by decide) ?_
  refine g_put m 0 C hm rfl i_M t_M t_M_ok n_M (by decide) (gmem wd_518 rfl) rfl rfl rfl rfl (Nat.le_of_ble_eq_true rfl) d_M_post_2 ?_
  show GW Z _ _ _ ad (gup u m (mO ad m 0 cl dr wy ce ra li bi)) _ _ _ _ _ _
  obtain ⟨u1, hu1⟩ : ∃ z, z = gup u m (mO ad m 0 cl dr wy ce ra li bi) := ⟨_, rfl⟩
  rw [← hu1]
  have hu1_0 : u1 m = some (mO ad m 0 cl dr wy ce ra li bi) := by rw [hu1]; exact gup_self _ _ _
  have hu1_1 : u1 (m + 2) = some (.inl ((X.2 0), 4, .inl mar)) := by rw [hu1, gup_ne (by omega)]; exact h_mar
  have hu1_2 : u1 (m + 16) = some (.inl ((X.2 2), 4, .inl ope)) := by rw [hu1, gup_ne (by omega)]; exact h_ope
  have hu1_3 : u1 (m + 3) = some (.inl ((X.2 2), 48, .inl lef)) := by rw [hu1, gup_ne (by omega)]; exact h_lef
  have hu1_4 : u1 (m + 4) = some (.inl ((X.2 0), 12, .inl pay)) := by rw [hu1, gup_ne (by omega)]; exact h_pay
  have hu1_5 : u1 (m + 5) = some (.inl ((X.2 0), 12, .inl wei)) := by rw [hu1, gup_ne (by omega)]; exact h_wei
  have hu1_6 : u1 (m + 6) = some (.inl ((X.2 0), 16, .inl lic)) := by rw [hu1, gup_ne (by omega)]; exact h_lic
  have hu1_7 : u1 (m + 7) = some (.inl ((X.2 0), 16, .inl lis)) := by rw [hu1, gup_ne (by omega)]; exact h_lis
  have hu1_8 : u1 (m + 9) = some (.inl ((X.2 0), 64, .inl cof)) := by rw [hu1, gup_ne (by omega)]; exact h_cof
  have hu1_9 : u1 (m + 11) = some (.inl ((X.2 2), 64, .inl str)) := by rw [hu1, gup_ne (by omega)]; exact h_str
  have hu1_10 : u1 (m + 8) = some (.inl ((X.2 1), 12, .inr (.inl hea))) := by rw [hu1, gup_ne (by omega)]; exact h_hea
  have hu1_11 : u1 (m + 10) = some (.inl ((X.2 1), 64, .inr (.inl tot))) := by rw [hu1, gup_ne (by omega)]; exact h_tot
  have hu1_12 : u1 (m + 12) = some (.inl ((X.2 1), 768, .inr (.inl sha))) := by rw [hu1, gup_ne (by omega)]; exact h_sha
  have hu1_13 : u1 (m + 13) = some (.inl ((X.2 1), 768, .inr (.inl pai))) := by rw [hu1, gup_ne (by omega)]; exact h_pai
  have hu1_14 : u1 (m + 14) = some (.inl ((X.2 1), 768, .inr (.inl dri))) := by rw [hu1, gup_ne (by omega)]; exact h_dri
  refine g_aload_n C d_M_post_5 rfl 0 rfl ?_
  refine g_callV 0 C (k_M_wrong _ X ad u1 sz m 0 cl dr wy ce ra li bi ope lef pay wei lic lis hea  hu1_0 hu1_2 hu1_3 hu1_4 hu1_5 hu1_6 hu1_7 hu1_10 hdr L hli hL16 hsz) (gmem wd_675 rfl) (gmem wd_677 rfl) (gmem ws_13 rfl) (gmem wd_4 rfl) (gmem wd_678 rfl) ⟨by decide, by decide, by decide +kernel⟩ ⟨Nat.le_of_ble_eq_true rfl, Nat.le_of_ble_eq_true rfl⟩ hu1_0 rfl rfl rfl (Nat.le_of_ble_eq_true rfl) d_M_post_6 ⟨Nat.le_of_ble_eq_true rfl, Nat.le_of_ble_eq_true rfl⟩ ?_
  rintro v9 uw2 s9 ⟨r, h9, hs9, hcase⟩; rw [h9, hs9]; clear h9 hs9 v9 s9
  rcases hcase with ⟨q1, q2, huw2⟩ | ⟨q1, q2, q3, huw2⟩ | ⟨q1, q2, q3, q4, huw2⟩ | ⟨q1, q2, q3, hwro, huw2⟩
  · skip
    rw [q2, huw2]
    show GW Z _ _ _ ad u1 sz [(0, .ref (ad m))] 0 0 9 [.int (-1)]
    refine g_istore_n C d_M_post_9 rfl [(1, .int (-1)), (0, .ref (ad m))] (by decide) rfl ?_
    refine g_iload_n C d_M_post_10 rfl 0 rfl ?_
    refine g_if_eq 16 C d_M_post_11 (by decide) (fun c11 => ?_) (fun c11 => ?_)
    · exact absurd c11 (by decide)
    refine g_iload_n C d_M_post_14 rfl 0 rfl ?_
    exact g_iret C hR hret ⟨_, rfl, rfl, Or.inl ⟨q1, rfl, (by first | (rw [hu1]; done) | (rw [hu1]; funext k; simp only [gup]; (repeat' split) <;> first | with_reducible rfl | (exfalso; omega)))⟩⟩ d_M_post_15
  · skip
    rw [q3, huw2]
    show GW Z _ _ _ ad u1 sz [(0, .ref (ad m))] 0 0 9 [.int (-2)]
    refine g_istore_n C d_M_post_9 rfl [(1, .int (-2)), (0, .ref (ad m))] (by decide) rfl ?_
    refine g_iload_n C d_M_post_10 rfl 0 rfl ?_
    refine g_if_eq 16 C d_M_post_11 (by decide) (fun c11 => ?_) (fun c11 => ?_)
    · exact absurd c11 (by decide)
    refine g_iload_n C d_M_post_14 rfl 0 rfl ?_
    exact g_iret C hR hret ⟨_, rfl, rfl, Or.inr (Or.inl ⟨q1, q2, rfl, (by first | (rw [hu1]; done) | (rw [hu1]; funext k; simp only [gup]; (repeat' split) <;> first | with_reducible rfl | (exfalso; omega)))⟩)⟩ d_M_post_15
  · skip
    rw [q4, huw2]
    show GW Z _ _ _ ad u1 sz [(0, .ref (ad m))] 0 0 9 [.int (-3)]
    refine g_istore_n C d_M_post_9 rfl [(1, .int (-3)), (0, .ref (ad m))] (by decide) rfl ?_
    refine g_iload_n C d_M_post_10 rfl 0 rfl ?_
    refine g_if_eq 16 C d_M_post_11 (by decide) (fun c11 => ?_) (fun c11 => ?_)
    · exact absurd c11 (by decide)
    refine g_iload_n C d_M_post_14 rfl 0 rfl ?_
    exact g_iret C hR hret ⟨_, rfl, rfl, Or.inr (Or.inr (Or.inl ⟨q1, q2, q3, rfl, (by first | (rw [hu1]; done) | (rw [hu1]; funext k; simp only [gup]; (repeat' split) <;> first | with_reducible rfl | (exfalso; omega)))⟩))⟩ d_M_post_15
  · skip
    have huw2_0 : uw2 m = some (mO ad m 0 cl dr wy ce ra li bi) := by rw [huw2, gup_ne (by omega)]; exact hu1_0
    have huw2_1 : uw2 (m + 2) = some (.inl ((X.2 0), 4, .inl mar)) := by rw [huw2, gup_ne (by omega)]; exact hu1_1
    have huw2_2 : uw2 (m + 16) = some (.inl ((X.2 2), 4, .inl ope)) := by rw [huw2, gup_ne (by omega)]; exact hu1_2
    have huw2_3 : uw2 (m + 3) = some (.inl ((X.2 2), 48, .inl lef)) := by rw [huw2, gup_ne (by omega)]; exact hu1_3
    have huw2_4 : uw2 (m + 4) = some (.inl ((X.2 0), 12, .inl pay)) := by rw [huw2, gup_ne (by omega)]; exact hu1_4
    have huw2_5 : uw2 (m + 5) = some (.inl ((X.2 0), 12, .inl wei)) := by rw [huw2, gup_ne (by omega)]; exact hu1_5
    have huw2_6 : uw2 (m + 6) = some (.inl ((X.2 0), 16, .inl lic)) := by rw [huw2, gup_ne (by omega)]; exact hu1_6
    have huw2_7 : uw2 (m + 7) = some (.inl ((X.2 0), 16, .inl lis)) := by rw [huw2, gup_ne (by omega)]; exact hu1_7
    have huw2_8 : uw2 (m + 9) = some (.inl ((X.2 0), 64, .inl cof)) := by rw [huw2, gup_ne (by omega)]; exact hu1_8
    have huw2_9 : uw2 (m + 11) = some (.inl ((X.2 2), 64, .inl str)) := by rw [huw2, gup_ne (by omega)]; exact hu1_9
    have huw2_10 : uw2 (m + 8) = some (.inl ((X.2 1), 12, .inr (.inl (mapL hea (heaV wy wei lis lic L) 12)))) := by rw [huw2, gup_self]
    have huw2_11 : uw2 (m + 10) = some (.inl ((X.2 1), 64, .inr (.inl tot))) := by rw [huw2, gup_ne (by omega)]; exact hu1_11
    have huw2_12 : uw2 (m + 12) = some (.inl ((X.2 1), 768, .inr (.inl sha))) := by rw [huw2, gup_ne (by omega)]; exact hu1_12
    have huw2_13 : uw2 (m + 13) = some (.inl ((X.2 1), 768, .inr (.inl pai))) := by rw [huw2, gup_ne (by omega)]; exact hu1_13
    have huw2_14 : uw2 (m + 14) = some (.inl ((X.2 1), 768, .inr (.inl dri))) := by rw [huw2, gup_ne (by omega)]; exact hu1_14
    show GW Z _ _ _ ad uw2 sz [(0, .ref (ad m))] 0 0 9 [.int r]
    refine g_istore_n C d_M_post_9 rfl [(1, .int r), (0, .ref (ad m))] (by decide) rfl ?_
    refine g_iload_n C d_M_post_10 rfl 0 rfl ?_
    refine g_if_eq 16 C d_M_post_11 (by decide) (fun c11 => ?_) (fun c11 => ?_)
    · skip
      refine g_bipush (v := 12) C d_M_post_16 (by decide) ?_
      refine g_aload_n C d_M_post_18 rfl 1 rfl ?_
      refine g_get m 15 C huw2_0 rfl i_M (by decide) (gmem wd_533 rfl) rfl rfl d_M_post_19 ?_
      refine g_imul C d_M_post_22 ?_
      rw [show 12 * bi = nI (12 * nb) from (by rw [hnb]; exact pk_mul 12 nb)]
      have hwro0 := hwro
      rw [c11] at hwro0
      have hnb6 : nb < 64 := Nat.lt_of_le_of_ne hn64 (fun e => q3 (by rw [hnb, e]; rfl))
      refine g_istore_n C d_M_post_23 rfl [(2, .int (nI (12 * nb))), (1, .int r), (0, .ref (ad m))] (by decide) rfl ?_
      refine g_aload_n C d_M_post_24 rfl 2 rfl ?_
      refine g_callV 0 C (k_M_weighs _ X ad uw2 sz m 0 cl dr wy ce ra li bi wei lic lis (mapL hea (heaV wy wei lis lic L) 12)  huw2_0 huw2_5 huw2_6 huw2_7 huw2_10 L hli hL16 hsz) (gmem wd_679 rfl) (gmem wd_681 rfl) (gmem ws_14 rfl) (gmem wd_4 rfl) (gmem wd_682 rfl) ⟨by decide, by decide, by decide +kernel⟩ ⟨Nat.le_of_ble_eq_true rfl, Nat.le_of_ble_eq_true rfl⟩ huw2_0 rfl rfl rfl (Nat.le_of_ble_eq_true rfl) d_M_post_25 ⟨Nat.le_of_ble_eq_true rfl, Nat.le_of_ble_eq_true rfl⟩ ?_
      rintro v9 uw3 s9 ⟨h9, huw3, hs9⟩; rw [h9, hs9]; clear h9 hs9 v9 s9
      rw [mapL_mapL] at huw3
      have huw3_0 : uw3 m = some (mO ad m 0 cl dr wy ce ra li bi) := by rw [huw3, gup_ne (by omega)]; exact huw2_0
      have huw3_1 : uw3 (m + 2) = some (.inl ((X.2 0), 4, .inl mar)) := by rw [huw3, gup_ne (by omega)]; exact huw2_1
      have huw3_2 : uw3 (m + 16) = some (.inl ((X.2 2), 4, .inl ope)) := by rw [huw3, gup_ne (by omega)]; exact huw2_2
      have huw3_3 : uw3 (m + 3) = some (.inl ((X.2 2), 48, .inl lef)) := by rw [huw3, gup_ne (by omega)]; exact huw2_3
      have huw3_4 : uw3 (m + 4) = some (.inl ((X.2 0), 12, .inl pay)) := by rw [huw3, gup_ne (by omega)]; exact huw2_4
      have huw3_5 : uw3 (m + 5) = some (.inl ((X.2 0), 12, .inl wei)) := by rw [huw3, gup_ne (by omega)]; exact huw2_5
      have huw3_6 : uw3 (m + 6) = some (.inl ((X.2 0), 16, .inl lic)) := by rw [huw3, gup_ne (by omega)]; exact huw2_6
      have huw3_7 : uw3 (m + 7) = some (.inl ((X.2 0), 16, .inl lis)) := by rw [huw3, gup_ne (by omega)]; exact huw2_7
      have huw3_8 : uw3 (m + 9) = some (.inl ((X.2 0), 64, .inl cof)) := by rw [huw3, gup_ne (by omega)]; exact huw2_8
      have huw3_9 : uw3 (m + 11) = some (.inl ((X.2 2), 64, .inl str)) := by rw [huw3, gup_ne (by omega)]; exact huw2_9
      have huw3_10 : uw3 (m + 8) = some (.inl ((X.2 1), 12, .inr (.inl (mapL hea (heaV wy wei lis lic L) 12)))) := by rw [huw3, gup_self]
      have huw3_11 : uw3 (m + 10) = some (.inl ((X.2 1), 64, .inr (.inl tot))) := by rw [huw3, gup_ne (by omega)]; exact huw2_11
      have huw3_12 : uw3 (m + 12) = some (.inl ((X.2 1), 768, .inr (.inl sha))) := by rw [huw3, gup_ne (by omega)]; exact huw2_12
      have huw3_13 : uw3 (m + 13) = some (.inl ((X.2 1), 768, .inr (.inl pai))) := by rw [huw3, gup_ne (by omega)]; exact huw2_13
      have huw3_14 : uw3 (m + 14) = some (.inl ((X.2 1), 768, .inr (.inl dri))) := by rw [huw3, gup_ne (by omega)]; exact huw2_14
      show GW Z _ _ _ ad uw3 sz [(2, .int (nI (12 * nb))), (1, .int r), (0, .ref (ad m))] 0 0 28 [.long (sumL (heaV wy wei lis lic L) 12)]
      refine g_lstore_n C d_M_post_28 rfl [(3, .long (sumL (heaV wy wei lis lic L) 12)), (2, .int (nI (12 * nb))), (1, .int r), (0, .ref (ad m))] (by decide) rfl ?_
      refine g_aload_n C d_M_post_29 rfl 3 rfl ?_
      refine g_get m 7 C huw3_0 rfl i_M (by decide) (gmem wd_525 rfl) rfl rfl d_M_post_30 ?_
      refine g_i2l C d_M_post_33 ?_
      refine g_aload_n C d_M_post_34 rfl 3 rfl ?_
      refine g_get m 8 C huw3_0 rfl i_M (by decide) (gmem wd_526 rfl) rfl rfl d_M_post_35 ?_
      refine g_i2l C d_M_post_38 ?_
      refine g_lmul C d_M_post_39 ?_
      refine g_ldc2 C (gmem wd_691 rfl) d_M_post_40 ?_
      refine g_ladd C d_M_post_43 ?_
      refine g_ldc2 C (gmem wd_692 rfl) d_M_post_44 ?_
      refine g_ldiv C d_M_post_47 (by decide) ?_
      rw [show (((Int32.toInt64 ce) * (Int32.toInt64 ra)) + 500000) / 1000000 = totS ce ra from rfl]
      refine g_lstore C d_M_post_48 [(5, .long (totS ce ra)), (3, .long (sumL (heaV wy wei lis lic L) 12)), (2, .int (nI (12 * nb))), (1, .int r), (0, .ref (ad m))] (by decide) rfl ?_
      refine g_aload_n C d_M_post_50 rfl 4 rfl ?_
      refine g_get m 16 C huw3_0 rfl i_M (by decide) (gmem wd_534 rfl) rfl rfl d_M_post_51 ?_
      refine g_aload_n C d_M_post_54 rfl 4 rfl ?_
      refine g_get m 15 C huw3_0 rfl i_M (by decide) (gmem wd_533 rfl) rfl rfl d_M_post_55 ?_
      refine g_aload_n C d_M_post_58 rfl 4 rfl ?_
      refine g_get m 5 C huw3_0 rfl i_M (by decide) (gmem wd_523 rfl) rfl rfl d_M_post_59 ?_
      refine g_iast (m + 9) 0 C huw3_8 rfl (in64n hnb hn64 q3) d_M_post_62 ?_
      rw [show Int32.toNatClampNeg bi = nb from (by rw [hnb]; exact nI_clamp (by omega))]
      obtain ⟨u4, hu4⟩ : ∃ z, z = gup uw3 (m + 9) (.inl ((X.2 0), 64, .inl (upd cof nb dr))) := ⟨_, rfl⟩
      rw [← hu4]
      have hu4_0 : u4 m = some (mO ad m 0 cl dr wy ce ra li bi) := by rw [hu4, gup_ne (by omega)]; exact huw3_0
      have hu4_1 : u4 (m + 2) = some (.inl ((X.2 0), 4, .inl mar)) := by rw [hu4, gup_ne (by omega)]; exact huw3_1
      have hu4_2 : u4 (m + 16) = some (.inl ((X.2 2), 4, .inl ope)) := by rw [hu4, gup_ne (by omega)]; exact huw3_2
      have hu4_3 : u4 (m + 3) = some (.inl ((X.2 2), 48, .inl lef)) := by rw [hu4, gup_ne (by omega)]; exact huw3_3
      have hu4_4 : u4 (m + 4) = some (.inl ((X.2 0), 12, .inl pay)) := by rw [hu4, gup_ne (by omega)]; exact huw3_4
      have hu4_5 : u4 (m + 5) = some (.inl ((X.2 0), 12, .inl wei)) := by rw [hu4, gup_ne (by omega)]; exact huw3_5
      have hu4_6 : u4 (m + 6) = some (.inl ((X.2 0), 16, .inl lic)) := by rw [hu4, gup_ne (by omega)]; exact huw3_6
      have hu4_7 : u4 (m + 7) = some (.inl ((X.2 0), 16, .inl lis)) := by rw [hu4, gup_ne (by omega)]; exact huw3_7
      have hu4_8 : u4 (m + 9) = some (.inl ((X.2 0), 64, .inl (upd cof nb dr))) := by rw [hu4]; exact gup_self _ _ _
      have hu4_9 : u4 (m + 11) = some (.inl ((X.2 2), 64, .inl str)) := by rw [hu4, gup_ne (by omega)]; exact huw3_9
      have hu4_10 : u4 (m + 8) = some (.inl ((X.2 1), 12, .inr (.inl (mapL hea (heaV wy wei lis lic L) 12)))) := by rw [hu4, gup_ne (by omega)]; exact huw3_10
      have hu4_11 : u4 (m + 10) = some (.inl ((X.2 1), 64, .inr (.inl tot))) := by rw [hu4, gup_ne (by omega)]; exact huw3_11
      have hu4_12 : u4 (m + 12) = some (.inl ((X.2 1), 768, .inr (.inl sha))) := by rw [hu4, gup_ne (by omega)]; exact huw3_12
      have hu4_13 : u4 (m + 13) = some (.inl ((X.2 1), 768, .inr (.inl pai))) := by rw [hu4, gup_ne (by omega)]; exact huw3_13
      have hu4_14 : u4 (m + 14) = some (.inl ((X.2 1), 768, .inr (.inl dri))) := by rw [hu4, gup_ne (by omega)]; exact huw3_14
      refine g_aload_n C d_M_post_63 rfl 4 rfl ?_
      refine g_get m 17 C hu4_0 rfl i_M (by decide) (gmem wd_535 rfl) rfl rfl d_M_post_64 ?_
      refine g_aload_n C d_M_post_67 rfl 4 rfl ?_
      refine g_get m 15 C hu4_0 rfl i_M (by decide) (gmem wd_533 rfl) rfl rfl d_M_post_68 ?_
      refine g_lload C d_M_post_71 0 rfl ?_
      refine g_last (m + 10) 1 C hu4_11 rfl (in64n hnb hn64 q3) d_M_post_73 ?_
      rw [show Int32.toNatClampNeg bi = nb from (by rw [hnb]; exact nI_clamp (by omega))]
      obtain ⟨u5, hu5⟩ : ∃ z, z = gup u4 (m + 10) (.inl ((X.2 1), 64, .inr (.inl (vp_updL tot nb (totS ce ra))))) := ⟨_, rfl⟩
      rw [← hu5]
      have hu5_0 : u5 m = some (mO ad m 0 cl dr wy ce ra li bi) := by rw [hu5, gup_ne (by omega)]; exact hu4_0
      have hu5_1 : u5 (m + 2) = some (.inl ((X.2 0), 4, .inl mar)) := by rw [hu5, gup_ne (by omega)]; exact hu4_1
      have hu5_2 : u5 (m + 16) = some (.inl ((X.2 2), 4, .inl ope)) := by rw [hu5, gup_ne (by omega)]; exact hu4_2
      have hu5_3 : u5 (m + 3) = some (.inl ((X.2 2), 48, .inl lef)) := by rw [hu5, gup_ne (by omega)]; exact hu4_3
      have hu5_4 : u5 (m + 4) = some (.inl ((X.2 0), 12, .inl pay)) := by rw [hu5, gup_ne (by omega)]; exact hu4_4
      have hu5_5 : u5 (m + 5) = some (.inl ((X.2 0), 12, .inl wei)) := by rw [hu5, gup_ne (by omega)]; exact hu4_5
      have hu5_6 : u5 (m + 6) = some (.inl ((X.2 0), 16, .inl lic)) := by rw [hu5, gup_ne (by omega)]; exact hu4_6
      have hu5_7 : u5 (m + 7) = some (.inl ((X.2 0), 16, .inl lis)) := by rw [hu5, gup_ne (by omega)]; exact hu4_7
      have hu5_8 : u5 (m + 9) = some (.inl ((X.2 0), 64, .inl (upd cof nb dr))) := by rw [hu5, gup_ne (by omega)]; exact hu4_8
      have hu5_9 : u5 (m + 11) = some (.inl ((X.2 2), 64, .inl str)) := by rw [hu5, gup_ne (by omega)]; exact hu4_9
      have hu5_10 : u5 (m + 8) = some (.inl ((X.2 1), 12, .inr (.inl (mapL hea (heaV wy wei lis lic L) 12)))) := by rw [hu5, gup_ne (by omega)]; exact hu4_10
      have hu5_11 : u5 (m + 10) = some (.inl ((X.2 1), 64, .inr (.inl (vp_updL tot nb (totS ce ra))))) := by rw [hu5]; exact gup_self _ _ _
      have hu5_12 : u5 (m + 12) = some (.inl ((X.2 1), 768, .inr (.inl sha))) := by rw [hu5, gup_ne (by omega)]; exact hu4_12
      have hu5_13 : u5 (m + 13) = some (.inl ((X.2 1), 768, .inr (.inl pai))) := by rw [hu5, gup_ne (by omega)]; exact hu4_13
      have hu5_14 : u5 (m + 14) = some (.inl ((X.2 1), 768, .inr (.inl dri))) := by rw [hu5, gup_ne (by omega)]; exact hu4_14
      refine g_aload_n C d_M_post_74 rfl 4 rfl ?_
      refine g_get m 18 C hu5_0 rfl i_M (by decide) (gmem wd_536 rfl) rfl rfl d_M_post_75 ?_
      refine g_aload_n C d_M_post_78 rfl 4 rfl ?_
      refine g_get m 15 C hu5_0 rfl i_M (by decide) (gmem wd_533 rfl) rfl rfl d_M_post_79 ?_
      refine g_iconst (v := 0) C d_M_post_82 (by decide) ?_
      refine g_zast (m + 11) 2 C hu5_9 rfl (in64n hnb hn64 q3) d_M_post_83 ?_
      rw [show Int32.toNatClampNeg bi = nb from (by rw [hnb]; exact nI_clamp (by omega))]
      rw [show vp_nar .boolean 0 = 0 from rfl]
      obtain ⟨u6, hu6⟩ : ∃ z, z = gup u5 (m + 11) (.inl ((X.2 2), 64, .inl (upd str nb 0))) := ⟨_, rfl⟩
      rw [← hu6]
      have hu6_0 : u6 m = some (mO ad m 0 cl dr wy ce ra li bi) := by rw [hu6, gup_ne (by omega)]; exact hu5_0
      have hu6_1 : u6 (m + 2) = some (.inl ((X.2 0), 4, .inl mar)) := by rw [hu6, gup_ne (by omega)]; exact hu5_1
      have hu6_2 : u6 (m + 16) = some (.inl ((X.2 2), 4, .inl ope)) := by rw [hu6, gup_ne (by omega)]; exact hu5_2
      have hu6_3 : u6 (m + 3) = some (.inl ((X.2 2), 48, .inl lef)) := by rw [hu6, gup_ne (by omega)]; exact hu5_3
      have hu6_4 : u6 (m + 4) = some (.inl ((X.2 0), 12, .inl pay)) := by rw [hu6, gup_ne (by omega)]; exact hu5_4
      have hu6_5 : u6 (m + 5) = some (.inl ((X.2 0), 12, .inl wei)) := by rw [hu6, gup_ne (by omega)]; exact hu5_5
      have hu6_6 : u6 (m + 6) = some (.inl ((X.2 0), 16, .inl lic)) := by rw [hu6, gup_ne (by omega)]; exact hu5_6
      have hu6_7 : u6 (m + 7) = some (.inl ((X.2 0), 16, .inl lis)) := by rw [hu6, gup_ne (by omega)]; exact hu5_7
      have hu6_8 : u6 (m + 9) = some (.inl ((X.2 0), 64, .inl (upd cof nb dr))) := by rw [hu6, gup_ne (by omega)]; exact hu5_8
      have hu6_9 : u6 (m + 11) = some (.inl ((X.2 2), 64, .inl (upd str nb 0))) := by rw [hu6]; exact gup_self _ _ _
      have hu6_10 : u6 (m + 8) = some (.inl ((X.2 1), 12, .inr (.inl (mapL hea (heaV wy wei lis lic L) 12)))) := by rw [hu6, gup_ne (by omega)]; exact hu5_10
      have hu6_11 : u6 (m + 10) = some (.inl ((X.2 1), 64, .inr (.inl (vp_updL tot nb (totS ce ra))))) := by rw [hu6, gup_ne (by omega)]; exact hu5_11
      have hu6_12 : u6 (m + 12) = some (.inl ((X.2 1), 768, .inr (.inl sha))) := by rw [hu6, gup_ne (by omega)]; exact hu5_12
      have hu6_13 : u6 (m + 13) = some (.inl ((X.2 1), 768, .inr (.inl pai))) := by rw [hu6, gup_ne (by omega)]; exact hu5_13
      have hu6_14 : u6 (m + 14) = some (.inl ((X.2 1), 768, .inr (.inl dri))) := by rw [hu6, gup_ne (by omega)]; exact hu5_14
      refine g_aload_n C d_M_post_84 rfl 4 rfl ?_
      refine g_iload_n C d_M_post_85 rfl 2 rfl ?_
      refine g_lload C d_M_post_86 0 rfl ?_
      refine g_callV 2 C (k_M_pay _ X ad u6 sz m 0 cl dr wy ce ra li bi pay pai nb (totS ce ra) hu6_0 hu6_4 hu6_13 hnb6 (hend q1 hwro0).1 (hend q1 hwro0).2.1) (gmem wd_693 rfl) (gmem wd_695 rfl) (gmem ws_16 rfl) (gmem wd_4 rfl) (gmem wd_696 rfl) ⟨by decide, by decide, by decide +kernel⟩ ⟨Nat.le_of_ble_eq_true rfl, Nat.le_of_ble_eq_true rfl⟩ hu6_0 rfl rfl rfl (Nat.le_of_ble_eq_true rfl) d_M_post_88 ⟨Nat.le_of_ble_eq_true rfl, Nat.le_of_ble_eq_true rfl⟩ ?_
      rintro v9 up7 s9 ⟨h9, hup7, hs9⟩; rw [h9, hs9]; clear h9 hs9 v9 s9
      have hup7_0 : up7 m = some (mO ad m 0 cl dr wy ce ra li bi) := by rw [hup7, gup_ne (by omega)]; exact hu6_0
      have hup7_1 : up7 (m + 2) = some (.inl ((X.2 0), 4, .inl mar)) := by rw [hup7, gup_ne (by omega)]; exact hu6_1
      have hup7_2 : up7 (m + 16) = some (.inl ((X.2 2), 4, .inl ope)) := by rw [hup7, gup_ne (by omega)]; exact hu6_2
      have hup7_3 : up7 (m + 3) = some (.inl ((X.2 2), 48, .inl lef)) := by rw [hup7, gup_ne (by omega)]; exact hu6_3
      have hup7_4 : up7 (m + 4) = some (.inl ((X.2 0), 12, .inl pay)) := by rw [hup7, gup_ne (by omega)]; exact hu6_4
      have hup7_5 : up7 (m + 5) = some (.inl ((X.2 0), 12, .inl wei)) := by rw [hup7, gup_ne (by omega)]; exact hu6_5
      have hup7_6 : up7 (m + 6) = some (.inl ((X.2 0), 16, .inl lic)) := by rw [hup7, gup_ne (by omega)]; exact hu6_6
      have hup7_7 : up7 (m + 7) = some (.inl ((X.2 0), 16, .inl lis)) := by rw [hup7, gup_ne (by omega)]; exact hu6_7
      have hup7_8 : up7 (m + 9) = some (.inl ((X.2 0), 64, .inl (upd cof nb dr))) := by rw [hup7, gup_ne (by omega)]; exact hu6_8
      have hup7_9 : up7 (m + 11) = some (.inl ((X.2 2), 64, .inl (upd str nb 0))) := by rw [hup7, gup_ne (by omega)]; exact hu6_9
      have hup7_10 : up7 (m + 8) = some (.inl ((X.2 1), 12, .inr (.inl (mapL hea (heaV wy wei lis lic L) 12)))) := by rw [hup7, gup_ne (by omega)]; exact hu6_10
      have hup7_11 : up7 (m + 10) = some (.inl ((X.2 1), 64, .inr (.inl (vp_updL tot nb (totS ce ra))))) := by rw [hup7, gup_ne (by omega)]; exact hu6_11
      have hup7_12 : up7 (m + 12) = some (.inl ((X.2 1), 768, .inr (.inl sha))) := by rw [hup7, gup_ne (by omega)]; exact hu6_12
      have hup7_13 : up7 (m + 13) = some (.inl ((X.2 1), 768, .inr (.inl (mapO pai (handS (fun j => (pay j).toInt64) 0 (fun j => (parS (totS ce ra) (pay j).toInt64 ce.toInt64 63).1) (wantS (totS ce ra) (fun j => (parS (totS ce ra) (pay j).toInt64 ce.toInt64 63).1) 12) 12).1 (12 * nb) 12)))) := by rw [hup7, gup_self]
      have hup7_14 : up7 (m + 14) = some (.inl ((X.2 1), 768, .inr (.inl dri))) := by rw [hup7, gup_ne (by omega)]; exact hu6_14
      show GW Z _ _ _ ad up7 sz [(5, .long (totS ce ra)), (3, .long (sumL (heaV wy wei lis lic L) 12)), (2, .int (nI (12 * nb))), (1, .int r), (0, .ref (ad m))] 0 0 91 []
      refine g_aload_n C d_M_post_91 rfl 4 rfl ?_
      refine g_iload_n C d_M_post_92 rfl 2 rfl ?_
      refine g_lload C d_M_post_93 0 rfl ?_
      refine g_lload_n C d_M_post_95 rfl 1 rfl ?_
      refine g_callV 3 C (k_M_share _ X ad up7 sz m 0 cl dr wy ce ra li bi mar (mapL hea (heaV wy wei lis lic L) 12) sha nb s0 (totS ce ra) (sumL (heaV wy wei lis lic L) 12) hup7_0 hup7_1 hup7_10 hup7_12 hnb6 (hend q1 hwro0).2.2.1 (hdr q1) hs0 hmk (hend q1 hwro0).2.2.2) (gmem wd_701 rfl) (gmem wd_703 rfl) (gmem ws_17 rfl) (gmem wd_4 rfl) (gmem wd_704 rfl) ⟨by decide, by decide, by decide +kernel⟩ ⟨Nat.le_of_ble_eq_true rfl, Nat.le_of_ble_eq_true rfl⟩ hup7_0 rfl rfl rfl (Nat.le_of_ble_eq_true rfl) d_M_post_96 ⟨Nat.le_of_ble_eq_true rfl, Nat.le_of_ble_eq_true rfl⟩ ?_
      rintro v9 up8 s9 ⟨h9, hup8, hs9⟩; rw [h9, hs9]; clear h9 hs9 v9 s9
      have hup8_0 : up8 m = some (mO ad m 0 cl dr wy ce ra li bi) := by rw [hup8, gup_ne (by omega), gup_ne (by omega)]; exact hup7_0
      have hup8_1 : up8 (m + 2) = some (.inl ((X.2 0), 4, .inl (upd mar dr.toNatClampNeg (nI (handS (mapL hea (heaV wy wei lis lic L) 12) s0 (fun j => (parS (totS ce ra) ((mapL hea (heaV wy wei lis lic L) 12) j) (sumL (heaV wy wei lis lic L) 12) 63).1) (wantS (totS ce ra) (fun j => (parS (totS ce ra) ((mapL hea (heaV wy wei lis lic L) 12) j) (sumL (heaV wy wei lis lic L) 12) 63).1) 12) 12).2.2)))) := by rw [hup8, gup_self]
      have hup8_2 : up8 (m + 16) = some (.inl ((X.2 2), 4, .inl ope)) := by rw [hup8, gup_ne (by omega), gup_ne (by omega)]; exact hup7_2
      have hup8_3 : up8 (m + 3) = some (.inl ((X.2 2), 48, .inl lef)) := by rw [hup8, gup_ne (by omega), gup_ne (by omega)]; exact hup7_3
      have hup8_4 : up8 (m + 4) = some (.inl ((X.2 0), 12, .inl pay)) := by rw [hup8, gup_ne (by omega), gup_ne (by omega)]; exact hup7_4
      have hup8_5 : up8 (m + 5) = some (.inl ((X.2 0), 12, .inl wei)) := by rw [hup8, gup_ne (by omega), gup_ne (by omega)]; exact hup7_5
      have hup8_6 : up8 (m + 6) = some (.inl ((X.2 0), 16, .inl lic)) := by rw [hup8, gup_ne (by omega), gup_ne (by omega)]; exact hup7_6
      have hup8_7 : up8 (m + 7) = some (.inl ((X.2 0), 16, .inl lis)) := by rw [hup8, gup_ne (by omega), gup_ne (by omega)]; exact hup7_7
      have hup8_8 : up8 (m + 9) = some (.inl ((X.2 0), 64, .inl (upd cof nb dr))) := by rw [hup8, gup_ne (by omega), gup_ne (by omega)]; exact hup7_8
      have hup8_9 : up8 (m + 11) = some (.inl ((X.2 2), 64, .inl (upd str nb 0))) := by rw [hup8, gup_ne (by omega), gup_ne (by omega)]; exact hup7_9
      have hup8_10 : up8 (m + 8) = some (.inl ((X.2 1), 12, .inr (.inl (mapL hea (heaV wy wei lis lic L) 12)))) := by rw [hup8, gup_ne (by omega), gup_ne (by omega)]; exact hup7_10
      have hup8_11 : up8 (m + 10) = some (.inl ((X.2 1), 64, .inr (.inl (vp_updL tot nb (totS ce ra))))) := by rw [hup8, gup_ne (by omega), gup_ne (by omega)]; exact hup7_11
      have hup8_12 : up8 (m + 12) = some (.inl ((X.2 1), 768, .inr (.inl (mapO sha (handS (mapL hea (heaV wy wei lis lic L) 12) s0 (fun j => (parS (totS ce ra) ((mapL hea (heaV wy wei lis lic L) 12) j) (sumL (heaV wy wei lis lic L) 12) 63).1) (wantS (totS ce ra) (fun j => (parS (totS ce ra) ((mapL hea (heaV wy wei lis lic L) 12) j) (sumL (heaV wy wei lis lic L) 12) 63).1) 12) 12).1 (12 * nb) 12)))) := by rw [hup8, gup_ne (by omega), gup_self]
      have hup8_13 : up8 (m + 13) = some (.inl ((X.2 1), 768, .inr (.inl (mapO pai (handS (fun j => (pay j).toInt64) 0 (fun j => (parS (totS ce ra) (pay j).toInt64 ce.toInt64 63).1) (wantS (totS ce ra) (fun j => (parS (totS ce ra) (pay j).toInt64 ce.toInt64 63).1) 12) 12).1 (12 * nb) 12)))) := by rw [hup8, gup_ne (by omega), gup_ne (by omega)]; exact hup7_13
      have hup8_14 : up8 (m + 14) = some (.inl ((X.2 1), 768, .inr (.inl dri))) := by rw [hup8, gup_ne (by omega), gup_ne (by omega)]; exact hup7_14
      show GW Z _ _ _ ad up8 sz [(5, .long (totS ce ra)), (3, .long (sumL (heaV wy wei lis lic L) 12)), (2, .int (nI (12 * nb))), (1, .int r), (0, .ref (ad m))] 0 0 99 []
      refine g_iconst (v := 0) C d_M_post_99 (by decide) ?_
      refine g_istore C d_M_post_100 [(7, .int 0), (5, .long (totS ce ra)), (3, .long (sumL (heaV wy wei lis lic L) 12)), (2, .int (nI (12 * nb))), (1, .int r), (0, .ref (ad m))] (by decide) rfl ?_
      refine g_fewer (lv' := [(0, .ref (ad m)), (2, .int (nI (12 * nb))), (3, .long (sumL (heaV wy wei lis lic L) 12)), (5, .long (totS ce ra)), (7, .int 0)]) [5, 3, 2, 1, 0] rfl ?_
      refine GW_eq (u2 := gup up8 (m + 14) (.inl ((X.2 1), 768, .inr (.inl (mapO dri (driMG (totS ce ra) (sumL (heaV wy wei lis lic L) 12) (mapL hea (heaV wy wei lis lic L) 12) (handS (mapL hea (heaV wy wei lis lic L) 12) s0 (fun j => (parS (totS ce ra) ((mapL hea (heaV wy wei lis lic L) 12) j) (sumL (heaV wy wei lis lic L) 12) 63).1) (wantS (totS ce ra) (fun j => (parS (totS ce ra) ((mapL hea (heaV wy wei lis lic L) 12) j) (sumL (heaV wy wei lis lic L) 12) 63).1) 12) 12).1) (12 * nb) 0))))) (lv2 := [(0, .ref (ad m)), (2, .int (nI (12 * nb))), (3, .long (sumL (heaV wy wei lis lic L) 12)), (5, .long (totS ce ra)), (7, .int (nI 0))]) (by rw [mapO_0, gup_id hup8_14]) rfl ?_
      refine g_loop 12 (fun iL17 => True) (fun iL17 => gup up8 (m + 14) (.inl ((X.2 1), 768, .inr (.inl (mapO dri (driMG (totS ce ra) (sumL (heaV wy wei lis lic L) 12) (mapL hea (heaV wy wei lis lic L) 12) (handS (mapL hea (heaV wy wei lis lic L) 12) s0 (fun j => (parS (totS ce ra) ((mapL hea (heaV wy wei lis lic L) 12) j) (sumL (heaV wy wei lis lic L) 12) 63).1) (wantS (totS ce ra) (fun j => (parS (totS ce ra) ((mapL hea (heaV wy wei lis lic L) 12) j) (sumL (heaV wy wei lis lic L) 12) 63).1) 12) 12).1) (12 * nb) iL17))))) (fun iL17 => [(0, .ref (ad m)), (2, .int (nI (12 * nb))), (3, .long (sumL (heaV wy wei lis lic L) 12)), (5, .long (totS ce ra)), (7, .int (nI iL17))]) (fun iL17 hiL17 piL17 KL17 => ?_) (fun piL17 => ?_) 0 (by omega) trivial
      · skip
        show GW Z _ _ _ ad (gup up8 (m + 14) (.inl ((X.2 1), 768, .inr (.inl (mapO dri (driMG (totS ce ra) (sumL (heaV wy wei lis lic L) 12) (mapL hea (heaV wy wei lis lic L) 12) (handS (mapL hea (heaV wy wei lis lic L) 12) s0 (fun j => (parS (totS ce ra) ((mapL hea (heaV wy wei lis lic L) 12) j) (sumL (heaV wy wei lis lic L) 12) 63).1) (wantS (totS ce ra) (fun j => (parS (totS ce ra) ((mapL hea (heaV wy wei lis lic L) 12) j) (sumL (heaV wy wei lis lic L) 12) 63).1) 12) 12).1) (12 * nb) iL17))))) _ [(0, .ref (ad m)), (2, .int (nI (12 * nb))), (3, .long (sumL (heaV wy wei lis lic L) 12)), (5, .long (totS ce ra)), (7, .int (nI iL17))] _ _ 102 []
        obtain ⟨wL17s, hwL17s⟩ : ∃ z, z = gup up8 (m + 14) (.inl ((X.2 1), 768, .inr (.inl (mapO dri (driMG (totS ce ra) (sumL (heaV wy wei lis lic L) 12) (mapL hea (heaV wy wei lis lic L) 12) (handS (mapL hea (heaV wy wei lis lic L) 12) s0 (fun j => (parS (totS ce ra) ((mapL hea (heaV wy wei lis lic L) 12) j) (sumL (heaV wy wei lis lic L) 12) 63).1) (wantS (totS ce ra) (fun j => (parS (totS ce ra) ((mapL hea (heaV wy wei lis lic L) 12) j) (sumL (heaV wy wei lis lic L) 12) 63).1) 12) 12).1) (12 * nb) iL17)))) := ⟨_, rfl⟩
        rw [← hwL17s]
        have hwL17s_0 : wL17s m = some (mO ad m 0 cl dr wy ce ra li bi) := by rw [hwL17s, gup_ne (by omega)]; exact hup8_0
        have hwL17s_1 : wL17s (m + 2) = some (.inl ((X.2 0), 4, .inl (upd mar dr.toNatClampNeg (nI (handS (mapL hea (heaV wy wei lis lic L) 12) s0 (fun j => (parS (totS ce ra) ((mapL hea (heaV wy wei lis lic L) 12) j) (sumL (heaV wy wei lis lic L) 12) 63).1) (wantS (totS ce ra) (fun j => (parS (totS ce ra) ((mapL hea (heaV wy wei lis lic L) 12) j) (sumL (heaV wy wei lis lic L) 12) 63).1) 12) 12).2.2)))) := by rw [hwL17s, gup_ne (by omega)]; exact hup8_1
        have hwL17s_2 : wL17s (m + 16) = some (.inl ((X.2 2), 4, .inl ope)) := by rw [hwL17s, gup_ne (by omega)]; exact hup8_2
        have hwL17s_3 : wL17s (m + 3) = some (.inl ((X.2 2), 48, .inl lef)) := by rw [hwL17s, gup_ne (by omega)]; exact hup8_3
        have hwL17s_4 : wL17s (m + 4) = some (.inl ((X.2 0), 12, .inl pay)) := by rw [hwL17s, gup_ne (by omega)]; exact hup8_4
        have hwL17s_5 : wL17s (m + 5) = some (.inl ((X.2 0), 12, .inl wei)) := by rw [hwL17s, gup_ne (by omega)]; exact hup8_5
        have hwL17s_6 : wL17s (m + 6) = some (.inl ((X.2 0), 16, .inl lic)) := by rw [hwL17s, gup_ne (by omega)]; exact hup8_6
        have hwL17s_7 : wL17s (m + 7) = some (.inl ((X.2 0), 16, .inl lis)) := by rw [hwL17s, gup_ne (by omega)]; exact hup8_7
        have hwL17s_8 : wL17s (m + 9) = some (.inl ((X.2 0), 64, .inl (upd cof nb dr))) := by rw [hwL17s, gup_ne (by omega)]; exact hup8_8
        have hwL17s_9 : wL17s (m + 11) = some (.inl ((X.2 2), 64, .inl (upd str nb 0))) := by rw [hwL17s, gup_ne (by omega)]; exact hup8_9
        have hwL17s_10 : wL17s (m + 8) = some (.inl ((X.2 1), 12, .inr (.inl (mapL hea (heaV wy wei lis lic L) 12)))) := by rw [hwL17s, gup_ne (by omega)]; exact hup8_10
        have hwL17s_11 : wL17s (m + 10) = some (.inl ((X.2 1), 64, .inr (.inl (vp_updL tot nb (totS ce ra))))) := by rw [hwL17s, gup_ne (by omega)]; exact hup8_11
        have hwL17s_12 : wL17s (m + 12) = some (.inl ((X.2 1), 768, .inr (.inl (mapO sha (handS (mapL hea (heaV wy wei lis lic L) 12) s0 (fun j => (parS (totS ce ra) ((mapL hea (heaV wy wei lis lic L) 12) j) (sumL (heaV wy wei lis lic L) 12) 63).1) (wantS (totS ce ra) (fun j => (parS (totS ce ra) ((mapL hea (heaV wy wei lis lic L) 12) j) (sumL (heaV wy wei lis lic L) 12) 63).1) 12) 12).1 (12 * nb) 12)))) := by rw [hwL17s, gup_ne (by omega)]; exact hup8_12
        have hwL17s_13 : wL17s (m + 13) = some (.inl ((X.2 1), 768, .inr (.inl (mapO pai (handS (fun j => (pay j).toInt64) 0 (fun j => (parS (totS ce ra) (pay j).toInt64 ce.toInt64 63).1) (wantS (totS ce ra) (fun j => (parS (totS ce ra) (pay j).toInt64 ce.toInt64 63).1) 12) 12).1 (12 * nb) 12)))) := by rw [hwL17s, gup_ne (by omega)]; exact hup8_13
        have hwL17s_14 : wL17s (m + 14) = some (.inl ((X.2 1), 768, .inr (.inl (mapO dri (driMG (totS ce ra) (sumL (heaV wy wei lis lic L) 12) (mapL hea (heaV wy wei lis lic L) 12) (handS (mapL hea (heaV wy wei lis lic L) 12) s0 (fun j => (parS (totS ce ra) ((mapL hea (heaV wy wei lis lic L) 12) j) (sumL (heaV wy wei lis lic L) 12) 63).1) (wantS (totS ce ra) (fun j => (parS (totS ce ra) ((mapL hea (heaV wy wei lis lic L) 12) j) (sumL (heaV wy wei lis lic L) 12) 63).1) 12) 12).1) (12 * nb) iL17)))) := by rw [hwL17s, gup_self]
        refine g_iload C d_M_post_102 4 rfl ?_
        refine g_bipush (v := 12) C d_M_post_104 (by decide) ?_
        refine g_icmp_ge 171 C d_M_post_106 (by decide) (fun c17s106 => ?_) (fun c17s106 => ?_)
        · exact absurd c17s106 (ge12 hiL17)
        refine g_aload_n C d_M_post_109 rfl 0 rfl ?_
        refine g_get m 21 C hwL17s_0 rfl i_M (by decide) (gmem wd_539 rfl) rfl rfl d_M_post_110 ?_
        refine g_iload_n C d_M_post_113 rfl 1 rfl ?_
        refine g_iload C d_M_post_114 4 rfl ?_
        refine g_iadd C d_M_post_116 ?_
        refine g_aload_n C d_M_post_117 rfl 0 rfl ?_
        refine g_get m 14 C hwL17s_0 rfl i_M (by decide) (gmem wd_532 rfl) rfl rfl d_M_post_118 ?_
        refine g_iload C d_M_post_121 4 rfl ?_
        refine g_lald (m + 8) 1 C hwL17s_10 rfl (vp_in_nI (by omega) (by decide)) d_M_post_123 ?_
        rw [show Int32.toNatClampNeg (nI iL17) = iL17 from nI_clamp (by omega)]
        refine g_lconst (v := 0) C d_M_post_124 (by decide) ?_
        refine g_lcmp C d_M_post_125 ?_
        refine g_if_le 163 C d_M_post_126 (by decide) (fun c17s126 => ?_) (fun c17s126 => ?_)
        · rw [lg_cmp_le] at c17s126
          refine g_lconst (v := 0) C d_M_post_163 (by decide) ?_
          refine g_last (m + 14) 1 C hwL17s_14 rfl (by rw [atI]; exact vp_in_nI (by omega) (by decide)) d_M_post_164 ?_
          rw [show Int32.toNatClampNeg ((nI (12 * nb)) + (nI iL17)) = 12 * nb + iL17 from (by rw [atI]; exact nI_clamp (by omega))]
          obtain ⟨u17s9, hu17s9⟩ : ∃ z, z = gup wL17s (m + 14) (.inl ((X.2 1), 768, .inr (.inl (vp_updL (mapO dri (driMG (totS ce ra) (sumL (heaV wy wei lis lic L) 12) (mapL hea (heaV wy wei lis lic L) 12) (handS (mapL hea (heaV wy wei lis lic L) 12) s0 (fun j => (parS (totS ce ra) ((mapL hea (heaV wy wei lis lic L) 12) j) (sumL (heaV wy wei lis lic L) 12) 63).1) (wantS (totS ce ra) (fun j => (parS (totS ce ra) ((mapL hea (heaV wy wei lis lic L) 12) j) (sumL (heaV wy wei lis lic L) 12) 63).1) 12) 12).1) (12 * nb) iL17) (12 * nb + iL17) 0)))) := ⟨_, rfl⟩
          rw [← hu17s9]
          have hu17s9_0 : u17s9 m = some (mO ad m 0 cl dr wy ce ra li bi) := by rw [hu17s9, gup_ne (by omega)]; exact hwL17s_0
          have hu17s9_1 : u17s9 (m + 2) = some (.inl ((X.2 0), 4, .inl (upd mar dr.toNatClampNeg (nI (handS (mapL hea (heaV wy wei lis lic L) 12) s0 (fun j => (parS (totS ce ra) ((mapL hea (heaV wy wei lis lic L) 12) j) (sumL (heaV wy wei lis lic L) 12) 63).1) (wantS (totS ce ra) (fun j => (parS (totS ce ra) ((mapL hea (heaV wy wei lis lic L) 12) j) (sumL (heaV wy wei lis lic L) 12) 63).1) 12) 12).2.2)))) := by rw [hu17s9, gup_ne (by omega)]; exact hwL17s_1
          have hu17s9_2 : u17s9 (m + 16) = some (.inl ((X.2 2), 4, .inl ope)) := by rw [hu17s9, gup_ne (by omega)]; exact hwL17s_2
          have hu17s9_3 : u17s9 (m + 3) = some (.inl ((X.2 2), 48, .inl lef)) := by rw [hu17s9, gup_ne (by omega)]; exact hwL17s_3
          have hu17s9_4 : u17s9 (m + 4) = some (.inl ((X.2 0), 12, .inl pay)) := by rw [hu17s9, gup_ne (by omega)]; exact hwL17s_4
          have hu17s9_5 : u17s9 (m + 5) = some (.inl ((X.2 0), 12, .inl wei)) := by rw [hu17s9, gup_ne (by omega)]; exact hwL17s_5
          have hu17s9_6 : u17s9 (m + 6) = some (.inl ((X.2 0), 16, .inl lic)) := by rw [hu17s9, gup_ne (by omega)]; exact hwL17s_6
          have hu17s9_7 : u17s9 (m + 7) = some (.inl ((X.2 0), 16, .inl lis)) := by rw [hu17s9, gup_ne (by omega)]; exact hwL17s_7
          have hu17s9_8 : u17s9 (m + 9) = some (.inl ((X.2 0), 64, .inl (upd cof nb dr))) := by rw [hu17s9, gup_ne (by omega)]; exact hwL17s_8
          have hu17s9_9 : u17s9 (m + 11) = some (.inl ((X.2 2), 64, .inl (upd str nb 0))) := by rw [hu17s9, gup_ne (by omega)]; exact hwL17s_9
          have hu17s9_10 : u17s9 (m + 8) = some (.inl ((X.2 1), 12, .inr (.inl (mapL hea (heaV wy wei lis lic L) 12)))) := by rw [hu17s9, gup_ne (by omega)]; exact hwL17s_10
          have hu17s9_11 : u17s9 (m + 10) = some (.inl ((X.2 1), 64, .inr (.inl (vp_updL tot nb (totS ce ra))))) := by rw [hu17s9, gup_ne (by omega)]; exact hwL17s_11
          have hu17s9_12 : u17s9 (m + 12) = some (.inl ((X.2 1), 768, .inr (.inl (mapO sha (handS (mapL hea (heaV wy wei lis lic L) 12) s0 (fun j => (parS (totS ce ra) ((mapL hea (heaV wy wei lis lic L) 12) j) (sumL (heaV wy wei lis lic L) 12) 63).1) (wantS (totS ce ra) (fun j => (parS (totS ce ra) ((mapL hea (heaV wy wei lis lic L) 12) j) (sumL (heaV wy wei lis lic L) 12) 63).1) 12) 12).1 (12 * nb) 12)))) := by rw [hu17s9, gup_ne (by omega)]; exact hwL17s_12
          have hu17s9_13 : u17s9 (m + 13) = some (.inl ((X.2 1), 768, .inr (.inl (mapO pai (handS (fun j => (pay j).toInt64) 0 (fun j => (parS (totS ce ra) (pay j).toInt64 ce.toInt64 63).1) (wantS (totS ce ra) (fun j => (parS (totS ce ra) (pay j).toInt64 ce.toInt64 63).1) 12) 12).1 (12 * nb) 12)))) := by rw [hu17s9, gup_ne (by omega)]; exact hwL17s_13
          have hu17s9_14 : u17s9 (m + 14) = some (.inl ((X.2 1), 768, .inr (.inl (vp_updL (mapO dri (driMG (totS ce ra) (sumL (heaV wy wei lis lic L) 12) (mapL hea (heaV wy wei lis lic L) 12) (handS (mapL hea (heaV wy wei lis lic L) 12) s0 (fun j => (parS (totS ce ra) ((mapL hea (heaV wy wei lis lic L) 12) j) (sumL (heaV wy wei lis lic L) 12) 63).1) (wantS (totS ce ra) (fun j => (parS (totS ce ra) ((mapL hea (heaV wy wei lis lic L) 12) j) (sumL (heaV wy wei lis lic L) 12) 63).1) 12) 12).1) (12 * nb) iL17) (12 * nb + iL17) 0)))) := by rw [hu17s9]; exact gup_self _ _ _
          obtain ⟨x17s165, ex17s165⟩ : ∃ y : Int32, y = (nI iL17) + 1 := ⟨_, rfl⟩
          refine g_iinc (v := x17s165) C d_M_post_165 4 rfl (by rw [ex17s165]; rfl) [(7, .int x17s165), (0, .ref (ad m)), (2, .int (nI (12 * nb))), (3, .long (sumL (heaV wy wei lis lic L) 12)), (5, .long (totS ce ra))] (by decide) rfl ?_
          refine g_goto 102 C d_M_post_168 (by decide) ?_
          refine g_fewer (lv' := [(0, .ref (ad m)), (2, .int (nI (12 * nb))), (3, .long (sumL (heaV wy wei lis lic L) 12)), (5, .long (totS ce ra)), (7, .int x17s165)]) [1, 2, 3, 4, 0] rfl ?_
          refine GW_eq (u2 := gup up8 (m + 14) (.inl ((X.2 1), 768, .inr (.inl (mapO dri (driMG (totS ce ra) (sumL (heaV wy wei lis lic L) 12) (mapL hea (heaV wy wei lis lic L) 12) (handS (mapL hea (heaV wy wei lis lic L) 12) s0 (fun j => (parS (totS ce ra) ((mapL hea (heaV wy wei lis lic L) 12) j) (sumL (heaV wy wei lis lic L) 12) 63).1) (wantS (totS ce ra) (fun j => (parS (totS ce ra) ((mapL hea (heaV wy wei lis lic L) 12) j) (sumL (heaV wy wei lis lic L) 12) 63).1) 12) 12).1) (12 * nb) (iL17 + 1)))))) (lv2 := [(0, .ref (ad m)), (2, .int (nI (12 * nb))), (3, .long (sumL (heaV wy wei lis lic L) 12)), (5, .long (totS ce ra)), (7, .int (nI (iL17 + 1)))]) ?_ ?_ (KL17 trivial)
          · first | (rw [hu17s9, hwL17s]; done) | (rw [hu17s9, hwL17s]; rw [mapO_s (f := dri) (g := (driMG (totS ce ra) (sumL (heaV wy wei lis lic L) 12) (mapL hea (heaV wy wei lis lic L) 12) (handS (mapL hea (heaV wy wei lis lic L) 12) s0 (fun j => (parS (totS ce ra) ((mapL hea (heaV wy wei lis lic L) 12) j) (sumL (heaV wy wei lis lic L) 12) 63).1) (wantS (totS ce ra) (fun j => (parS (totS ce ra) ((mapL hea (heaV wy wei lis lic L) 12) j) (sumL (heaV wy wei lis lic L) 12) 63).1) 12) 12).1)) (o := 12 * nb) (i := iL17) (x := 0) (if_pos c17s126).symm]; done) | (rw [hu17s9, hwL17s]; rw [mapO_s (f := dri) (g := (driMG (totS ce ra) (sumL (heaV wy wei lis lic L) 12) (mapL hea (heaV wy wei lis lic L) 12) (handS (mapL hea (heaV wy wei lis lic L) 12) s0 (fun j => (parS (totS ce ra) ((mapL hea (heaV wy wei lis lic L) 12) j) (sumL (heaV wy wei lis lic L) 12) 63).1) (wantS (totS ce ra) (fun j => (parS (totS ce ra) ((mapL hea (heaV wy wei lis lic L) 12) j) (sumL (heaV wy wei lis lic L) 12) 63).1) 12) 12).1)) (o := 12 * nb) (i := iL17) (x := 0) (if_pos c17s126).symm]; funext k; simp only [gup]; (repeat' split) <;> first | with_reducible rfl | (exfalso; omega))
          · first | rfl | simp only [ex17s165, nI_1, nI_0]
        · rw [lg_cmp_le] at c17s126
          refine g_ldc2 C (gmem wd_705 rfl) d_M_post_129 ?_
          refine g_aload_n C d_M_post_132 rfl 0 rfl ?_
          refine g_get m 19 C hwL17s_0 rfl i_M (by decide) (gmem wd_537 rfl) rfl rfl d_M_post_133 ?_
          refine g_iload_n C d_M_post_136 rfl 1 rfl ?_
          refine g_iload C d_M_post_137 4 rfl ?_
          refine g_iadd C d_M_post_139 ?_
          refine g_lald (m + 12) 1 C hwL17s_12 rfl (by rw [atI]; exact vp_in_nI (by omega) (by decide)) d_M_post_140 ?_
          rw [show Int32.toNatClampNeg ((nI (12 * nb)) + (nI iL17)) = 12 * nb + iL17 from (by rw [atI]; exact nI_clamp (by omega))]
          refine g_lmul C d_M_post_141 ?_
          refine g_ldc2 C (gmem wd_705 rfl) d_M_post_142 ?_
          refine g_lload C d_M_post_145 3 rfl ?_
          refine g_lmul C d_M_post_147 ?_
          refine g_aload_n C d_M_post_148 rfl 0 rfl ?_
          refine g_get m 14 C hwL17s_0 rfl i_M (by decide) (gmem wd_532 rfl) rfl rfl d_M_post_149 ?_
          refine g_iload C d_M_post_152 4 rfl ?_
          refine g_lald (m + 8) 1 C hwL17s_10 rfl (vp_in_nI (by omega) (by decide)) d_M_post_154 ?_
          rw [show Int32.toNatClampNeg (nI iL17) = iL17 from nI_clamp (by omega)]
          refine g_lload_n C d_M_post_155 rfl 2 rfl ?_
          refine g_callS 3 C (k_M_part _ X ad wL17s sz (1000 * (totS ce ra)) ((mapL hea (heaV wy wei lis lic L) 12) iL17) (sumL (heaV wy wei lis lic L) 12) (hend q1 hwro0).2.2.1) (gmem wd_697 rfl) (gmem wd_698 rfl) (gmem wd_4 rfl) (gmem wd_699 rfl) ⟨by decide, by decide, by decide +kernel⟩ ⟨Nat.le_of_ble_eq_true rfl, Nat.le_of_ble_eq_true rfl⟩ rfl rfl (Nat.le_of_ble_eq_true rfl) d_M_post_156 ⟨Nat.le_of_ble_eq_true rfl, Nat.le_of_ble_eq_true rfl⟩ ?_
          rintro v9 u9 s9 ⟨h9, hu9, hs9⟩; rw [h9, hu9, hs9]; clear h9 hu9 hs9 v9 u9 s9
          show GW Z _ _ _ ad wL17s sz [(0, .ref (ad m)), (2, .int (nI (12 * nb))), (3, .long (sumL (heaV wy wei lis lic L) 12)), (5, .long (totS ce ra)), (7, .int (nI iL17))] 0 0 159 [.long ((parS (1000 * (totS ce ra)) ((mapL hea (heaV wy wei lis lic L) 12) iL17) (sumL (heaV wy wei lis lic L) 12) 63).1), .long (1000 * ((mapO sha (handS (mapL hea (heaV wy wei lis lic L) 12) s0 (fun j => (parS (totS ce ra) ((mapL hea (heaV wy wei lis lic L) 12) j) (sumL (heaV wy wei lis lic L) 12) 63).1) (wantS (totS ce ra) (fun j => (parS (totS ce ra) ((mapL hea (heaV wy wei lis lic L) 12) j) (sumL (heaV wy wei lis lic L) 12) 63).1) 12) 12).1 (12 * nb) 12) (12 * nb + iL17))), .int ((nI (12 * nb)) + (nI iL17)), .ref (ad (m + 14))]
          refine g_lsub C d_M_post_159 ?_
          refine g_goto 164 C d_M_post_160 (by decide) ?_
          refine g_last (m + 14) 1 C hwL17s_14 rfl (by rw [atI]; exact vp_in_nI (by omega) (by decide)) d_M_post_164 ?_
          rw [show Int32.toNatClampNeg ((nI (12 * nb)) + (nI iL17)) = 12 * nb + iL17 from (by rw [atI]; exact nI_clamp (by omega))]
          obtain ⟨u17s10, hu17s10⟩ : ∃ z, z = gup wL17s (m + 14) (.inl ((X.2 1), 768, .inr (.inl (vp_updL (mapO dri (driMG (totS ce ra) (sumL (heaV wy wei lis lic L) 12) (mapL hea (heaV wy wei lis lic L) 12) (handS (mapL hea (heaV wy wei lis lic L) 12) s0 (fun j => (parS (totS ce ra) ((mapL hea (heaV wy wei lis lic L) 12) j) (sumL (heaV wy wei lis lic L) 12) 63).1) (wantS (totS ce ra) (fun j => (parS (totS ce ra) ((mapL hea (heaV wy wei lis lic L) 12) j) (sumL (heaV wy wei lis lic L) 12) 63).1) 12) 12).1) (12 * nb) iL17) (12 * nb + iL17) ((1000 * ((mapO sha (handS (mapL hea (heaV wy wei lis lic L) 12) s0 (fun j => (parS (totS ce ra) ((mapL hea (heaV wy wei lis lic L) 12) j) (sumL (heaV wy wei lis lic L) 12) 63).1) (wantS (totS ce ra) (fun j => (parS (totS ce ra) ((mapL hea (heaV wy wei lis lic L) 12) j) (sumL (heaV wy wei lis lic L) 12) 63).1) 12) 12).1 (12 * nb) 12) (12 * nb + iL17))) - ((parS (1000 * (totS ce ra)) ((mapL hea (heaV wy wei lis lic L) 12) iL17) (sumL (heaV wy wei lis lic L) 12) 63).1)))))) := ⟨_, rfl⟩
          rw [← hu17s10]
          have hu17s10_0 : u17s10 m = some (mO ad m 0 cl dr wy ce ra li bi) := by rw [hu17s10, gup_ne (by omega)]; exact hwL17s_0
          have hu17s10_1 : u17s10 (m + 2) = some (.inl ((X.2 0), 4, .inl (upd mar dr.toNatClampNeg (nI (handS (mapL hea (heaV wy wei lis lic L) 12) s0 (fun j => (parS (totS ce ra) ((mapL hea (heaV wy wei lis lic L) 12) j) (sumL (heaV wy wei lis lic L) 12) 63).1) (wantS (totS ce ra) (fun j => (parS (totS ce ra) ((mapL hea (heaV wy wei lis lic L) 12) j) (sumL (heaV wy wei lis lic L) 12) 63).1) 12) 12).2.2)))) := by rw [hu17s10, gup_ne (by omega)]; exact hwL17s_1
          have hu17s10_2 : u17s10 (m + 16) = some (.inl ((X.2 2), 4, .inl ope)) := by rw [hu17s10, gup_ne (by omega)]; exact hwL17s_2
          have hu17s10_3 : u17s10 (m + 3) = some (.inl ((X.2 2), 48, .inl lef)) := by rw [hu17s10, gup_ne (by omega)]; exact hwL17s_3
          have hu17s10_4 : u17s10 (m + 4) = some (.inl ((X.2 0), 12, .inl pay)) := by rw [hu17s10, gup_ne (by omega)]; exact hwL17s_4
          have hu17s10_5 : u17s10 (m + 5) = some (.inl ((X.2 0), 12, .inl wei)) := by rw [hu17s10, gup_ne (by omega)]; exact hwL17s_5
          have hu17s10_6 : u17s10 (m + 6) = some (.inl ((X.2 0), 16, .inl lic)) := by rw [hu17s10, gup_ne (by omega)]; exact hwL17s_6
          have hu17s10_7 : u17s10 (m + 7) = some (.inl ((X.2 0), 16, .inl lis)) := by rw [hu17s10, gup_ne (by omega)]; exact hwL17s_7
          have hu17s10_8 : u17s10 (m + 9) = some (.inl ((X.2 0), 64, .inl (upd cof nb dr))) := by rw [hu17s10, gup_ne (by omega)]; exact hwL17s_8
          have hu17s10_9 : u17s10 (m + 11) = some (.inl ((X.2 2), 64, .inl (upd str nb 0))) := by rw [hu17s10, gup_ne (by omega)]; exact hwL17s_9
          have hu17s10_10 : u17s10 (m + 8) = some (.inl ((X.2 1), 12, .inr (.inl (mapL hea (heaV wy wei lis lic L) 12)))) := by rw [hu17s10, gup_ne (by omega)]; exact hwL17s_10
          have hu17s10_11 : u17s10 (m + 10) = some (.inl ((X.2 1), 64, .inr (.inl (vp_updL tot nb (totS ce ra))))) := by rw [hu17s10, gup_ne (by omega)]; exact hwL17s_11
          have hu17s10_12 : u17s10 (m + 12) = some (.inl ((X.2 1), 768, .inr (.inl (mapO sha (handS (mapL hea (heaV wy wei lis lic L) 12) s0 (fun j => (parS (totS ce ra) ((mapL hea (heaV wy wei lis lic L) 12) j) (sumL (heaV wy wei lis lic L) 12) 63).1) (wantS (totS ce ra) (fun j => (parS (totS ce ra) ((mapL hea (heaV wy wei lis lic L) 12) j) (sumL (heaV wy wei lis lic L) 12) 63).1) 12) 12).1 (12 * nb) 12)))) := by rw [hu17s10, gup_ne (by omega)]; exact hwL17s_12
          have hu17s10_13 : u17s10 (m + 13) = some (.inl ((X.2 1), 768, .inr (.inl (mapO pai (handS (fun j => (pay j).toInt64) 0 (fun j => (parS (totS ce ra) (pay j).toInt64 ce.toInt64 63).1) (wantS (totS ce ra) (fun j => (parS (totS ce ra) (pay j).toInt64 ce.toInt64 63).1) 12) 12).1 (12 * nb) 12)))) := by rw [hu17s10, gup_ne (by omega)]; exact hwL17s_13
          have hu17s10_14 : u17s10 (m + 14) = some (.inl ((X.2 1), 768, .inr (.inl (vp_updL (mapO dri (driMG (totS ce ra) (sumL (heaV wy wei lis lic L) 12) (mapL hea (heaV wy wei lis lic L) 12) (handS (mapL hea (heaV wy wei lis lic L) 12) s0 (fun j => (parS (totS ce ra) ((mapL hea (heaV wy wei lis lic L) 12) j) (sumL (heaV wy wei lis lic L) 12) 63).1) (wantS (totS ce ra) (fun j => (parS (totS ce ra) ((mapL hea (heaV wy wei lis lic L) 12) j) (sumL (heaV wy wei lis lic L) 12) 63).1) 12) 12).1) (12 * nb) iL17) (12 * nb + iL17) ((1000 * ((mapO sha (handS (mapL hea (heaV wy wei lis lic L) 12) s0 (fun j => (parS (totS ce ra) ((mapL hea (heaV wy wei lis lic L) 12) j) (sumL (heaV wy wei lis lic L) 12) 63).1) (wantS (totS ce ra) (fun j => (parS (totS ce ra) ((mapL hea (heaV wy wei lis lic L) 12) j) (sumL (heaV wy wei lis lic L) 12) 63).1) 12) 12).1 (12 * nb) 12) (12 * nb + iL17))) - ((parS (1000 * (totS ce ra)) ((mapL hea (heaV wy wei lis lic L) 12) iL17) (sumL (heaV wy wei lis lic L) 12) 63).1)))))) := by rw [hu17s10]; exact gup_self _ _ _
          obtain ⟨x17s165, ex17s165⟩ : ∃ y : Int32, y = (nI iL17) + 1 := ⟨_, rfl⟩
          refine g_iinc (v := x17s165) C d_M_post_165 4 rfl (by rw [ex17s165]; rfl) [(7, .int x17s165), (0, .ref (ad m)), (2, .int (nI (12 * nb))), (3, .long (sumL (heaV wy wei lis lic L) 12)), (5, .long (totS ce ra))] (by decide) rfl ?_
          refine g_goto 102 C d_M_post_168 (by decide) ?_
          refine g_fewer (lv' := [(0, .ref (ad m)), (2, .int (nI (12 * nb))), (3, .long (sumL (heaV wy wei lis lic L) 12)), (5, .long (totS ce ra)), (7, .int x17s165)]) [1, 2, 3, 4, 0] rfl ?_
          refine GW_eq (u2 := gup up8 (m + 14) (.inl ((X.2 1), 768, .inr (.inl (mapO dri (driMG (totS ce ra) (sumL (heaV wy wei lis lic L) 12) (mapL hea (heaV wy wei lis lic L) 12) (handS (mapL hea (heaV wy wei lis lic L) 12) s0 (fun j => (parS (totS ce ra) ((mapL hea (heaV wy wei lis lic L) 12) j) (sumL (heaV wy wei lis lic L) 12) 63).1) (wantS (totS ce ra) (fun j => (parS (totS ce ra) ((mapL hea (heaV wy wei lis lic L) 12) j) (sumL (heaV wy wei lis lic L) 12) 63).1) 12) 12).1) (12 * nb) (iL17 + 1)))))) (lv2 := [(0, .ref (ad m)), (2, .int (nI (12 * nb))), (3, .long (sumL (heaV wy wei lis lic L) 12)), (5, .long (totS ce ra)), (7, .int (nI (iL17 + 1)))]) ?_ ?_ (KL17 trivial)
          · first | (rw [hu17s10, hwL17s]; done) | (rw [hu17s10, hwL17s]; rw [mapO_at (show iL17 < 12 by omega)]; done) | (rw [hu17s10, hwL17s]; rw [mapO_at (show iL17 < 12 by omega)]; rw [mapO_s (f := dri) (g := (driMG (totS ce ra) (sumL (heaV wy wei lis lic L) 12) (mapL hea (heaV wy wei lis lic L) 12) (handS (mapL hea (heaV wy wei lis lic L) 12) s0 (fun j => (parS (totS ce ra) ((mapL hea (heaV wy wei lis lic L) 12) j) (sumL (heaV wy wei lis lic L) 12) 63).1) (wantS (totS ce ra) (fun j => (parS (totS ce ra) ((mapL hea (heaV wy wei lis lic L) 12) j) (sumL (heaV wy wei lis lic L) 12) 63).1) 12) 12).1)) (o := 12 * nb) (i := iL17) (x := 1000 * (handS (mapL hea (heaV wy wei lis lic L) 12) s0 (fun j => (parS (totS ce ra) ((mapL hea (heaV wy wei lis lic L) 12) j) (sumL (heaV wy wei lis lic L) 12) 63).1) (wantS (totS ce ra) (fun j => (parS (totS ce ra) ((mapL hea (heaV wy wei lis lic L) 12) j) (sumL (heaV wy wei lis lic L) 12) 63).1) 12) 12).1 iL17 - (parS (1000 * totS ce ra) ((mapL hea (heaV wy wei lis lic L) 12) iL17) (sumL (heaV wy wei lis lic L) 12) 63).1) (if_neg c17s126).symm]; done) | (rw [hu17s10, hwL17s]; rw [mapO_at (show iL17 < 12 by omega)]; rw [mapO_s (f := dri) (g := (driMG (totS ce ra) (sumL (heaV wy wei lis lic L) 12) (mapL hea (heaV wy wei lis lic L) 12) (handS (mapL hea (heaV wy wei lis lic L) 12) s0 (fun j => (parS (totS ce ra) ((mapL hea (heaV wy wei lis lic L) 12) j) (sumL (heaV wy wei lis lic L) 12) 63).1) (wantS (totS ce ra) (fun j => (parS (totS ce ra) ((mapL hea (heaV wy wei lis lic L) 12) j) (sumL (heaV wy wei lis lic L) 12) 63).1) 12) 12).1)) (o := 12 * nb) (i := iL17) (x := 1000 * (handS (mapL hea (heaV wy wei lis lic L) 12) s0 (fun j => (parS (totS ce ra) ((mapL hea (heaV wy wei lis lic L) 12) j) (sumL (heaV wy wei lis lic L) 12) 63).1) (wantS (totS ce ra) (fun j => (parS (totS ce ra) ((mapL hea (heaV wy wei lis lic L) 12) j) (sumL (heaV wy wei lis lic L) 12) 63).1) 12) 12).1 iL17 - (parS (1000 * totS ce ra) ((mapL hea (heaV wy wei lis lic L) 12) iL17) (sumL (heaV wy wei lis lic L) 12) 63).1) (if_neg c17s126).symm]; funext k; simp only [gup]; (repeat' split) <;> first | with_reducible rfl | (exfalso; omega))
          · first | rfl | simp only [ex17s165, nI_1, nI_0]
      · skip
        show GW Z _ _ _ ad (gup up8 (m + 14) (.inl ((X.2 1), 768, .inr (.inl (mapO dri (driMG (totS ce ra) (sumL (heaV wy wei lis lic L) 12) (mapL hea (heaV wy wei lis lic L) 12) (handS (mapL hea (heaV wy wei lis lic L) 12) s0 (fun j => (parS (totS ce ra) ((mapL hea (heaV wy wei lis lic L) 12) j) (sumL (heaV wy wei lis lic L) 12) 63).1) (wantS (totS ce ra) (fun j => (parS (totS ce ra) ((mapL hea (heaV wy wei lis lic L) 12) j) (sumL (heaV wy wei lis lic L) 12) 63).1) 12) 12).1) (12 * nb) 12))))) _ [(0, .ref (ad m)), (2, .int (nI (12 * nb))), (3, .long (sumL (heaV wy wei lis lic L) 12)), (5, .long (totS ce ra)), (7, .int (nI 12))] _ _ 102 []
        obtain ⟨wL17e, hwL17e⟩ : ∃ z, z = gup up8 (m + 14) (.inl ((X.2 1), 768, .inr (.inl (mapO dri (driMG (totS ce ra) (sumL (heaV wy wei lis lic L) 12) (mapL hea (heaV wy wei lis lic L) 12) (handS (mapL hea (heaV wy wei lis lic L) 12) s0 (fun j => (parS (totS ce ra) ((mapL hea (heaV wy wei lis lic L) 12) j) (sumL (heaV wy wei lis lic L) 12) 63).1) (wantS (totS ce ra) (fun j => (parS (totS ce ra) ((mapL hea (heaV wy wei lis lic L) 12) j) (sumL (heaV wy wei lis lic L) 12) 63).1) 12) 12).1) (12 * nb) 12)))) := ⟨_, rfl⟩
        rw [← hwL17e]
        have hwL17e_0 : wL17e m = some (mO ad m 0 cl dr wy ce ra li bi) := by rw [hwL17e, gup_ne (by omega)]; exact hup8_0
        have hwL17e_1 : wL17e (m + 2) = some (.inl ((X.2 0), 4, .inl (upd mar dr.toNatClampNeg (nI (handS (mapL hea (heaV wy wei lis lic L) 12) s0 (fun j => (parS (totS ce ra) ((mapL hea (heaV wy wei lis lic L) 12) j) (sumL (heaV wy wei lis lic L) 12) 63).1) (wantS (totS ce ra) (fun j => (parS (totS ce ra) ((mapL hea (heaV wy wei lis lic L) 12) j) (sumL (heaV wy wei lis lic L) 12) 63).1) 12) 12).2.2)))) := by rw [hwL17e, gup_ne (by omega)]; exact hup8_1
        have hwL17e_2 : wL17e (m + 16) = some (.inl ((X.2 2), 4, .inl ope)) := by rw [hwL17e, gup_ne (by omega)]; exact hup8_2
        have hwL17e_3 : wL17e (m + 3) = some (.inl ((X.2 2), 48, .inl lef)) := by rw [hwL17e, gup_ne (by omega)]; exact hup8_3
        have hwL17e_4 : wL17e (m + 4) = some (.inl ((X.2 0), 12, .inl pay)) := by rw [hwL17e, gup_ne (by omega)]; exact hup8_4
        have hwL17e_5 : wL17e (m + 5) = some (.inl ((X.2 0), 12, .inl wei)) := by rw [hwL17e, gup_ne (by omega)]; exact hup8_5
        have hwL17e_6 : wL17e (m + 6) = some (.inl ((X.2 0), 16, .inl lic)) := by rw [hwL17e, gup_ne (by omega)]; exact hup8_6
        have hwL17e_7 : wL17e (m + 7) = some (.inl ((X.2 0), 16, .inl lis)) := by rw [hwL17e, gup_ne (by omega)]; exact hup8_7
        have hwL17e_8 : wL17e (m + 9) = some (.inl ((X.2 0), 64, .inl (upd cof nb dr))) := by rw [hwL17e, gup_ne (by omega)]; exact hup8_8
        have hwL17e_9 : wL17e (m + 11) = some (.inl ((X.2 2), 64, .inl (upd str nb 0))) := by rw [hwL17e, gup_ne (by omega)]; exact hup8_9
        have hwL17e_10 : wL17e (m + 8) = some (.inl ((X.2 1), 12, .inr (.inl (mapL hea (heaV wy wei lis lic L) 12)))) := by rw [hwL17e, gup_ne (by omega)]; exact hup8_10
        have hwL17e_11 : wL17e (m + 10) = some (.inl ((X.2 1), 64, .inr (.inl (vp_updL tot nb (totS ce ra))))) := by rw [hwL17e, gup_ne (by omega)]; exact hup8_11
        have hwL17e_12 : wL17e (m + 12) = some (.inl ((X.2 1), 768, .inr (.inl (mapO sha (handS (mapL hea (heaV wy wei lis lic L) 12) s0 (fun j => (parS (totS ce ra) ((mapL hea (heaV wy wei lis lic L) 12) j) (sumL (heaV wy wei lis lic L) 12) 63).1) (wantS (totS ce ra) (fun j => (parS (totS ce ra) ((mapL hea (heaV wy wei lis lic L) 12) j) (sumL (heaV wy wei lis lic L) 12) 63).1) 12) 12).1 (12 * nb) 12)))) := by rw [hwL17e, gup_ne (by omega)]; exact hup8_12
        have hwL17e_13 : wL17e (m + 13) = some (.inl ((X.2 1), 768, .inr (.inl (mapO pai (handS (fun j => (pay j).toInt64) 0 (fun j => (parS (totS ce ra) (pay j).toInt64 ce.toInt64 63).1) (wantS (totS ce ra) (fun j => (parS (totS ce ra) (pay j).toInt64 ce.toInt64 63).1) 12) 12).1 (12 * nb) 12)))) := by rw [hwL17e, gup_ne (by omega)]; exact hup8_13
        have hwL17e_14 : wL17e (m + 14) = some (.inl ((X.2 1), 768, .inr (.inl (mapO dri (driMG (totS ce ra) (sumL (heaV wy wei lis lic L) 12) (mapL hea (heaV wy wei lis lic L) 12) (handS (mapL hea (heaV wy wei lis lic L) 12) s0 (fun j => (parS (totS ce ra) ((mapL hea (heaV wy wei lis lic L) 12) j) (sumL (heaV wy wei lis lic L) 12) 63).1) (wantS (totS ce ra) (fun j => (parS (totS ce ra) ((mapL hea (heaV wy wei lis lic L) 12) j) (sumL (heaV wy wei lis lic L) 12) 63).1) 12) 12).1) (12 * nb) 12)))) := by rw [hwL17e, gup_self]
        refine g_iload C d_M_post_102 4 rfl ?_
        refine g_bipush (v := 12) C d_M_post_104 (by decide) ?_
        refine g_icmp_ge 171 C d_M_post_106 (by decide) (fun c17e106 => ?_) (fun c17e106 => ?_)
        rotate_left
        · exact absurd (by decide) c17e106
        refine g_aload_n C d_M_post_171 rfl 0 rfl ?_
        refine g_iconst (v := (-1)) C d_M_post_172 (by decide) ?_
        refine g_put m 5 C hwL17e_0 rfl i_M t_M t_M_ok n_M (by decide) (gmem wd_523 rfl) rfl rfl rfl rfl (Nat.le_of_ble_eq_true rfl) d_M_post_173 ?_
        show GW Z _ _ _ ad (gup wL17e m (mO ad m 0 cl (-1) wy ce ra li bi)) _ _ _ _ _ _
        obtain ⟨u17e11, hu17e11⟩ : ∃ z, z = gup wL17e m (mO ad m 0 cl (-1) wy ce ra li bi) := ⟨_, rfl⟩
        rw [← hu17e11]
        have hu17e11_0 : u17e11 m = some (mO ad m 0 cl (-1) wy ce ra li bi) := by rw [hu17e11]; exact gup_self _ _ _
        have hu17e11_1 : u17e11 (m + 2) = some (.inl ((X.2 0), 4, .inl (upd mar dr.toNatClampNeg (nI (handS (mapL hea (heaV wy wei lis lic L) 12) s0 (fun j => (parS (totS ce ra) ((mapL hea (heaV wy wei lis lic L) 12) j) (sumL (heaV wy wei lis lic L) 12) 63).1) (wantS (totS ce ra) (fun j => (parS (totS ce ra) ((mapL hea (heaV wy wei lis lic L) 12) j) (sumL (heaV wy wei lis lic L) 12) 63).1) 12) 12).2.2)))) := by rw [hu17e11, gup_ne (by omega)]; exact hwL17e_1
        have hu17e11_2 : u17e11 (m + 16) = some (.inl ((X.2 2), 4, .inl ope)) := by rw [hu17e11, gup_ne (by omega)]; exact hwL17e_2
        have hu17e11_3 : u17e11 (m + 3) = some (.inl ((X.2 2), 48, .inl lef)) := by rw [hu17e11, gup_ne (by omega)]; exact hwL17e_3
        have hu17e11_4 : u17e11 (m + 4) = some (.inl ((X.2 0), 12, .inl pay)) := by rw [hu17e11, gup_ne (by omega)]; exact hwL17e_4
        have hu17e11_5 : u17e11 (m + 5) = some (.inl ((X.2 0), 12, .inl wei)) := by rw [hu17e11, gup_ne (by omega)]; exact hwL17e_5
        have hu17e11_6 : u17e11 (m + 6) = some (.inl ((X.2 0), 16, .inl lic)) := by rw [hu17e11, gup_ne (by omega)]; exact hwL17e_6
        have hu17e11_7 : u17e11 (m + 7) = some (.inl ((X.2 0), 16, .inl lis)) := by rw [hu17e11, gup_ne (by omega)]; exact hwL17e_7
        have hu17e11_8 : u17e11 (m + 9) = some (.inl ((X.2 0), 64, .inl (upd cof nb dr))) := by rw [hu17e11, gup_ne (by omega)]; exact hwL17e_8
        have hu17e11_9 : u17e11 (m + 11) = some (.inl ((X.2 2), 64, .inl (upd str nb 0))) := by rw [hu17e11, gup_ne (by omega)]; exact hwL17e_9
        have hu17e11_10 : u17e11 (m + 8) = some (.inl ((X.2 1), 12, .inr (.inl (mapL hea (heaV wy wei lis lic L) 12)))) := by rw [hu17e11, gup_ne (by omega)]; exact hwL17e_10
        have hu17e11_11 : u17e11 (m + 10) = some (.inl ((X.2 1), 64, .inr (.inl (vp_updL tot nb (totS ce ra))))) := by rw [hu17e11, gup_ne (by omega)]; exact hwL17e_11
        have hu17e11_12 : u17e11 (m + 12) = some (.inl ((X.2 1), 768, .inr (.inl (mapO sha (handS (mapL hea (heaV wy wei lis lic L) 12) s0 (fun j => (parS (totS ce ra) ((mapL hea (heaV wy wei lis lic L) 12) j) (sumL (heaV wy wei lis lic L) 12) 63).1) (wantS (totS ce ra) (fun j => (parS (totS ce ra) ((mapL hea (heaV wy wei lis lic L) 12) j) (sumL (heaV wy wei lis lic L) 12) 63).1) 12) 12).1 (12 * nb) 12)))) := by rw [hu17e11, gup_ne (by omega)]; exact hwL17e_12
        have hu17e11_13 : u17e11 (m + 13) = some (.inl ((X.2 1), 768, .inr (.inl (mapO pai (handS (fun j => (pay j).toInt64) 0 (fun j => (parS (totS ce ra) (pay j).toInt64 ce.toInt64 63).1) (wantS (totS ce ra) (fun j => (parS (totS ce ra) (pay j).toInt64 ce.toInt64 63).1) 12) 12).1 (12 * nb) 12)))) := by rw [hu17e11, gup_ne (by omega)]; exact hwL17e_13
        have hu17e11_14 : u17e11 (m + 14) = some (.inl ((X.2 1), 768, .inr (.inl (mapO dri (driMG (totS ce ra) (sumL (heaV wy wei lis lic L) 12) (mapL hea (heaV wy wei lis lic L) 12) (handS (mapL hea (heaV wy wei lis lic L) 12) s0 (fun j => (parS (totS ce ra) ((mapL hea (heaV wy wei lis lic L) 12) j) (sumL (heaV wy wei lis lic L) 12) 63).1) (wantS (totS ce ra) (fun j => (parS (totS ce ra) ((mapL hea (heaV wy wei lis lic L) 12) j) (sumL (heaV wy wei lis lic L) 12) 63).1) 12) 12).1) (12 * nb) 12)))) := by rw [hu17e11, gup_ne (by omega)]; exact hwL17e_14
        refine g_aload_n C d_M_post_176 rfl 0 rfl ?_
        refine g_dup C d_M_post_177 rfl ?_
        refine g_get m 15 C hu17e11_0 rfl i_M (by decide) (gmem wd_533 rfl) rfl rfl d_M_post_178 ?_
        refine g_iconst (v := 1) C d_M_post_181 (by decide) ?_
        refine g_iadd C d_M_post_182 ?_
        refine g_put m 15 C hu17e11_0 rfl i_M t_M t_M_ok n_M (by decide) (gmem wd_533 rfl) rfl rfl rfl rfl (Nat.le_of_ble_eq_true rfl) d_M_post_183 ?_
        show GW Z _ _ _ ad (gup u17e11 m (mO ad m 0 cl (-1) wy ce ra li (bi + 1))) _ _ _ _ _ _
        obtain ⟨u17e12, hu17e12⟩ : ∃ z, z = gup u17e11 m (mO ad m 0 cl (-1) wy ce ra li (bi + 1)) := ⟨_, rfl⟩
        rw [← hu17e12]
        have hu17e12_0 : u17e12 m = some (mO ad m 0 cl (-1) wy ce ra li (bi + 1)) := by rw [hu17e12]; exact gup_self _ _ _
        have hu17e12_1 : u17e12 (m + 2) = some (.inl ((X.2 0), 4, .inl (upd mar dr.toNatClampNeg (nI (handS (mapL hea (heaV wy wei lis lic L) 12) s0 (fun j => (parS (totS ce ra) ((mapL hea (heaV wy wei lis lic L) 12) j) (sumL (heaV wy wei lis lic L) 12) 63).1) (wantS (totS ce ra) (fun j => (parS (totS ce ra) ((mapL hea (heaV wy wei lis lic L) 12) j) (sumL (heaV wy wei lis lic L) 12) 63).1) 12) 12).2.2)))) := by rw [hu17e12, gup_ne (by omega)]; exact hu17e11_1
        have hu17e12_2 : u17e12 (m + 16) = some (.inl ((X.2 2), 4, .inl ope)) := by rw [hu17e12, gup_ne (by omega)]; exact hu17e11_2
        have hu17e12_3 : u17e12 (m + 3) = some (.inl ((X.2 2), 48, .inl lef)) := by rw [hu17e12, gup_ne (by omega)]; exact hu17e11_3
        have hu17e12_4 : u17e12 (m + 4) = some (.inl ((X.2 0), 12, .inl pay)) := by rw [hu17e12, gup_ne (by omega)]; exact hu17e11_4
        have hu17e12_5 : u17e12 (m + 5) = some (.inl ((X.2 0), 12, .inl wei)) := by rw [hu17e12, gup_ne (by omega)]; exact hu17e11_5
        have hu17e12_6 : u17e12 (m + 6) = some (.inl ((X.2 0), 16, .inl lic)) := by rw [hu17e12, gup_ne (by omega)]; exact hu17e11_6
        have hu17e12_7 : u17e12 (m + 7) = some (.inl ((X.2 0), 16, .inl lis)) := by rw [hu17e12, gup_ne (by omega)]; exact hu17e11_7
        have hu17e12_8 : u17e12 (m + 9) = some (.inl ((X.2 0), 64, .inl (upd cof nb dr))) := by rw [hu17e12, gup_ne (by omega)]; exact hu17e11_8
        have hu17e12_9 : u17e12 (m + 11) = some (.inl ((X.2 2), 64, .inl (upd str nb 0))) := by rw [hu17e12, gup_ne (by omega)]; exact hu17e11_9
        have hu17e12_10 : u17e12 (m + 8) = some (.inl ((X.2 1), 12, .inr (.inl (mapL hea (heaV wy wei lis lic L) 12)))) := by rw [hu17e12, gup_ne (by omega)]; exact hu17e11_10
        have hu17e12_11 : u17e12 (m + 10) = some (.inl ((X.2 1), 64, .inr (.inl (vp_updL tot nb (totS ce ra))))) := by rw [hu17e12, gup_ne (by omega)]; exact hu17e11_11
        have hu17e12_12 : u17e12 (m + 12) = some (.inl ((X.2 1), 768, .inr (.inl (mapO sha (handS (mapL hea (heaV wy wei lis lic L) 12) s0 (fun j => (parS (totS ce ra) ((mapL hea (heaV wy wei lis lic L) 12) j) (sumL (heaV wy wei lis lic L) 12) 63).1) (wantS (totS ce ra) (fun j => (parS (totS ce ra) ((mapL hea (heaV wy wei lis lic L) 12) j) (sumL (heaV wy wei lis lic L) 12) 63).1) 12) 12).1 (12 * nb) 12)))) := by rw [hu17e12, gup_ne (by omega)]; exact hu17e11_12
        have hu17e12_13 : u17e12 (m + 13) = some (.inl ((X.2 1), 768, .inr (.inl (mapO pai (handS (fun j => (pay j).toInt64) 0 (fun j => (parS (totS ce ra) (pay j).toInt64 ce.toInt64 63).1) (wantS (totS ce ra) (fun j => (parS (totS ce ra) (pay j).toInt64 ce.toInt64 63).1) 12) 12).1 (12 * nb) 12)))) := by rw [hu17e12, gup_ne (by omega)]; exact hu17e11_13
        have hu17e12_14 : u17e12 (m + 14) = some (.inl ((X.2 1), 768, .inr (.inl (mapO dri (driMG (totS ce ra) (sumL (heaV wy wei lis lic L) 12) (mapL hea (heaV wy wei lis lic L) 12) (handS (mapL hea (heaV wy wei lis lic L) 12) s0 (fun j => (parS (totS ce ra) ((mapL hea (heaV wy wei lis lic L) 12) j) (sumL (heaV wy wei lis lic L) 12) 63).1) (wantS (totS ce ra) (fun j => (parS (totS ce ra) ((mapL hea (heaV wy wei lis lic L) 12) j) (sumL (heaV wy wei lis lic L) 12) 63).1) 12) 12).1) (12 * nb) 12)))) := by rw [hu17e12, gup_ne (by omega)]; exact hu17e11_14
        refine g_aload_n C d_M_post_186 rfl 0 rfl ?_
        refine g_get m 15 C hu17e12_0 rfl i_M (by decide) (gmem wd_533 rfl) rfl rfl d_M_post_187 ?_
        refine g_iconst (v := 1) C d_M_post_190 (by decide) ?_
        refine g_isub C d_M_post_191 ?_
        have hfin17e13 : u17e12 = gup (gup (gup (gup (gup (gup (gup (gup (gup u m (mO ad m 0 cl (-1) wy ce ra li (bi + 1))) (m + 2) (.inl ((X.2 0), 4, .inl (upd mar dr.toNatClampNeg (nI (handS (mapL hea (heaV wy wei lis lic L) 12) s0 (fun j => (parS (totS ce ra) ((mapL hea (heaV wy wei lis lic L) 12) j) (sumL (heaV wy wei lis lic L) 12) 63).1) (wantS (totS ce ra) (fun j => (parS (totS ce ra) ((mapL hea (heaV wy wei lis lic L) 12) j) (sumL (heaV wy wei lis lic L) 12) 63).1) 12) 12).2.2))))) (m + 9) (.inl ((X.2 0), 64, .inl (upd cof nb dr)))) (m + 11) (.inl ((X.2 2), 64, .inl (upd str nb 0)))) (m + 8) (.inl ((X.2 1), 12, .inr (.inl (mapL hea (heaV wy wei lis lic L) 12))))) (m + 10) (.inl ((X.2 1), 64, .inr (.inl (vp_updL tot nb (totS ce ra)))))) (m + 12) (.inl ((X.2 1), 768, .inr (.inl (mapO sha (handS (mapL hea (heaV wy wei lis lic L) 12) s0 (fun j => (parS (totS ce ra) ((mapL hea (heaV wy wei lis lic L) 12) j) (sumL (heaV wy wei lis lic L) 12) 63).1) (wantS (totS ce ra) (fun j => (parS (totS ce ra) ((mapL hea (heaV wy wei lis lic L) 12) j) (sumL (heaV wy wei lis lic L) 12) 63).1) 12) 12).1 (12 * nb) 12))))) (m + 13) (.inl ((X.2 1), 768, .inr (.inl (mapO pai (handS (fun j => (pay j).toInt64) 0 (fun j => (parS (totS ce ra) (pay j).toInt64 ce.toInt64 63).1) (wantS (totS ce ra) (fun j => (parS (totS ce ra) (pay j).toInt64 ce.toInt64 63).1) 12) 12).1 (12 * nb) 12))))) (m + 14) (.inl ((X.2 1), 768, .inr (.inl (mapO dri (driMG (totS ce ra) (sumL (heaV wy wei lis lic L) 12) (mapL hea (heaV wy wei lis lic L) 12) (handS (mapL hea (heaV wy wei lis lic L) 12) s0 (fun j => (parS (totS ce ra) ((mapL hea (heaV wy wei lis lic L) 12) j) (sumL (heaV wy wei lis lic L) 12) 63).1) (wantS (totS ce ra) (fun j => (parS (totS ce ra) ((mapL hea (heaV wy wei lis lic L) 12) j) (sumL (heaV wy wei lis lic L) 12) 63).1) 12) 12).1) (12 * nb) 12)))) := by
          funext k
          by_cases hk0 : k = m
          · rw [hk0, hu17e12_0, gup_ne (by omega), gup_ne (by omega), gup_ne (by omega), gup_ne (by omega), gup_ne (by omega), gup_ne (by omega), gup_ne (by omega), gup_ne (by omega), gup_self]
          by_cases hk1 : k = m + 2
          · rw [hk1, hu17e12_1, gup_ne (by omega), gup_ne (by omega), gup_ne (by omega), gup_ne (by omega), gup_ne (by omega), gup_ne (by omega), gup_ne (by omega), gup_self]
          by_cases hk2 : k = m + 9
          · rw [hk2, hu17e12_8, gup_ne (by omega), gup_ne (by omega), gup_ne (by omega), gup_ne (by omega), gup_ne (by omega), gup_ne (by omega), gup_self]
          by_cases hk3 : k = m + 11
          · rw [hk3, hu17e12_9, gup_ne (by omega), gup_ne (by omega), gup_ne (by omega), gup_ne (by omega), gup_ne (by omega), gup_self]
          by_cases hk4 : k = m + 8
          · rw [hk4, hu17e12_10, gup_ne (by omega), gup_ne (by omega), gup_ne (by omega), gup_ne (by omega), gup_self]
          by_cases hk5 : k = m + 10
          · rw [hk5, hu17e12_11, gup_ne (by omega), gup_ne (by omega), gup_ne (by omega), gup_self]
          by_cases hk6 : k = m + 12
          · rw [hk6, hu17e12_12, gup_ne (by omega), gup_ne (by omega), gup_self]
          by_cases hk7 : k = m + 13
          · rw [hk7, hu17e12_13, gup_ne (by omega), gup_self]
          by_cases hk8 : k = m + 14
          · rw [hk8, hu17e12_14, gup_self]
          rw [hu17e12, gup_ne hk0]
          rw [hu17e11, gup_ne hk0]
          rw [hwL17e, gup_ne hk8]
          rw [hup8, gup_ne hk1, gup_ne hk6]
          rw [hup7, gup_ne hk7]
          rw [hu6, gup_ne hk3]
          rw [hu5, gup_ne hk5]
          rw [hu4, gup_ne hk2]
          rw [huw3, gup_ne hk4]
          rw [huw2, gup_ne hk4]
          rw [hu1, gup_ne hk0]
          rw [gup_ne hk8, gup_ne hk7, gup_ne hk6, gup_ne hk5, gup_ne hk4, gup_ne hk3, gup_ne hk2, gup_ne hk1, gup_ne hk0]
        exact g_iret C hR hret ⟨_, rfl, rfl, Or.inr (Or.inr (Or.inr (Or.inr ⟨q1, q2, q3, hwro0, rfl, hfin17e13⟩)))⟩ d_M_post_192
    · skip
      refine g_iload_n C d_M_post_14 rfl 0 rfl ?_
      exact g_iret C hR hret ⟨_, rfl, rfl, Or.inr (Or.inr (Or.inr (Or.inl ⟨q1, q2, q3, c11, hwro, (by first | (rw [huw2, hu1]; done) | (rw [huw2, hu1]; funext k; simp only [gup]; (repeat' split) <;> first | with_reducible rfl | (exfalso; omega)))⟩)))⟩ d_M_post_15
