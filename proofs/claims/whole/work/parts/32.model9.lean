/-- a group of s that takes the lowest one and leaves the most groups -/
def goodG (wgh : Nat → Int64) (mst : Nat → Int32) (s f w : Nat) : Prop := mns w s = 0 ∧ ¬ w &&& f = 0 ∧ wgh w = 0 ∧ mst (mns s w) = mst s - 1 ∧ ¬ mst (mns s w) = -1
def leaR (wgh : Nat → Int64) (mst : Nat → Int32) (s f r : Nat) : Prop := (f ≤ r ∧ r ≤ s ∧ goodG wgh mst s f r ∧ ∀ w, f ≤ w → w < r → ¬ goodG wgh mst s f w) ∨ (r = s ∧ ∀ w, f ≤ w → w ≤ s → ¬ goodG wgh mst s f w)
theorem pow_le_of_bit {s i : Nat} (h : s.testBit i = true) : 2 ^ i ≤ s := Nat.ge_two_pow_of_testBit h
set_option maxHeartbeats 4000000 in
set_option maxRecDepth 100000 in
theorem k_M_least (l : Launch) (X : gX) (ad : Nat → Nat) (u : gW) (sz : Nat) (m : Nat) (th cl dr wy ce ra li bi : Int32) (mst : Nat → Int32) (wgh : Nat → Int64) (s : Nat) (hm : u m = some (mO ad m th cl dr wy ce ra li bi)) (h_mst : u (m + 25) = some (.inl ((X.2 0), 4096, .inl mst))) (h_wgh : u (m + 24) = some (.inl ((X.2 1), 4096, .inr (.inl wgh)))) (hs : s < 2 ^ 12) (h0 : s ≠ 0) : gMet l (EE X) y_M_least c_M_least 4 (some .int) ({ frames := 1, cells := 0, slots := 0, locals := 21 }) [.ref (ad m), .int (nI s)] ad u sz (fun v u' sz' => ∃ r : Nat, v = some (.int (nI r)) ∧ leaR wgh mst s (2 ^ lowI s) r ∧ u' = u ∧ sz' = sz) := by
  refine gMet_of "ExpenseClubsModel" rfl (by decide) (Nat.le_of_ble_eq_true rfl) (lv := [(0, .ref (ad m)), (1, .int (nI s))]) rfl (fun Z hZl C hR hret hname => ?_)
  refine g_iconst (v := 1) C d_M_least_0 (by decide) ?_
  refine g_iload_n C d_M_least_1 rfl 1 rfl ?_
  refine g_callS 1 C (k_M_lowest _ X ad u sz s hs h0) (gmem wd_732 rfl) (gmem wd_733 rfl) (gmem wd_4 rfl) (gmem wd_734 rfl) ⟨by decide, by decide, by decide +kernel⟩ ⟨Nat.le_of_ble_eq_true rfl, Nat.le_of_ble_eq_true rfl⟩ rfl rfl (Nat.le_of_ble_eq_true rfl) d_M_least_2 ⟨Nat.le_of_ble_eq_true rfl, Nat.le_of_ble_eq_true rfl⟩ ?_
  rintro v9 u9 s9 ⟨h9, hu9, hs9⟩; rw [h9, hu9, hs9]; clear h9 hu9 hs9 v9 u9 s9
  show GW Z _ _ _ ad u sz [(0, .ref (ad m)), (1, .int (nI s))] 0 0 5 [.int (nI (lowI s)), .int 1]
  refine g_ishl C d_M_least_5 ?_
  rw [shl1 (lowI s) (Nat.lt_of_lt_of_le (lowI_lt h0 hs) (by decide))]
  have hF : (2 ^ lowI s) ≤ s := pow_le_of_bit (lowI_bit h0 hs)
  refine g_istore_n C d_M_least_6 rfl [(2, .int (nI (2 ^ lowI s))), (0, .ref (ad m)), (1, .int (nI s))] (by decide) rfl ?_
  refine g_iload_n C d_M_least_7 rfl 0 rfl ?_
  refine g_istore_n C d_M_least_8 rfl [(3, .int (nI (2 ^ lowI s))), (2, .int (nI (2 ^ lowI s))), (0, .ref (ad m)), (1, .int (nI s))] (by decide) rfl ?_
  refine g_fewer (lv' := [(0, .ref (ad m)), (1, .int (nI s)), (2, .int (nI (2 ^ lowI s))), (3, .int (nI (2 ^ lowI s)))]) [2, 3, 1, 0] rfl ?_
  refine GW_eq (u2 := u) (lv2 := [(0, .ref (ad m)), (1, .int (nI s)), (2, .int (nI (2 ^ lowI s))), (3, .int (nI ((2 ^ lowI s) + 0)))]) rfl rfl ?_
  refine g_loop (s + 1 - (2 ^ lowI s)) (fun iL19 => ∀ j, j < iL19 → ¬ goodG wgh mst s (2 ^ lowI s) ((2 ^ lowI s) + j)) (fun iL19 => u) (fun iL19 => [(0, .ref (ad m)), (1, .int (nI s)), (2, .int (nI (2 ^ lowI s))), (3, .int (nI ((2 ^ lowI s) + iL19)))]) (fun iL19 hiL19 piL19 KL19 => ?_) (fun piL19 => ?_) 0 (by omega) lt_0
  · skip
    show GW Z _ _ _ ad (u) _ [(0, .ref (ad m)), (1, .int (nI s)), (2, .int (nI (2 ^ lowI s))), (3, .int (nI ((2 ^ lowI s) + iL19)))] _ _ 9 []
    obtain ⟨wL19s, hwL19s⟩ : ∃ z, z = u := ⟨_, rfl⟩
    rw [← hwL19s]
    have hwL19s_0 : wL19s m = some (mO ad m th cl dr wy ce ra li bi) := by rw [hwL19s]; exact hm
    have hwL19s_1 : wL19s (m + 25) = some (.inl ((X.2 0), 4096, .inl mst)) := by rw [hwL19s]; exact h_mst
    have hwL19s_2 : wL19s (m + 24) = some (.inl ((X.2 1), 4096, .inr (.inl wgh))) := by rw [hwL19s]; exact h_wgh
    refine g_iload_n C d_M_least_9 rfl 3 rfl ?_
    refine g_iload_n C d_M_least_10 rfl 1 rfl ?_
    refine g_icmp_gt 82 C d_M_least_11 (by decide) (fun c19s11 => ?_) (fun c19s11 => ?_)
    · exact absurd c19s11 (by rw [nI_ltI (by omega) (by omega)]; omega)
    refine g_iload_n C d_M_least_14 rfl 3 rfl ?_
    refine g_iload_n C d_M_least_15 rfl 1 rfl ?_
    refine g_iconst (v := (-1)) C d_M_least_16 (by decide) ?_
    refine g_ixor C d_M_least_17 ?_
    refine g_iand C d_M_least_18 ?_
    rw [nI_mns]
    refine g_if_ne 76 C d_M_least_19 (by decide) (fun c19s19 => ?_) (fun c19s19 => ?_)
    · skip
      obtain ⟨x19s76, ex19s76⟩ : ∃ y : Int32, y = (nI ((2 ^ lowI s) + iL19)) + 1 := ⟨_, rfl⟩
      refine g_iinc (v := x19s76) C d_M_least_76 3 rfl (by rw [ex19s76]; rfl) [(3, .int x19s76), (0, .ref (ad m)), (1, .int (nI s)), (2, .int (nI (2 ^ lowI s)))] (by decide) rfl ?_
      refine g_goto 9 C d_M_least_79 (by decide) ?_
      refine g_fewer (lv' := [(0, .ref (ad m)), (1, .int (nI s)), (2, .int (nI (2 ^ lowI s))), (3, .int x19s76)]) [1, 2, 3, 0] rfl ?_
      refine GW_eq (u2 := u) (lv2 := [(0, .ref (ad m)), (1, .int (nI s)), (2, .int (nI (2 ^ lowI s))), (3, .int (nI ((2 ^ lowI s) + (iL19 + 1))))]) ?_ ?_ (KL19 (lt_s piL19 (fun h9 => c19s19 ((nI_z (Nat.lt_trans (mns_lt (n := 12) (by omega)) (by decide))).mpr h9.1))))
      · first | (rw [hwL19s]; done) | (rw [hwL19s]; funext k; simp only [gup]; (repeat' split) <;> first | with_reducible rfl | (exfalso; omega))
      · simp only [ex19s76, nI_1, Nat.add_assoc]
    · skip
      refine g_iload_n C d_M_least_22 rfl 3 rfl ?_
      refine g_iload_n C d_M_least_23 rfl 2 rfl ?_
      refine g_iand C d_M_least_24 ?_
      rw [nI_and]
      refine g_if_eq 76 C d_M_least_25 (by decide) (fun c19s25 => ?_) (fun c19s25 => ?_)
      · skip
        obtain ⟨x19s76, ex19s76⟩ : ∃ y : Int32, y = (nI ((2 ^ lowI s) + iL19)) + 1 := ⟨_, rfl⟩
        refine g_iinc (v := x19s76) C d_M_least_76 3 rfl (by rw [ex19s76]; rfl) [(3, .int x19s76), (0, .ref (ad m)), (1, .int (nI s)), (2, .int (nI (2 ^ lowI s)))] (by decide) rfl ?_
        refine g_goto 9 C d_M_least_79 (by decide) ?_
        refine g_fewer (lv' := [(0, .ref (ad m)), (1, .int (nI s)), (2, .int (nI (2 ^ lowI s))), (3, .int x19s76)]) [1, 2, 3, 0] rfl ?_
        refine GW_eq (u2 := u) (lv2 := [(0, .ref (ad m)), (1, .int (nI s)), (2, .int (nI (2 ^ lowI s))), (3, .int (nI ((2 ^ lowI s) + (iL19 + 1))))]) ?_ ?_ (KL19 (lt_s piL19 (fun h9 => h9.2.1 ((nI_z (Nat.lt_trans (and_lt2 (n := 12) (by omega)) (by decide))).mp c19s25))))
        · first | (rw [hwL19s]; done) | (rw [hwL19s]; funext k; simp only [gup]; (repeat' split) <;> first | with_reducible rfl | (exfalso; omega))
        · simp only [ex19s76, nI_1, Nat.add_assoc]
      · skip
        refine g_aload_n C d_M_least_28 rfl 0 rfl ?_
        refine g_get m 31 C hwL19s_0 rfl i_M (by decide) (gmem wd_549 rfl) rfl rfl d_M_least_29 ?_
        refine g_iload_n C d_M_least_32 rfl 3 rfl ?_
        refine g_lald (m + 24) 1 C hwL19s_2 rfl (vp_in_nI (by omega) (by decide)) d_M_least_33 ?_
        rw [show Int32.toNatClampNeg (nI ((2 ^ lowI s) + iL19)) = ((2 ^ lowI s) + iL19) from nI_clamp (by omega)]
        refine g_lconst (v := 0) C d_M_least_34 (by decide) ?_
        refine g_lcmp C d_M_least_35 ?_
        refine g_if_ne 76 C d_M_least_36 (by decide) (fun c19s36 => ?_) (fun c19s36 => ?_)
        · rw [lg_cmp_eq] at c19s36
          obtain ⟨x19s76, ex19s76⟩ : ∃ y : Int32, y = (nI ((2 ^ lowI s) + iL19)) + 1 := ⟨_, rfl⟩
          refine g_iinc (v := x19s76) C d_M_least_76 3 rfl (by rw [ex19s76]; rfl) [(3, .int x19s76), (0, .ref (ad m)), (1, .int (nI s)), (2, .int (nI (2 ^ lowI s)))] (by decide) rfl ?_
          refine g_goto 9 C d_M_least_79 (by decide) ?_
          refine g_fewer (lv' := [(0, .ref (ad m)), (1, .int (nI s)), (2, .int (nI (2 ^ lowI s))), (3, .int x19s76)]) [1, 2, 3, 0] rfl ?_
          refine GW_eq (u2 := u) (lv2 := [(0, .ref (ad m)), (1, .int (nI s)), (2, .int (nI (2 ^ lowI s))), (3, .int (nI ((2 ^ lowI s) + (iL19 + 1))))]) ?_ ?_ (KL19 (lt_s piL19 (fun h9 => c19s36 h9.2.2.1)))
          · first | (rw [hwL19s]; done) | (rw [hwL19s]; funext k; simp only [gup]; (repeat' split) <;> first | with_reducible rfl | (exfalso; omega))
          · simp only [ex19s76, nI_1, Nat.add_assoc]
        · rw [lg_cmp_eq] at c19s36
          refine g_aload_n C d_M_least_39 rfl 0 rfl ?_
          refine g_get m 32 C hwL19s_0 rfl i_M (by decide) (gmem wd_550 rfl) rfl rfl d_M_least_40 ?_
          refine g_iload_n C d_M_least_43 rfl 1 rfl ?_
          refine g_iload_n C d_M_least_44 rfl 3 rfl ?_
          refine g_iconst (v := (-1)) C d_M_least_45 (by decide) ?_
          refine g_ixor C d_M_least_46 ?_
          refine g_iand C d_M_least_47 ?_
          rw [nI_mns]
          refine g_iald (m + 25) 0 C hwL19s_1 rfl (vp_in_nI (show mns s ((2 ^ lowI s) + iL19) < 4096 from mns_lt (n := 12) hs) (by decide)) d_M_least_48 ?_
          rw [show Int32.toNatClampNeg (nI (mns s ((2 ^ lowI s) + iL19))) = mns s ((2 ^ lowI s) + iL19) from nI_clamp (Nat.lt_trans (show mns s ((2 ^ lowI s) + iL19) < 4096 from mns_lt (n := 12) hs) (by decide))]
          refine g_aload_n C d_M_least_49 rfl 0 rfl ?_
          refine g_get m 32 C hwL19s_0 rfl i_M (by decide) (gmem wd_550 rfl) rfl rfl d_M_least_50 ?_
          refine g_iload_n C d_M_least_53 rfl 1 rfl ?_
          refine g_iald (m + 25) 0 C hwL19s_1 rfl (vp_in_nI hs (by decide)) d_M_least_54 ?_
          rw [show Int32.toNatClampNeg (nI s) = s from nI_clamp (by omega)]
          refine g_iconst (v := 1) C d_M_least_55 (by decide) ?_
          refine g_isub C d_M_least_56 ?_
          refine g_icmp_ne 76 C d_M_least_57 (by decide) (fun c19s57 => ?_) (fun c19s57 => ?_)
          · skip
            obtain ⟨x19s76, ex19s76⟩ : ∃ y : Int32, y = (nI ((2 ^ lowI s) + iL19)) + 1 := ⟨_, rfl⟩
            refine g_iinc (v := x19s76) C d_M_least_76 3 rfl (by rw [ex19s76]; rfl) [(3, .int x19s76), (0, .ref (ad m)), (1, .int (nI s)), (2, .int (nI (2 ^ lowI s)))] (by decide) rfl ?_
            refine g_goto 9 C d_M_least_79 (by decide) ?_
            refine g_fewer (lv' := [(0, .ref (ad m)), (1, .int (nI s)), (2, .int (nI (2 ^ lowI s))), (3, .int x19s76)]) [1, 2, 3, 0] rfl ?_
            refine GW_eq (u2 := u) (lv2 := [(0, .ref (ad m)), (1, .int (nI s)), (2, .int (nI (2 ^ lowI s))), (3, .int (nI ((2 ^ lowI s) + (iL19 + 1))))]) ?_ ?_ (KL19 (lt_s piL19 (fun h9 => c19s57 h9.2.2.2.1)))
            · first | (rw [hwL19s]; done) | (rw [hwL19s]; funext k; simp only [gup]; (repeat' split) <;> first | with_reducible rfl | (exfalso; omega))
            · simp only [ex19s76, nI_1, Nat.add_assoc]
          · skip
            refine g_aload_n C d_M_least_60 rfl 0 rfl ?_
            refine g_get m 32 C hwL19s_0 rfl i_M (by decide) (gmem wd_550 rfl) rfl rfl d_M_least_61 ?_
            refine g_iload_n C d_M_least_64 rfl 1 rfl ?_
            refine g_iload_n C d_M_least_65 rfl 3 rfl ?_
            refine g_iconst (v := (-1)) C d_M_least_66 (by decide) ?_
            refine g_ixor C d_M_least_67 ?_
            refine g_iand C d_M_least_68 ?_
            rw [nI_mns]
            refine g_iald (m + 25) 0 C hwL19s_1 rfl (vp_in_nI (show mns s ((2 ^ lowI s) + iL19) < 4096 from mns_lt (n := 12) hs) (by decide)) d_M_least_69 ?_
            rw [show Int32.toNatClampNeg (nI (mns s ((2 ^ lowI s) + iL19))) = mns s ((2 ^ lowI s) + iL19) from nI_clamp (Nat.lt_trans (show mns s ((2 ^ lowI s) + iL19) < 4096 from mns_lt (n := 12) hs) (by decide))]
            refine g_iconst (v := (-1)) C d_M_least_70 (by decide) ?_
            refine g_icmp_eq 76 C d_M_least_71 (by decide) (fun c19s71 => ?_) (fun c19s71 => ?_)
            · skip
              obtain ⟨x19s76, ex19s76⟩ : ∃ y : Int32, y = (nI ((2 ^ lowI s) + iL19)) + 1 := ⟨_, rfl⟩
              refine g_iinc (v := x19s76) C d_M_least_76 3 rfl (by rw [ex19s76]; rfl) [(3, .int x19s76), (0, .ref (ad m)), (1, .int (nI s)), (2, .int (nI (2 ^ lowI s)))] (by decide) rfl ?_
              refine g_goto 9 C d_M_least_79 (by decide) ?_
              refine g_fewer (lv' := [(0, .ref (ad m)), (1, .int (nI s)), (2, .int (nI (2 ^ lowI s))), (3, .int x19s76)]) [1, 2, 3, 0] rfl ?_
              refine GW_eq (u2 := u) (lv2 := [(0, .ref (ad m)), (1, .int (nI s)), (2, .int (nI (2 ^ lowI s))), (3, .int (nI ((2 ^ lowI s) + (iL19 + 1))))]) ?_ ?_ (KL19 (lt_s piL19 (fun h9 => h9.2.2.2.2 c19s71)))
              · first | (rw [hwL19s]; done) | (rw [hwL19s]; funext k; simp only [gup]; (repeat' split) <;> first | with_reducible rfl | (exfalso; omega))
              · simp only [ex19s76, nI_1, Nat.add_assoc]
            · skip
              refine g_iload_n C d_M_least_74 rfl 3 rfl ?_
              exact g_iret C hR hret ⟨(2 ^ lowI s) + iL19, rfl, Or.inl ⟨by omega, by omega, ⟨(nI_z (Nat.lt_trans (mns_lt (n := 12) (by omega)) (by decide))).mp c19s19, fun h9 => c19s25 ((nI_z (Nat.lt_trans (and_lt2 (n := 12) (by omega)) (by decide))).mpr h9), c19s36, c19s57, c19s71⟩, fun w h1 h2 h9 => piL19 (w - (2 ^ lowI s)) (by omega) (by rw [show (2 ^ lowI s) + (w - (2 ^ lowI s)) = w by omega]; exact h9)⟩, (by first | (rw [hwL19s]; done) | (rw [hwL19s]; funext k; simp only [gup]; (repeat' split) <;> first | with_reducible rfl | (exfalso; omega))), rfl⟩ d_M_least_75
  · skip
    show GW Z _ _ _ ad (u) _ [(0, .ref (ad m)), (1, .int (nI s)), (2, .int (nI (2 ^ lowI s))), (3, .int (nI ((2 ^ lowI s) + (s + 1 - (2 ^ lowI s)))))] _ _ 9 []
    obtain ⟨wL19e, hwL19e⟩ : ∃ z, z = u := ⟨_, rfl⟩
    rw [← hwL19e]
    have hwL19e_0 : wL19e m = some (mO ad m th cl dr wy ce ra li bi) := by rw [hwL19e]; exact hm
    have hwL19e_1 : wL19e (m + 25) = some (.inl ((X.2 0), 4096, .inl mst)) := by rw [hwL19e]; exact h_mst
    have hwL19e_2 : wL19e (m + 24) = some (.inl ((X.2 1), 4096, .inr (.inl wgh))) := by rw [hwL19e]; exact h_wgh
    refine g_iload_n C d_M_least_9 rfl 3 rfl ?_
    refine g_iload_n C d_M_least_10 rfl 1 rfl ?_
    refine g_icmp_gt 82 C d_M_least_11 (by decide) (fun c19e11 => ?_) (fun c19e11 => ?_)
    rotate_left
    · exact absurd (by rw [nI_ltI (by omega) (by omega)]; omega) c19e11
    refine g_iload_n C d_M_least_82 rfl 1 rfl ?_
    exact g_iret C hR hret ⟨s, rfl, Or.inr ⟨rfl, fun w h1 h2 h9 => piL19 (w - (2 ^ lowI s)) (by omega) (by rw [show (2 ^ lowI s) + (w - (2 ^ lowI s)) = w by omega]; exact h9)⟩, (by first | (rw [hwL19e]; done) | (rw [hwL19e]; funext k; simp only [gup]; (repeat' split) <;> first | with_reducible rfl | (exfalso; omega))), rfl⟩ d_M_least_83
