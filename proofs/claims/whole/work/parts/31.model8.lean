def lowF (s : Nat) : Nat → Nat
  | 0 => 0
  | k + 1 => if lowF s k < k then lowF s k else if s.testBit k = true then k else k + 1
theorem lowF_spec (s k : Nat) : lowF s k ≤ k ∧ (∀ j, j < lowF s k → s.testBit j = false) ∧ (lowF s k < k → s.testBit (lowF s k) = true) := by
  induction k with
  | zero => exact ⟨Nat.le_refl _, fun j h => absurd h (Nat.not_lt_zero _), fun h => absurd h (Nat.lt_irrefl _)⟩
  | succ k ih =>
    obtain ⟨h1, h2, h3⟩ := ih
    simp only [lowF]
    by_cases c : lowF s k < k
    · rw [if_pos c]; exact ⟨by omega, h2, fun _ => h3 c⟩
    · rw [if_neg c]
      have e : lowF s k = k := by omega
      rw [e] at h2
      by_cases d : s.testBit k = true
      · rw [if_pos d]; exact ⟨by omega, h2, fun _ => d⟩
      · rw [if_neg d]
        refine ⟨by omega, fun j hj => ?_, fun h => absurd h (by omega)⟩
        by_cases hj2 : j = k
        · rw [hj2]; exact Bool.not_eq_true _ |>.mp d
        · exact h2 j (by omega)
/-- the lowest member -/
def lowI (s : Nat) : Nat := lowF s 12
theorem lowI_of {s i : Nat} (hi : i < 12) (h1 : s.testBit i = true) (h2 : ∀ j, j < i → s.testBit j = false) : lowI s = i := by
  obtain ⟨g1, g2, g3⟩ := lowF_spec s 12
  rcases Nat.lt_trichotomy (lowI s) i with h | h | h
  · have := h2 _ h
    rw [show s.testBit (lowI s) = true from g3 (Nat.lt_trans h hi)] at this
    exact absurd this (by decide)
  · exact h
  · have := g2 i h
    rw [h1] at this
    exact absurd this (by decide)
theorem lowI_lt {s : Nat} (h0 : s ≠ 0) (h : s < 2 ^ 12) : lowI s < 12 := by
  obtain ⟨g1, g2, g3⟩ := lowF_spec s 12
  rcases Nat.lt_or_ge (lowF s 12) 12 with h1 | h1
  · exact h1
  · exact absurd (tb_zero h (fun j hj => g2 j (by omega))) h0
theorem lowI_bit {s : Nat} (h0 : s ≠ 0) (h : s < 2 ^ 12) : s.testBit (lowI s) = true := (lowF_spec s 12).2.2 (lowI_lt h0 h)
theorem lowI_no {s j : Nat} (hj : j < lowI s) : s.testBit j = false := (lowF_spec s 12).2.1 j hj
theorem ge4096 {s : Nat} (h : s < 4096) : ¬ (4096 : Int32) ≤ nI s := fun q => by
  rw [show (4096 : Int32) = nI 4096 from rfl, nI_leI (by decide) (by omega)] at q; omega
theorem nI_z {a : Nat} (h : a < 2 ^ 31) : nI a = 0 ↔ a = 0 := by rw [show (0 : Int32) = nI 0 from rfl, nI_eq h (by decide)]
set_option maxHeartbeats 4000000 in
set_option maxRecDepth 100000 in
theorem k_M_lowest (l : Launch) (X : gX) (ad : Nat → Nat) (u : gW) (sz : Nat) (s : Nat)  (hs : s < 2 ^ 12) (h0 : s ≠ 0) : gMet l (EE X) y_M_lowest c_M_lowest 2 (some .int) ({ frames := 0, cells := 0, slots := 0, locals := 0 }) [.int (nI s)] ad u sz (fun v u' sz' => v = some (.int (nI (lowI s))) ∧ u' = u ∧ sz' = sz) := by
  refine gMet_of "ExpenseClubsModel" rfl (by decide) (Nat.le_of_ble_eq_true rfl) (lv := [(0, .int (nI s))]) rfl (fun Z hZl C hR hret hname => ?_)
  refine g_iconst (v := 0) C d_M_lowest_0 (by decide) ?_
  refine g_istore_n C d_M_lowest_1 rfl [(1, .int 0), (0, .int (nI s))] (by decide) rfl ?_
  refine g_fewer (lv' := [(0, .int (nI s)), (1, .int 0)]) [1, 0] rfl ?_
  refine GW_eq (u2 := u) (lv2 := [(0, .int (nI s)), (1, .int (nI 0))]) rfl rfl ?_
  refine g_loop 12 (fun iL17 => ∀ j, j < iL17 → s.testBit j = false) (fun iL17 => u) (fun iL17 => [(0, .int (nI s)), (1, .int (nI iL17))]) (fun iL17 hiL17 piL17 KL17 => ?_) (fun piL17 => ?_) 0 (by omega) lt_0
  · skip
    show GW Z _ _ _ ad (u) _ [(0, .int (nI s)), (1, .int (nI iL17))] _ _ 2 []
    obtain ⟨wL17s, hwL17s⟩ : ∃ z, z = u := ⟨_, rfl⟩
    rw [← hwL17s]
    refine g_iload_n C d_M_lowest_2 rfl 0 rfl ?_
    refine g_iload_n C d_M_lowest_3 rfl 1 rfl ?_
    refine g_ishr C d_M_lowest_4 ?_
    refine g_iconst (v := 1) C d_M_lowest_5 (by decide) ?_
    refine g_iand C d_M_lowest_6 ?_
    refine g_if_ne 16 C d_M_lowest_7 (by decide) (fun c17s7 => ?_) (fun c17s7 => ?_)
    · skip
      refine g_iload_n C d_M_lowest_16 rfl 1 rfl ?_
      exact g_iret C hR hret ⟨congrArg (fun z => some (Value.int (nI z))) (lowI_of hiL17 ((Bool.not_eq_false _).mp (mt (bit0 (by omega) (by omega)).mpr c17s7)) piL17).symm, (by first | (rw [hwL17s]; done) | (rw [hwL17s]; funext k; simp only [gup]; (repeat' split) <;> first | with_reducible rfl | (exfalso; omega))), rfl⟩ d_M_lowest_17
    · skip
      obtain ⟨x17s10, ex17s10⟩ : ∃ y : Int32, y = (nI iL17) + 1 := ⟨_, rfl⟩
      refine g_iinc (v := x17s10) C d_M_lowest_10 1 rfl (by rw [ex17s10]; rfl) [(1, .int x17s10), (0, .int (nI s))] (by decide) rfl ?_
      refine g_goto 2 C d_M_lowest_13 (by decide) ?_
      refine g_fewer (lv' := [(0, .int (nI s)), (1, .int x17s10)]) [1, 0] rfl ?_
      refine GW_eq (u2 := u) (lv2 := [(0, .int (nI s)), (1, .int (nI (iL17 + 1)))]) ?_ ?_ (KL17 (lt_s piL17 ((bit0 (by omega) (by omega)).mp c17s7)))
      · first | (rw [hwL17s]; done) | (rw [hwL17s]; funext k; simp only [gup]; (repeat' split) <;> first | with_reducible rfl | (exfalso; omega))
      · first | rfl | simp only [ex17s10, nI_1, nI_0]
  · skip
    exact absurd (tb_zero hs piL17) h0

def weiR (bal w0 : Nat → Int64) : Nat → Nat → Int64
  | 0 => w0
  | k + 1 => vp_updL (weiR bal w0 k) (k + 1) (weiR bal w0 k (mns (k + 1) (2 ^ lowI (k + 1))) + bal (lowI (k + 1)))
set_option maxHeartbeats 4000000 in
set_option maxRecDepth 100000 in
theorem k_M_weighAll (l : Launch) (X : gX) (ad : Nat → Nat) (u : gW) (sz : Nat) (m : Nat) (cl dr wy ce ra li bi : Int32) (mem cof str : Nat → Int32) (sen pai sha wgh : Nat → Int64) (c : Int32) (hm : u m = some (mO ad m 0 cl dr wy ce ra li bi)) (h_mem : u (m + 1) = some (.inl ((X.2 0), 4, .inl mem))) (h_cof : u (m + 9) = some (.inl ((X.2 0), 64, .inl cof))) (h_str : u (m + 11) = some (.inl ((X.2 2), 64, .inl str))) (h_sen : u (m + 15) = some (.inl ((X.2 1), 48, .inr (.inl sen)))) (h_pai : u (m + 13) = some (.inl ((X.2 1), 768, .inr (.inl pai)))) (h_sha : u (m + 12) = some (.inl ((X.2 1), 768, .inr (.inl sha)))) (h_wgh : u (m + 24) = some (.inl ((X.2 1), 4096, .inr (.inl wgh)))) (hcl : cl ≤ 4) (hmem : ∀ j, j < 4 → mem j ≤ 12)(nb : Nat) (hnb : bi = nI nb) (hn64 : nb ≤ 64)  : gMet l (EE X) y_M_weighAll c_M_weighAll 4 none ({ frames := 3, cells := 0, slots := 0, locals := 68 }) [.ref (ad m), .int c] ad u sz (fun v u' sz' => v = none ∧ u' = gup u (m + 24) (.inl ((X.2 1), 4096, .inr (.inl (weiR (fun x => balM cl mem cof str pai sha sen nb c (nI x)) wgh 4095)))) ∧ sz' = sz) := by
  refine gMet_of "ExpenseClubsModel" rfl (by decide) (Nat.le_of_ble_eq_true rfl) (lv := [(0, .ref (ad m)), (1, .int c)]) rfl (fun Z hZl C hR hret hname => ?_)
  refine g_iconst (v := 1) C d_M_weighAll_0 (by decide) ?_
  refine g_istore_n C d_M_weighAll_1 rfl [(2, .int 1), (0, .ref (ad m)), (1, .int c)] (by decide) rfl ?_
  refine g_fewer (lv' := [(0, .ref (ad m)), (1, .int c), (2, .int 1)]) [1, 2, 0] rfl ?_
  refine GW_eq (u2 := gup u (m + 24) (.inl ((X.2 1), 4096, .inr (.inl (weiR (fun x => balM cl mem cof str pai sha sen nb c (nI x)) wgh 0))))) (lv2 := [(0, .ref (ad m)), (1, .int c), (2, .int (nI (0 + 1)))]) (gup_id h_wgh).symm rfl ?_
  refine g_loop 4095 (fun iL18 => True) (fun iL18 => gup u (m + 24) (.inl ((X.2 1), 4096, .inr (.inl (weiR (fun x => balM cl mem cof str pai sha sen nb c (nI x)) wgh iL18))))) (fun iL18 => [(0, .ref (ad m)), (1, .int c), (2, .int (nI (iL18 + 1)))]) (fun iL18 hiL18 piL18 KL18 => ?_) (fun piL18 => ?_) 0 (by omega) trivial
  · skip
    show GW Z _ _ _ ad (gup u (m + 24) (.inl ((X.2 1), 4096, .inr (.inl (weiR (fun x => balM cl mem cof str pai sha sen nb c (nI x)) wgh iL18))))) _ [(0, .ref (ad m)), (1, .int c), (2, .int (nI (iL18 + 1)))] _ _ 2 []
    obtain ⟨wL18s, hwL18s⟩ : ∃ z, z = gup u (m + 24) (.inl ((X.2 1), 4096, .inr (.inl (weiR (fun x => balM cl mem cof str pai sha sen nb c (nI x)) wgh iL18)))) := ⟨_, rfl⟩
    rw [← hwL18s]
    have hwL18s_0 : wL18s m = some (mO ad m 0 cl dr wy ce ra li bi) := by rw [hwL18s, gup_ne (by omega)]; exact hm
    have hwL18s_1 : wL18s (m + 1) = some (.inl ((X.2 0), 4, .inl mem)) := by rw [hwL18s, gup_ne (by omega)]; exact h_mem
    have hwL18s_2 : wL18s (m + 9) = some (.inl ((X.2 0), 64, .inl cof)) := by rw [hwL18s, gup_ne (by omega)]; exact h_cof
    have hwL18s_3 : wL18s (m + 11) = some (.inl ((X.2 2), 64, .inl str)) := by rw [hwL18s, gup_ne (by omega)]; exact h_str
    have hwL18s_4 : wL18s (m + 15) = some (.inl ((X.2 1), 48, .inr (.inl sen))) := by rw [hwL18s, gup_ne (by omega)]; exact h_sen
    have hwL18s_5 : wL18s (m + 13) = some (.inl ((X.2 1), 768, .inr (.inl pai))) := by rw [hwL18s, gup_ne (by omega)]; exact h_pai
    have hwL18s_6 : wL18s (m + 12) = some (.inl ((X.2 1), 768, .inr (.inl sha))) := by rw [hwL18s, gup_ne (by omega)]; exact h_sha
    have hwL18s_7 : wL18s (m + 24) = some (.inl ((X.2 1), 4096, .inr (.inl (weiR (fun x => balM cl mem cof str pai sha sen nb c (nI x)) wgh iL18)))) := by rw [hwL18s, gup_self]
    refine g_iload_n C d_M_weighAll_2 rfl 2 rfl ?_
    refine g_sipush (v := 4096) C d_M_weighAll_3 (by decide) ?_
    refine g_icmp_ge 45 C d_M_weighAll_6 (by decide) (fun c18s6 => ?_) (fun c18s6 => ?_)
    · exact absurd c18s6 (ge4096 (by omega))
    refine g_iload_n C d_M_weighAll_9 rfl 2 rfl ?_
    refine g_callS 1 C (k_M_lowest _ X ad wL18s sz (iL18 + 1) (by omega) (by omega)) (gmem wd_732 rfl) (gmem wd_733 rfl) (gmem wd_4 rfl) (gmem wd_734 rfl) ⟨by decide, by decide, by decide +kernel⟩ ⟨Nat.le_of_ble_eq_true rfl, Nat.le_of_ble_eq_true rfl⟩ rfl rfl (Nat.le_of_ble_eq_true rfl) d_M_weighAll_10 ⟨Nat.le_of_ble_eq_true rfl, Nat.le_of_ble_eq_true rfl⟩ ?_
    rintro v9 u9 s9 ⟨h9, hu9, hs9⟩; rw [h9, hu9, hs9]; clear h9 hu9 hs9 v9 u9 s9
    show GW Z _ _ _ ad wL18s sz [(0, .ref (ad m)), (1, .int c), (2, .int (nI (iL18 + 1)))] 0 0 13 [.int (nI (lowI (iL18 + 1)))]
    refine g_istore_n C d_M_weighAll_13 rfl [(3, .int (nI (lowI (iL18 + 1)))), (0, .ref (ad m)), (1, .int c), (2, .int (nI (iL18 + 1)))] (by decide) rfl ?_
    refine g_aload_n C d_M_weighAll_14 rfl 1 rfl ?_
    refine g_get m 31 C hwL18s_0 rfl i_M (by decide) (gmem wd_549 rfl) rfl rfl d_M_weighAll_15 ?_
    refine g_iload_n C d_M_weighAll_18 rfl 3 rfl ?_
    refine g_aload_n C d_M_weighAll_19 rfl 1 rfl ?_
    refine g_get m 31 C hwL18s_0 rfl i_M (by decide) (gmem wd_549 rfl) rfl rfl d_M_weighAll_20 ?_
    refine g_iload_n C d_M_weighAll_23 rfl 3 rfl ?_
    refine g_iconst (v := 1) C d_M_weighAll_24 (by decide) ?_
    refine g_iload_n C d_M_weighAll_25 rfl 0 rfl ?_
    refine g_ishl C d_M_weighAll_26 ?_
    refine g_iconst (v := (-1)) C d_M_weighAll_27 (by decide) ?_
    refine g_ixor C d_M_weighAll_28 ?_
    refine g_iand C d_M_weighAll_29 ?_
    rw [shl1 (lowI (iL18 + 1)) (Nat.lt_of_lt_of_le (lowI_lt (by omega) (by omega)) (by decide)), nI_mns]
    refine g_lald (m + 24) 1 C hwL18s_7 rfl (vp_in_nI (show mns (iL18 + 1) (2 ^ lowI (iL18 + 1)) < 4096 from mns_lt (n := 12) (by omega)) (by decide)) d_M_weighAll_30 ?_
    rw [show Int32.toNatClampNeg (nI (mns (iL18 + 1) (2 ^ lowI (iL18 + 1)))) = mns (iL18 + 1) (2 ^ lowI (iL18 + 1)) from nI_clamp (Nat.lt_trans (show mns (iL18 + 1) (2 ^ lowI (iL18 + 1)) < 4096 from mns_lt (n := 12) (by omega)) (by decide))]
    refine g_aload_n C d_M_weighAll_31 rfl 1 rfl ?_
    refine g_iload_n C d_M_weighAll_32 rfl 2 rfl ?_
    refine g_iload_n C d_M_weighAll_33 rfl 0 rfl ?_
    refine g_callV 2 C (k_M_balance _ X ad wL18s sz m 0 cl dr wy ce ra li bi mem cof str sen pai sha c (nI (lowI (iL18 + 1))) hwL18s_0 hwL18s_1 hwL18s_2 hwL18s_3 hwL18s_4 hwL18s_5 hwL18s_6 hcl hmem nb hnb hn64) (gmem wd_642 rfl) (gmem wd_643 rfl) (gmem wd_644 rfl) (gmem wd_4 rfl) (gmem wd_645 rfl) ⟨by decide, by decide, by decide +kernel⟩ ⟨Nat.le_of_ble_eq_true rfl, Nat.le_of_ble_eq_true rfl⟩ hwL18s_0 rfl rfl rfl (Nat.le_of_ble_eq_true rfl) d_M_weighAll_34 ⟨Nat.le_of_ble_eq_true rfl, Nat.le_of_ble_eq_true rfl⟩ ?_
    rintro v9 u18sb1 s9 ⟨h9, hu18sb1, hs9⟩; rw [gup_id hwL18s_0] at hu18sb1; rw [h9, hu18sb1, hs9]; clear h9 hu18sb1 hs9 v9 s9 u18sb1
    show GW Z _ _ _ ad wL18s sz [(3, .int (nI (lowI (iL18 + 1)))), (0, .ref (ad m)), (1, .int c), (2, .int (nI (iL18 + 1)))] 0 0 37 [.long (balM cl mem cof str pai sha sen nb c (nI (lowI (iL18 + 1)))), .long ((weiR (fun x => balM cl mem cof str pai sha sen nb c (nI x)) wgh iL18) (mns (iL18 + 1) (2 ^ lowI (iL18 + 1)))), .int (nI (iL18 + 1)), .ref (ad (m + 24))]
    refine g_ladd C d_M_weighAll_37 ?_
    refine g_topl (fun x18s38 ex18s38 => ?_)
    refine g_last (m + 24) 1 C hwL18s_7 rfl (vp_in_nI (by omega) (by decide)) d_M_weighAll_38 ?_
    rw [show Int32.toNatClampNeg (nI (iL18 + 1)) = (iL18 + 1) from nI_clamp (by omega)]
    obtain ⟨u18s2, hu18s2⟩ : ∃ z, z = gup wL18s (m + 24) (.inl ((X.2 1), 4096, .inr (.inl (vp_updL (weiR (fun x => balM cl mem cof str pai sha sen nb c (nI x)) wgh iL18) (iL18 + 1) x18s38)))) := ⟨_, rfl⟩
    rw [← hu18s2]
    have hu18s2_0 : u18s2 m = some (mO ad m 0 cl dr wy ce ra li bi) := by rw [hu18s2, gup_ne (by omega)]; exact hwL18s_0
    have hu18s2_1 : u18s2 (m + 1) = some (.inl ((X.2 0), 4, .inl mem)) := by rw [hu18s2, gup_ne (by omega)]; exact hwL18s_1
    have hu18s2_2 : u18s2 (m + 9) = some (.inl ((X.2 0), 64, .inl cof)) := by rw [hu18s2, gup_ne (by omega)]; exact hwL18s_2
    have hu18s2_3 : u18s2 (m + 11) = some (.inl ((X.2 2), 64, .inl str)) := by rw [hu18s2, gup_ne (by omega)]; exact hwL18s_3
    have hu18s2_4 : u18s2 (m + 15) = some (.inl ((X.2 1), 48, .inr (.inl sen))) := by rw [hu18s2, gup_ne (by omega)]; exact hwL18s_4
    have hu18s2_5 : u18s2 (m + 13) = some (.inl ((X.2 1), 768, .inr (.inl pai))) := by rw [hu18s2, gup_ne (by omega)]; exact hwL18s_5
    have hu18s2_6 : u18s2 (m + 12) = some (.inl ((X.2 1), 768, .inr (.inl sha))) := by rw [hu18s2, gup_ne (by omega)]; exact hwL18s_6
    have hu18s2_7 : u18s2 (m + 24) = some (.inl ((X.2 1), 4096, .inr (.inl (vp_updL (weiR (fun x => balM cl mem cof str pai sha sen nb c (nI x)) wgh iL18) (iL18 + 1) x18s38)))) := by rw [hu18s2]; exact gup_self _ _ _
    obtain ⟨x18s39, ex18s39⟩ : ∃ y : Int32, y = (nI (iL18 + 1)) + 1 := ⟨_, rfl⟩
    refine g_iinc (v := x18s39) C d_M_weighAll_39 3 rfl (by rw [ex18s39]; rfl) [(2, .int x18s39), (3, .int (nI (lowI (iL18 + 1)))), (0, .ref (ad m)), (1, .int c)] (by decide) rfl ?_
    refine g_goto 2 C d_M_weighAll_42 (by decide) ?_
    refine g_fewer (lv' := [(0, .ref (ad m)), (1, .int c), (2, .int x18s39)]) [2, 3, 0] rfl ?_
    refine GW_eq (u2 := gup u (m + 24) (.inl ((X.2 1), 4096, .inr (.inl (weiR (fun x => balM cl mem cof str pai sha sen nb c (nI x)) wgh (iL18 + 1)))))) (lv2 := [(0, .ref (ad m)), (1, .int c), (2, .int (nI (iL18 + 1 + 1)))]) ?_ ?_ (KL18 trivial)
    · first | (rw [hu18s2, hwL18s]; done) | (rw [hu18s2, hwL18s]; simp only [ex18s38, ex18s39]; done) | (rw [hu18s2, hwL18s]; simp only [ex18s38, ex18s39]; rw [gup_gup]; done) | (rw [hu18s2, hwL18s]; simp only [ex18s38, ex18s39]; rw [gup_gup]; rfl; done) | (rw [hu18s2, hwL18s]; simp only [ex18s38, ex18s39]; rw [gup_gup]; rfl; funext k; simp only [gup]; (repeat' split) <;> first | with_reducible rfl | (exfalso; omega))
    · simp only [ex18s38, ex18s39, nI_1]
  · skip
    show GW Z _ _ _ ad (gup u (m + 24) (.inl ((X.2 1), 4096, .inr (.inl (weiR (fun x => balM cl mem cof str pai sha sen nb c (nI x)) wgh 4095))))) _ [(0, .ref (ad m)), (1, .int c), (2, .int (nI (4095 + 1)))] _ _ 2 []
    obtain ⟨wL18e, hwL18e⟩ : ∃ z, z = gup u (m + 24) (.inl ((X.2 1), 4096, .inr (.inl (weiR (fun x => balM cl mem cof str pai sha sen nb c (nI x)) wgh 4095)))) := ⟨_, rfl⟩
    rw [← hwL18e]
    have hwL18e_0 : wL18e m = some (mO ad m 0 cl dr wy ce ra li bi) := by rw [hwL18e, gup_ne (by omega)]; exact hm
    have hwL18e_1 : wL18e (m + 1) = some (.inl ((X.2 0), 4, .inl mem)) := by rw [hwL18e, gup_ne (by omega)]; exact h_mem
    have hwL18e_2 : wL18e (m + 9) = some (.inl ((X.2 0), 64, .inl cof)) := by rw [hwL18e, gup_ne (by omega)]; exact h_cof
    have hwL18e_3 : wL18e (m + 11) = some (.inl ((X.2 2), 64, .inl str)) := by rw [hwL18e, gup_ne (by omega)]; exact h_str
    have hwL18e_4 : wL18e (m + 15) = some (.inl ((X.2 1), 48, .inr (.inl sen))) := by rw [hwL18e, gup_ne (by omega)]; exact h_sen
    have hwL18e_5 : wL18e (m + 13) = some (.inl ((X.2 1), 768, .inr (.inl pai))) := by rw [hwL18e, gup_ne (by omega)]; exact h_pai
    have hwL18e_6 : wL18e (m + 12) = some (.inl ((X.2 1), 768, .inr (.inl sha))) := by rw [hwL18e, gup_ne (by omega)]; exact h_sha
    have hwL18e_7 : wL18e (m + 24) = some (.inl ((X.2 1), 4096, .inr (.inl (weiR (fun x => balM cl mem cof str pai sha sen nb c (nI x)) wgh 4095)))) := by rw [hwL18e, gup_self]
    refine g_iload_n C d_M_weighAll_2 rfl 2 rfl ?_
    refine g_sipush (v := 4096) C d_M_weighAll_3 (by decide) ?_
    refine g_icmp_ge 45 C d_M_weighAll_6 (by decide) (fun c18e6 => ?_) (fun c18e6 => ?_)
    rotate_left
    · exact absurd (by decide) c18e6
    exact g_vret C hR hret ⟨rfl, (by first | (rw [hwL18e]; done) | (rw [hwL18e]; funext k; simp only [gup]; (repeat' split) <;> first | with_reducible rfl | (exfalso; omega))), rfl⟩ d_M_weighAll_45
