theorem manK {man : Nat → Int32} {c : Int32} (hc : vp_in c 4) (hman : ∀ j, j < 4 → ∃ n, n ≤ 11 ∧ man j = nI n) : man c.toNatClampNeg = nI (man c.toNatClampNeg).toNatClampNeg ∧ (man c.toNatClampNeg).toNatClampNeg ≤ 11 := by
  obtain ⟨j, h1, -, h3⟩ := vp_nat hc (by decide)
  obtain ⟨n, hn, e⟩ := hman j h1
  rw [h3, e, nI_clamp (by omega)]
  exact ⟨rfl, hn⟩
def untM (man tck : Nat → Int32) (c : Nat) : Int32 := untS tck c (man c).toNatClampNeg
def thrM (cl : Int32) (ope man : Nat → Int32) (c i w : Int32) : Int32 := if isTr cl ope man c i = false then 1 else if (!decide (w < 0) && decide (w ≤ 3)) = false then 2 else 0
def traM (cl : Int32) (ope man sds gts : Nat → Int32) (sms : Nat → Int64) (tck : Nat → Int32) (c i w : Int32) : Int64 :=
  if isTr cl ope man c i = false then 0 else if (!decide (w < 0) && decide (w ≤ 3)) = false then 0 else if w = 0 then (sds (11 * c.toNatClampNeg + i.toNatClampNeg)).toInt64 else if w = 1 then (gts (11 * c.toNatClampNeg + i.toNatClampNeg)).toInt64 else if w = 2 then sms (11 * c.toNatClampNeg + i.toNatClampNeg) else if tck (11 * c.toNatClampNeg + i.toNatClampNeg) = 0 then 0 else 1
def okTick (cl : Int32) (ope man tck : Nat → Int32) (c i : Int32) : Bool := isTr cl ope man c i && decide (tck (11 * c.toNatClampNeg + i.toNatClampNeg) = 0)
def okGive (cl : Int32) (ope : Nat → Int32) (c : Int32) : Bool := isMb c cl && !decide (ope c.toNatClampNeg = 0)
def okClose (cl : Int32) (ope man tck : Nat → Int32) (c : Int32) : Bool := isMb c cl && (!decide (ope c.toNatClampNeg = 0) && decide (untM man tck c.toNatClampNeg ≤ 0))
def couM (cl : Int32) (mem ope gps man tck mar : Nat → Int32) (c w : Int32) : Int32 :=
  if isMb c cl = false then -1 else if w = 0 then mem c.toNatClampNeg else if w = 1 then (if ope c.toNatClampNeg = 0 then -1 else gps c.toNatClampNeg) else if w = 2 then (if ope c.toNatClampNeg = 0 then -1 else untM man tck c.toNatClampNeg) else if w = 3 then mar c.toNatClampNeg else -1
def grpM (cl : Int32) (mem ope grp : Nat → Int32) (c x : Int32) : Int32 := if memM cl mem c x = true then (if ope c.toNatClampNeg = 0 then -1 else grp (12 * c.toNatClampNeg + x.toNatClampNeg)) else -1
set_option maxHeartbeats 4000000 in
set_option maxRecDepth 100000 in
theorem k_M_transfer (l : Launch) (X : gX) (ad : Nat → Nat) (u : gW) (sz : Nat) (m : Nat) (th cl dr wy ce ra li bi : Int32) (ope man sds gts tck : Nat → Int32) (sms : Nat → Int64) (c i w : Int32) (hm : u m = some (mO ad m th cl dr wy ce ra li bi)) (h_ope : u (m + 16) = some (.inl ((X.2 2), 4, .inl ope))) (h_man : u (m + 19) = some (.inl ((X.2 0), 4, .inl man))) (h_sds : u (m + 20) = some (.inl ((X.2 0), 44, .inl sds))) (h_gts : u (m + 21) = some (.inl ((X.2 0), 44, .inl gts))) (h_tck : u (m + 23) = some (.inl ((X.2 2), 44, .inl tck))) (h_sms : u (m + 22) = some (.inl ((X.2 1), 44, .inr (.inl sms)))) (hcl : cl ≤ 4) (hman : ∀ j, j < 4 → ∃ n, n ≤ 11 ∧ man j = nI n) : gMet l (EE X) y_M_transfer c_M_transfer 5 (some .long) ({ frames := 2, cells := 0, slots := 0, locals := 43 }) [.ref (ad m), .int c, .int i, .int w] ad u sz (fun v u' sz' => v = some (.long (traM cl ope man sds gts sms tck c i w)) ∧ u' = gup u m (mO ad m (thrM cl ope man c i w) cl dr wy ce ra li bi) ∧ sz' = sz) := by
  refine gMet_of "ExpenseClubsModel" rfl (by decide) (Nat.le_of_ble_eq_true rfl) (lv := [(0, .ref (ad m)), (1, .int c), (2, .int i), (3, .int w)]) rfl (fun Z hZl C hR hret hname => ?_)
  refine g_aload_n C d_M_transfer_0 rfl 0 rfl ?_
  refine g_aload_n C d_M_transfer_1 rfl 0 rfl ?_
  refine g_iload_n C d_M_transfer_2 rfl 1 rfl ?_
  refine g_iload_n C d_M_transfer_3 rfl 2 rfl ?_
  refine g_callV 2 C (k_M_isTransfer _ X ad u sz m th cl dr wy ce ra li bi ope man c i hm h_ope h_man hcl) (gmem wd_751 rfl) (gmem wd_753 rfl) (gmem ws_22 rfl) (gmem wd_4 rfl) (gmem wd_754 rfl) ⟨by decide, by decide, by decide +kernel⟩ ⟨Nat.le_of_ble_eq_true rfl, Nat.le_of_ble_eq_true rfl⟩ hm rfl rfl rfl (Nat.le_of_ble_eq_true rfl) d_M_transfer_4 ⟨Nat.le_of_ble_eq_true rfl, Nat.le_of_ble_eq_true rfl⟩ ?_
  rintro v9 u9 s9 ⟨h9, hu9, hs9⟩; rw [h9, hu9, hs9]; clear h9 hu9 hs9 v9 u9 s9
  show GW Z _ _ _ ad u sz [(0, .ref (ad m)), (1, .int c), (2, .int i), (3, .int w)] 0 0 7 [.int (bI (isTr cl ope man c i)), .ref (ad m)]
  refine g_if_ne 14 C d_M_transfer_7 (by decide) (fun c7 => ?_) (fun c7 => ?_)
  · skip
    refine g_iload_n C d_M_transfer_14 rfl 3 rfl ?_
    refine g_if_lt 23 C d_M_transfer_15 (by decide) (fun c15 => ?_) (fun c15 => ?_)
    · skip
      refine g_iconst (v := 2) C d_M_transfer_23 (by decide) ?_
      refine g_goto 28 C d_M_transfer_24 (by decide) ?_
      refine g_put m 0 C hm rfl i_M t_M t_M_ok n_M (by decide) (gmem wd_518 rfl) rfl rfl rfl rfl (Nat.le_of_ble_eq_true rfl) d_M_transfer_28 ?_
      show GW Z _ _ _ ad (gup u m (mO ad m 2 cl dr wy ce ra li bi)) _ _ _ _ _ _
      obtain ⟨u1, hu1⟩ : ∃ z, z = gup u m (mO ad m 2 cl dr wy ce ra li bi) := ⟨_, rfl⟩
      rw [← hu1]
      have hu1_0 : u1 m = some (mO ad m 2 cl dr wy ce ra li bi) := by rw [hu1]; exact gup_self _ _ _
      have hu1_1 : u1 (m + 16) = some (.inl ((X.2 2), 4, .inl ope)) := by rw [hu1, gup_ne (by omega)]; exact h_ope
      have hu1_2 : u1 (m + 19) = some (.inl ((X.2 0), 4, .inl man)) := by rw [hu1, gup_ne (by omega)]; exact h_man
      have hu1_3 : u1 (m + 20) = some (.inl ((X.2 0), 44, .inl sds)) := by rw [hu1, gup_ne (by omega)]; exact h_sds
      have hu1_4 : u1 (m + 21) = some (.inl ((X.2 0), 44, .inl gts)) := by rw [hu1, gup_ne (by omega)]; exact h_gts
      have hu1_5 : u1 (m + 23) = some (.inl ((X.2 2), 44, .inl tck)) := by rw [hu1, gup_ne (by omega)]; exact h_tck
      have hu1_6 : u1 (m + 22) = some (.inl ((X.2 1), 44, .inr (.inl sms))) := by rw [hu1, gup_ne (by omega)]; exact h_sms
      refine g_aload_n C d_M_transfer_31 rfl 0 rfl ?_
      refine g_get m 0 C hu1_0 rfl i_M (by decide) (gmem wd_518 rfl) rfl rfl d_M_transfer_32 ?_
      refine g_if_eq 40 C d_M_transfer_35 (by decide) (fun c35 => ?_) (fun c35 => ?_)
      · exact absurd c35 (by decide)
      refine g_lconst (v := 0) C d_M_transfer_38 (by decide) ?_
      exact g_lret C hR hret ⟨by simp only [traM, bI_ne0.mp c7, decide_eq_true c15, if_pos c15, Bool.not_true, Bool.not_false, Bool.and_true, Bool.true_and, Bool.false_and, Bool.and_false, bI_t, bI_f, if_true, if_false, reduceCtorEq], (by rw [show thrM cl ope man c i w = 2 from (by simp only [thrM, bI_ne0.mp c7, decide_eq_true c15, if_pos c15, Bool.not_true, Bool.not_false, Bool.and_true, Bool.true_and, Bool.false_and, Bool.and_false, bI_t, bI_f, if_true, if_false, reduceCtorEq])]; first | (rw [hu1]; done) | (rw [hu1]; funext k; simp only [gup]; (repeat' split) <;> first | with_reducible rfl | (exfalso; omega) | rfl)), rfl⟩ d_M_transfer_39
    · skip
      refine g_iload_n C d_M_transfer_18 rfl 3 rfl ?_
      refine g_iconst (v := 3) C d_M_transfer_19 (by decide) ?_
      refine g_icmp_le 27 C d_M_transfer_20 (by decide) (fun c20 => ?_) (fun c20 => ?_)
      · skip
        refine g_iconst (v := 0) C d_M_transfer_27 (by decide) ?_
        refine g_put m 0 C hm rfl i_M t_M t_M_ok n_M (by decide) (gmem wd_518 rfl) rfl rfl rfl rfl (Nat.le_of_ble_eq_true rfl) d_M_transfer_28 ?_
        show GW Z _ _ _ ad (gup u m (mO ad m 0 cl dr wy ce ra li bi)) _ _ _ _ _ _
        obtain ⟨u2, hu2⟩ : ∃ z, z = gup u m (mO ad m 0 cl dr wy ce ra li bi) := ⟨_, rfl⟩
        rw [← hu2]
        have hu2_0 : u2 m = some (mO ad m 0 cl dr wy ce ra li bi) := by rw [hu2]; exact gup_self _ _ _
        have hu2_1 : u2 (m + 16) = some (.inl ((X.2 2), 4, .inl ope)) := by rw [hu2, gup_ne (by omega)]; exact h_ope
        have hu2_2 : u2 (m + 19) = some (.inl ((X.2 0), 4, .inl man)) := by rw [hu2, gup_ne (by omega)]; exact h_man
        have hu2_3 : u2 (m + 20) = some (.inl ((X.2 0), 44, .inl sds)) := by rw [hu2, gup_ne (by omega)]; exact h_sds
        have hu2_4 : u2 (m + 21) = some (.inl ((X.2 0), 44, .inl gts)) := by rw [hu2, gup_ne (by omega)]; exact h_gts
        have hu2_5 : u2 (m + 23) = some (.inl ((X.2 2), 44, .inl tck)) := by rw [hu2, gup_ne (by omega)]; exact h_tck
        have hu2_6 : u2 (m + 22) = some (.inl ((X.2 1), 44, .inr (.inl sms))) := by rw [hu2, gup_ne (by omega)]; exact h_sms
        refine g_aload_n C d_M_transfer_31 rfl 0 rfl ?_
        refine g_get m 0 C hu2_0 rfl i_M (by decide) (gmem wd_518 rfl) rfl rfl d_M_transfer_32 ?_
        refine g_if_eq 40 C d_M_transfer_35 (by decide) (fun c35 => ?_) (fun c35 => ?_)
        rotate_left
        · exact absurd (by decide) c35
        refine g_bipush (v := 11) C d_M_transfer_40 (by decide) ?_
        refine g_iload_n C d_M_transfer_42 rfl 1 rfl ?_
        refine g_imul C d_M_transfer_43 ?_
        refine g_iload_n C d_M_transfer_44 rfl 2 rfl ?_
        refine g_iadd C d_M_transfer_45 ?_
        refine g_istore C d_M_transfer_46 [(4, .int ((11 * c) + i)), (0, .ref (ad m)), (1, .int c), (2, .int i), (3, .int w)] (by decide) rfl ?_
        refine g_iload_n C d_M_transfer_48 rfl 4 rfl ?_
        refine g_if_ne 63 C d_M_transfer_49 (by decide) (fun c49 => ?_) (fun c49 => ?_)
        · skip
          refine g_iload_n C d_M_transfer_63 rfl 4 rfl ?_
          refine g_iconst (v := 1) C d_M_transfer_64 (by decide) ?_
          refine g_icmp_ne 79 C d_M_transfer_65 (by decide) (fun c65 => ?_) (fun c65 => ?_)
          · skip
            refine g_iload_n C d_M_transfer_79 rfl 4 rfl ?_
            refine g_iconst (v := 2) C d_M_transfer_80 (by decide) ?_
            refine g_icmp_ne 94 C d_M_transfer_81 (by decide) (fun c81 => ?_) (fun c81 => ?_)
            · skip
              refine g_aload_n C d_M_transfer_94 rfl 1 rfl ?_
              refine g_get m 30 C hu2_0 rfl i_M (by decide) (gmem wd_548 rfl) rfl rfl d_M_transfer_95 ?_
              refine g_iload C d_M_transfer_98 0 rfl ?_
              refine g_zald (m + 23) 2 C hu2_5 rfl (in44x (isTr_c (bI_ne0.mp c7) hcl) (isTr_i (bI_ne0.mp c7) hcl hman)).1 d_M_transfer_100 ?_
              rw [show Int32.toNatClampNeg ((11 * c) + i) = 11 * c.toNatClampNeg + i.toNatClampNeg from (in44x (isTr_c (bI_ne0.mp c7) hcl) (isTr_i (bI_ne0.mp c7) hcl hman)).2]
              refine g_if_eq 108 C d_M_transfer_101 (by decide) (fun c101 => ?_) (fun c101 => ?_)
              · skip
                refine g_lconst (v := 0) C d_M_transfer_108 (by decide) ?_
                exact g_lret C hR hret ⟨by simp only [traM, bI_ne0.mp c7, decide_eq_false c15, if_neg c15, decide_eq_true c20, if_pos c20, decide_eq_false c49, if_neg c49, decide_eq_false c65, if_neg c65, decide_eq_false c81, if_neg c81, decide_eq_true c101, if_pos c101, Bool.not_true, Bool.not_false, Bool.and_true, Bool.true_and, Bool.false_and, Bool.and_false, bI_t, bI_f, if_true, if_false, reduceCtorEq], (by rw [show thrM cl ope man c i w = 0 from (by simp only [thrM, bI_ne0.mp c7, decide_eq_false c15, if_neg c15, decide_eq_true c20, if_pos c20, decide_eq_false c49, if_neg c49, decide_eq_false c65, if_neg c65, decide_eq_false c81, if_neg c81, decide_eq_true c101, if_pos c101, Bool.not_true, Bool.not_false, Bool.and_true, Bool.true_and, Bool.false_and, Bool.and_false, bI_t, bI_f, if_true, if_false, reduceCtorEq])]; first | (rw [hu2]; done) | (rw [hu2]; funext k; simp only [gup]; (repeat' split) <;> first | with_reducible rfl | (exfalso; omega) | rfl)), rfl⟩ d_M_transfer_109
              · skip
                refine g_lconst (v := 1) C d_M_transfer_104 (by decide) ?_
                refine g_goto 109 C d_M_transfer_105 (by decide) ?_
                exact g_lret C hR hret ⟨by simp only [traM, bI_ne0.mp c7, decide_eq_false c15, if_neg c15, decide_eq_true c20, if_pos c20, decide_eq_false c49, if_neg c49, decide_eq_false c65, if_neg c65, decide_eq_false c81, if_neg c81, decide_eq_false c101, if_neg c101, Bool.not_true, Bool.not_false, Bool.and_true, Bool.true_and, Bool.false_and, Bool.and_false, bI_t, bI_f, if_true, if_false, reduceCtorEq], (by rw [show thrM cl ope man c i w = 0 from (by simp only [thrM, bI_ne0.mp c7, decide_eq_false c15, if_neg c15, decide_eq_true c20, if_pos c20, decide_eq_false c49, if_neg c49, decide_eq_false c65, if_neg c65, decide_eq_false c81, if_neg c81, decide_eq_false c101, if_neg c101, Bool.not_true, Bool.not_false, Bool.and_true, Bool.true_and, Bool.false_and, Bool.and_false, bI_t, bI_f, if_true, if_false, reduceCtorEq])]; first | (rw [hu2]; done) | (rw [hu2]; funext k; simp only [gup]; (repeat' split) <;> first | with_reducible rfl | (exfalso; omega) | rfl)), rfl⟩ d_M_transfer_109
            · skip
              refine g_aload_n C d_M_transfer_84 rfl 1 rfl ?_
              refine g_get m 29 C hu2_0 rfl i_M (by decide) (gmem wd_547 rfl) rfl rfl d_M_transfer_85 ?_
              refine g_iload C d_M_transfer_88 0 rfl ?_
              refine g_lald (m + 22) 1 C hu2_6 rfl (in44x (isTr_c (bI_ne0.mp c7) hcl) (isTr_i (bI_ne0.mp c7) hcl hman)).1 d_M_transfer_90 ?_
              rw [show Int32.toNatClampNeg ((11 * c) + i) = 11 * c.toNatClampNeg + i.toNatClampNeg from (in44x (isTr_c (bI_ne0.mp c7) hcl) (isTr_i (bI_ne0.mp c7) hcl hman)).2]
              refine g_goto 109 C d_M_transfer_91 (by decide) ?_
              exact g_lret C hR hret ⟨by simp only [traM, bI_ne0.mp c7, decide_eq_false c15, if_neg c15, decide_eq_true c20, if_pos c20, decide_eq_false c49, if_neg c49, decide_eq_false c65, if_neg c65, decide_eq_true c81, if_pos c81, Bool.not_true, Bool.not_false, Bool.and_true, Bool.true_and, Bool.false_and, Bool.and_false, bI_t, bI_f, if_true, if_false, reduceCtorEq], (by rw [show thrM cl ope man c i w = 0 from (by simp only [thrM, bI_ne0.mp c7, decide_eq_false c15, if_neg c15, decide_eq_true c20, if_pos c20, decide_eq_false c49, if_neg c49, decide_eq_false c65, if_neg c65, decide_eq_true c81, if_pos c81, Bool.not_true, Bool.not_false, Bool.and_true, Bool.true_and, Bool.false_and, Bool.and_false, bI_t, bI_f, if_true, if_false, reduceCtorEq])]; first | (rw [hu2]; done) | (rw [hu2]; funext k; simp only [gup]; (repeat' split) <;> first | with_reducible rfl | (exfalso; omega) | rfl)), rfl⟩ d_M_transfer_109
          · skip
            refine g_aload_n C d_M_transfer_68 rfl 1 rfl ?_
            refine g_get m 28 C hu2_0 rfl i_M (by decide) (gmem wd_546 rfl) rfl rfl d_M_transfer_69 ?_
            refine g_iload C d_M_transfer_72 0 rfl ?_
            refine g_iald (m + 21) 0 C hu2_4 rfl (in44x (isTr_c (bI_ne0.mp c7) hcl) (isTr_i (bI_ne0.mp c7) hcl hman)).1 d_M_transfer_74 ?_
            rw [show Int32.toNatClampNeg ((11 * c) + i) = 11 * c.toNatClampNeg + i.toNatClampNeg from (in44x (isTr_c (bI_ne0.mp c7) hcl) (isTr_i (bI_ne0.mp c7) hcl hman)).2]
            refine g_i2l C d_M_transfer_75 ?_
            refine g_goto 109 C d_M_transfer_76 (by decide) ?_
            exact g_lret C hR hret ⟨by simp only [traM, bI_ne0.mp c7, decide_eq_false c15, if_neg c15, decide_eq_true c20, if_pos c20, decide_eq_false c49, if_neg c49, decide_eq_true c65, if_pos c65, Bool.not_true, Bool.not_false, Bool.and_true, Bool.true_and, Bool.false_and, Bool.and_false, bI_t, bI_f, if_true, if_false, reduceCtorEq], (by rw [show thrM cl ope man c i w = 0 from (by simp only [thrM, bI_ne0.mp c7, decide_eq_false c15, if_neg c15, decide_eq_true c20, if_pos c20, decide_eq_false c49, if_neg c49, decide_eq_true c65, if_pos c65, Bool.not_true, Bool.not_false, Bool.and_true, Bool.true_and, Bool.false_and, Bool.and_false, bI_t, bI_f, if_true, if_false, reduceCtorEq])]; first | (rw [hu2]; done) | (rw [hu2]; funext k; simp only [gup]; (repeat' split) <;> first | with_reducible rfl | (exfalso; omega) | rfl)), rfl⟩ d_M_transfer_109
        · skip
          refine g_aload_n C d_M_transfer_52 rfl 1 rfl ?_
          refine g_get m 27 C hu2_0 rfl i_M (by decide) (gmem wd_545 rfl) rfl rfl d_M_transfer_53 ?_
          refine g_iload C d_M_transfer_56 0 rfl ?_
          refine g_iald (m + 20) 0 C hu2_3 rfl (in44x (isTr_c (bI_ne0.mp c7) hcl) (isTr_i (bI_ne0.mp c7) hcl hman)).1 d_M_transfer_58 ?_
          rw [show Int32.toNatClampNeg ((11 * c) + i) = 11 * c.toNatClampNeg + i.toNatClampNeg from (in44x (isTr_c (bI_ne0.mp c7) hcl) (isTr_i (bI_ne0.mp c7) hcl hman)).2]
          refine g_i2l C d_M_transfer_59 ?_
          refine g_goto 109 C d_M_transfer_60 (by decide) ?_
          exact g_lret C hR hret ⟨by simp only [traM, bI_ne0.mp c7, decide_eq_false c15, if_neg c15, decide_eq_true c20, if_pos c20, decide_eq_true c49, if_pos c49, Bool.not_true, Bool.not_false, Bool.and_true, Bool.true_and, Bool.false_and, Bool.and_false, bI_t, bI_f, if_true, if_false, reduceCtorEq], (by rw [show thrM cl ope man c i w = 0 from (by simp only [thrM, bI_ne0.mp c7, decide_eq_false c15, if_neg c15, decide_eq_true c20, if_pos c20, decide_eq_true c49, if_pos c49, Bool.not_true, Bool.not_false, Bool.and_true, Bool.true_and, Bool.false_and, Bool.and_false, bI_t, bI_f, if_true, if_false, reduceCtorEq])]; first | (rw [hu2]; done) | (rw [hu2]; funext k; simp only [gup]; (repeat' split) <;> first | with_reducible rfl | (exfalso; omega) | rfl)), rfl⟩ d_M_transfer_109
      · skip
        refine g_iconst (v := 2) C d_M_transfer_23 (by decide) ?_
        refine g_goto 28 C d_M_transfer_24 (by decide) ?_
        refine g_put m 0 C hm rfl i_M t_M t_M_ok n_M (by decide) (gmem wd_518 rfl) rfl rfl rfl rfl (Nat.le_of_ble_eq_true rfl) d_M_transfer_28 ?_
        show GW Z _ _ _ ad (gup u m (mO ad m 2 cl dr wy ce ra li bi)) _ _ _ _ _ _
        obtain ⟨u3, hu3⟩ : ∃ z, z = gup u m (mO ad m 2 cl dr wy ce ra li bi) := ⟨_, rfl⟩
        rw [← hu3]
        have hu3_0 : u3 m = some (mO ad m 2 cl dr wy ce ra li bi) := by rw [hu3]; exact gup_self _ _ _
        have hu3_1 : u3 (m + 16) = some (.inl ((X.2 2), 4, .inl ope)) := by rw [hu3, gup_ne (by omega)]; exact h_ope
        have hu3_2 : u3 (m + 19) = some (.inl ((X.2 0), 4, .inl man)) := by rw [hu3, gup_ne (by omega)]; exact h_man
        have hu3_3 : u3 (m + 20) = some (.inl ((X.2 0), 44, .inl sds)) := by rw [hu3, gup_ne (by omega)]; exact h_sds
        have hu3_4 : u3 (m + 21) = some (.inl ((X.2 0), 44, .inl gts)) := by rw [hu3, gup_ne (by omega)]; exact h_gts
        have hu3_5 : u3 (m + 23) = some (.inl ((X.2 2), 44, .inl tck)) := by rw [hu3, gup_ne (by omega)]; exact h_tck
        have hu3_6 : u3 (m + 22) = some (.inl ((X.2 1), 44, .inr (.inl sms))) := by rw [hu3, gup_ne (by omega)]; exact h_sms
        refine g_aload_n C d_M_transfer_31 rfl 0 rfl ?_
        refine g_get m 0 C hu3_0 rfl i_M (by decide) (gmem wd_518 rfl) rfl rfl d_M_transfer_32 ?_
        refine g_if_eq 40 C d_M_transfer_35 (by decide) (fun c35 => ?_) (fun c35 => ?_)
        · exact absurd c35 (by decide)
        refine g_lconst (v := 0) C d_M_transfer_38 (by decide) ?_
        exact g_lret C hR hret ⟨by simp only [traM, bI_ne0.mp c7, decide_eq_false c15, if_neg c15, decide_eq_false c20, if_neg c20, Bool.not_true, Bool.not_false, Bool.and_true, Bool.true_and, Bool.false_and, Bool.and_false, bI_t, bI_f, if_true, if_false, reduceCtorEq], (by rw [show thrM cl ope man c i w = 2 from (by simp only [thrM, bI_ne0.mp c7, decide_eq_false c15, if_neg c15, decide_eq_false c20, if_neg c20, Bool.not_true, Bool.not_false, Bool.and_true, Bool.true_and, Bool.false_and, Bool.and_false, bI_t, bI_f, if_true, if_false, reduceCtorEq])]; first | (rw [hu3]; done) | (rw [hu3]; funext k; simp only [gup]; (repeat' split) <;> first | with_reducible rfl | (exfalso; omega) | rfl)), rfl⟩ d_M_transfer_39
  · skip
    refine g_iconst (v := 1) C d_M_transfer_10 (by decide) ?_
    refine g_goto 28 C d_M_transfer_11 (by decide) ?_
    refine g_put m 0 C hm rfl i_M t_M t_M_ok n_M (by decide) (gmem wd_518 rfl) rfl rfl rfl rfl (Nat.le_of_ble_eq_true rfl) d_M_transfer_28 ?_
    show GW Z _ _ _ ad (gup u m (mO ad m 1 cl dr wy ce ra li bi)) _ _ _ _ _ _
    obtain ⟨u4, hu4⟩ : ∃ z, z = gup u m (mO ad m 1 cl dr wy ce ra li bi) := ⟨_, rfl⟩
    rw [← hu4]
    have hu4_0 : u4 m = some (mO ad m 1 cl dr wy ce ra li bi) := by rw [hu4]; exact gup_self _ _ _
    have hu4_1 : u4 (m + 16) = some (.inl ((X.2 2), 4, .inl ope)) := by rw [hu4, gup_ne (by omega)]; exact h_ope
    have hu4_2 : u4 (m + 19) = some (.inl ((X.2 0), 4, .inl man)) := by rw [hu4, gup_ne (by omega)]; exact h_man
    have hu4_3 : u4 (m + 20) = some (.inl ((X.2 0), 44, .inl sds)) := by rw [hu4, gup_ne (by omega)]; exact h_sds
    have hu4_4 : u4 (m + 21) = some (.inl ((X.2 0), 44, .inl gts)) := by rw [hu4, gup_ne (by omega)]; exact h_gts
    have hu4_5 : u4 (m + 23) = some (.inl ((X.2 2), 44, .inl tck)) := by rw [hu4, gup_ne (by omega)]; exact h_tck
    have hu4_6 : u4 (m + 22) = some (.inl ((X.2 1), 44, .inr (.inl sms))) := by rw [hu4, gup_ne (by omega)]; exact h_sms
    refine g_aload_n C d_M_transfer_31 rfl 0 rfl ?_
    refine g_get m 0 C hu4_0 rfl i_M (by decide) (gmem wd_518 rfl) rfl rfl d_M_transfer_32 ?_
    refine g_if_eq 40 C d_M_transfer_35 (by decide) (fun c35 => ?_) (fun c35 => ?_)
    · exact absurd c35 (by decide)
    refine g_lconst (v := 0) C d_M_transfer_38 (by decide) ?_
    exact g_lret C hR hret ⟨by simp only [traM, bI_eq0.mp c7, Bool.not_true, Bool.not_false, Bool.and_true, Bool.true_and, Bool.false_and, Bool.and_false, bI_t, bI_f, if_true, if_false, reduceCtorEq], (by rw [show thrM cl ope man c i w = 1 from (by simp only [thrM, bI_eq0.mp c7, Bool.not_true, Bool.not_false, Bool.and_true, Bool.true_and, Bool.false_and, Bool.and_false, bI_t, bI_f, if_true, if_false, reduceCtorEq])]; first | (rw [hu4]; done) | (rw [hu4]; funext k; simp only [gup]; (repeat' split) <;> first | with_reducible rfl | (exfalso; omega) | rfl)), rfl⟩ d_M_transfer_39

set_option maxHeartbeats 4000000 in
set_option maxRecDepth 100000 in
theorem k_M_tick (l : Launch) (X : gX) (ad : Nat → Nat) (u : gW) (sz : Nat) (m : Nat) (th cl dr wy ce ra li bi : Int32) (ope man sds gts tck : Nat → Int32) (sen sms : Nat → Int64) (c i : Int32) (hm : u m = some (mO ad m th cl dr wy ce ra li bi)) (h_ope : u (m + 16) = some (.inl ((X.2 2), 4, .inl ope))) (h_man : u (m + 19) = some (.inl ((X.2 0), 4, .inl man))) (h_sds : u (m + 20) = some (.inl ((X.2 0), 44, .inl sds))) (h_gts : u (m + 21) = some (.inl ((X.2 0), 44, .inl gts))) (h_tck : u (m + 23) = some (.inl ((X.2 2), 44, .inl tck))) (h_sen : u (m + 15) = some (.inl ((X.2 1), 48, .inr (.inl sen)))) (h_sms : u (m + 22) = some (.inl ((X.2 1), 44, .inr (.inl sms)))) (hcl : cl ≤ 4) (hman : ∀ j, j < 4 → ∃ n, n ≤ 11 ∧ man j = nI n) (hsd : ∀ j, vp_in (sds j) 12) (hgt : ∀ j, vp_in (gts j) 12) : gMet l (EE X) y_M_tick c_M_tick 4 (some .boolean) ({ frames := 2, cells := 0, slots := 0, locals := 43 }) [.ref (ad m), .int c, .int i] ad u sz (fun v u' sz' => sz' = sz ∧ ((okTick cl ope man tck c i = true ∧ v = some (.int 1) ∧ u' = gup (gup (gup u m (mO ad m 0 cl dr wy ce ra li bi)) (m + 23) (.inl ((X.2 2), 44, .inl (upd tck (11 * c.toNatClampNeg + i.toNatClampNeg) 1)))) (m + 15) (.inl ((X.2 1), 48, .inr (.inl (vp_updL (vp_updL sen (12 * c.toNatClampNeg + (sds (11 * c.toNatClampNeg + i.toNatClampNeg)).toNatClampNeg) (sen (12 * c.toNatClampNeg + (sds (11 * c.toNatClampNeg + i.toNatClampNeg)).toNatClampNeg) + sms (11 * c.toNatClampNeg + i.toNatClampNeg))) (12 * c.toNatClampNeg + (gts (11 * c.toNatClampNeg + i.toNatClampNeg)).toNatClampNeg) ((vp_updL sen (12 * c.toNatClampNeg + (sds (11 * c.toNatClampNeg + i.toNatClampNeg)).toNatClampNeg) (sen (12 * c.toNatClampNeg + (sds (11 * c.toNatClampNeg + i.toNatClampNeg)).toNatClampNeg) + sms (11 * c.toNatClampNeg + i.toNatClampNeg))) (12 * c.toNatClampNeg + (gts (11 * c.toNatClampNeg + i.toNatClampNeg)).toNatClampNeg) - sms (11 * c.toNatClampNeg + i.toNatClampNeg))))))) ∨ (okTick cl ope man tck c i = false ∧ v = some (.int 0) ∧ u' = gup u m (mO ad m 0 cl dr wy ce ra li bi)))) := by
  refine gMet_of "ExpenseClubsModel" rfl (by decide) (Nat.le_of_ble_eq_true rfl) (lv := [(0, .ref (ad m)), (1, .int c), (2, .int i)]) rfl (fun Z hZl C hR hret hname => ?_)
  refine g_aload_n C d_M_tick_0 rfl 0 rfl ?_
  refine g_iconst (v := 0) C d_M_tick_1 (by decide) ?_
  refine g_put m 0 C hm rfl i_M t_M t_M_ok n_M (by decide) (gmem wd_518 rfl) rfl rfl rfl rfl (Nat.le_of_ble_eq_true rfl) d_M_tick_2 ?_
  show GW Z _ _ _ ad (gup u m (mO ad m 0 cl dr wy ce ra li bi)) _ _ _ _ _ _
  obtain ⟨u1, hu1⟩ : ∃ z, z = gup u m (mO ad m 0 cl dr wy ce ra li bi) := ⟨_, rfl⟩
  rw [← hu1]
  have hu1_0 : u1 m = some (mO ad m 0 cl dr wy ce ra li bi) := by rw [hu1]; exact gup_self _ _ _
  have hu1_1 : u1 (m + 16) = some (.inl ((X.2 2), 4, .inl ope)) := by rw [hu1, gup_ne (by omega)]; exact h_ope
  have hu1_2 : u1 (m + 19) = some (.inl ((X.2 0), 4, .inl man)) := by rw [hu1, gup_ne (by omega)]; exact h_man
  have hu1_3 : u1 (m + 20) = some (.inl ((X.2 0), 44, .inl sds)) := by rw [hu1, gup_ne (by omega)]; exact h_sds
  have hu1_4 : u1 (m + 21) = some (.inl ((X.2 0), 44, .inl gts)) := by rw [hu1, gup_ne (by omega)]; exact h_gts
  have hu1_5 : u1 (m + 23) = some (.inl ((X.2 2), 44, .inl tck)) := by rw [hu1, gup_ne (by omega)]; exact h_tck
  have hu1_6 : u1 (m + 15) = some (.inl ((X.2 1), 48, .inr (.inl sen))) := by rw [hu1, gup_ne (by omega)]; exact h_sen
  have hu1_7 : u1 (m + 22) = some (.inl ((X.2 1), 44, .inr (.inl sms))) := by rw [hu1, gup_ne (by omega)]; exact h_sms
  refine g_aload_n C d_M_tick_5 rfl 0 rfl ?_
  refine g_iload_n C d_M_tick_6 rfl 1 rfl ?_
  refine g_iload_n C d_M_tick_7 rfl 2 rfl ?_
  refine g_callV 2 C (k_M_isTransfer _ X ad u1 sz m 0 cl dr wy ce ra li bi ope man c i hu1_0 hu1_1 hu1_2 hcl) (gmem wd_751 rfl) (gmem wd_753 rfl) (gmem ws_22 rfl) (gmem wd_4 rfl) (gmem wd_754 rfl) ⟨by decide, by decide, by decide +kernel⟩ ⟨Nat.le_of_ble_eq_true rfl, Nat.le_of_ble_eq_true rfl⟩ hu1_0 rfl rfl rfl (Nat.le_of_ble_eq_true rfl) d_M_tick_8 ⟨Nat.le_of_ble_eq_true rfl, Nat.le_of_ble_eq_true rfl⟩ ?_
  rintro v9 u9 s9 ⟨h9, hu9, hs9⟩; rw [h9, hu9, hs9]; clear h9 hu9 hs9 v9 u9 s9
  show GW Z _ _ _ ad u1 sz [(0, .ref (ad m)), (1, .int c), (2, .int i)] 0 0 11 [.int (bI (isTr cl ope man c i))]
  refine g_if_eq 28 C d_M_tick_11 (by decide) (fun c11 => ?_) (fun c11 => ?_)
  · skip
    refine g_iconst (v := 0) C d_M_tick_28 (by decide) ?_
    exact g_zret C hR hret rfl ⟨rfl, Or.inr ⟨by simp only [okTick, bI_eq0.mp c11, Bool.not_true, Bool.not_false, Bool.and_true, Bool.true_and, Bool.false_and, Bool.and_false, bI_t, bI_f], rfl, (by first | (rw [hu1]; done) | (rw [hu1]; funext k; simp only [gup]; (repeat' split) <;> first | with_reducible rfl | (exfalso; omega) | rfl))⟩⟩ d_M_tick_29
  · skip
    refine g_aload_n C d_M_tick_14 rfl 0 rfl ?_
    refine g_get m 30 C hu1_0 rfl i_M (by decide) (gmem wd_548 rfl) rfl rfl d_M_tick_15 ?_
    refine g_bipush (v := 11) C d_M_tick_18 (by decide) ?_
    refine g_iload_n C d_M_tick_20 rfl 1 rfl ?_
    refine g_imul C d_M_tick_21 ?_
    refine g_iload_n C d_M_tick_22 rfl 2 rfl ?_
    refine g_iadd C d_M_tick_23 ?_
    refine g_zald (m + 23) 2 C hu1_5 rfl (in44x (isTr_c (bI_ne0.mp c11) hcl) (isTr_i (bI_ne0.mp c11) hcl hman)).1 d_M_tick_24 ?_
    rw [show Int32.toNatClampNeg ((11 * c) + i) = 11 * c.toNatClampNeg + i.toNatClampNeg from (in44x (isTr_c (bI_ne0.mp c11) hcl) (isTr_i (bI_ne0.mp c11) hcl hman)).2]
    refine g_if_eq 30 C d_M_tick_25 (by decide) (fun c25 => ?_) (fun c25 => ?_)
    · skip
      refine g_bipush (v := 11) C d_M_tick_30 (by decide) ?_
      refine g_iload_n C d_M_tick_32 rfl 1 rfl ?_
      refine g_imul C d_M_tick_33 ?_
      refine g_iload_n C d_M_tick_34 rfl 2 rfl ?_
      refine g_iadd C d_M_tick_35 ?_
      refine g_istore_n C d_M_tick_36 rfl [(3, .int ((11 * c) + i)), (0, .ref (ad m)), (1, .int c), (2, .int i)] (by decide) rfl ?_
      refine g_aload_n C d_M_tick_37 rfl 1 rfl ?_
      refine g_get m 30 C hu1_0 rfl i_M (by decide) (gmem wd_548 rfl) rfl rfl d_M_tick_38 ?_
      refine g_iload_n C d_M_tick_41 rfl 0 rfl ?_
      refine g_iconst (v := 1) C d_M_tick_42 (by decide) ?_
      refine g_zast (m + 23) 2 C hu1_5 rfl (in44x (isTr_c (bI_ne0.mp c11) hcl) (isTr_i (bI_ne0.mp c11) hcl hman)).1 d_M_tick_43 ?_
      rw [show Int32.toNatClampNeg ((11 * c) + i) = 11 * c.toNatClampNeg + i.toNatClampNeg from (in44x (isTr_c (bI_ne0.mp c11) hcl) (isTr_i (bI_ne0.mp c11) hcl hman)).2]
      rw [show vp_nar .boolean 1 = 1 from rfl]
      obtain ⟨u2, hu2⟩ : ∃ z, z = gup u1 (m + 23) (.inl ((X.2 2), 44, .inl (upd tck (11 * c.toNatClampNeg + i.toNatClampNeg) 1))) := ⟨_, rfl⟩
      rw [← hu2]
      have hu2_0 : u2 m = some (mO ad m 0 cl dr wy ce ra li bi) := by rw [hu2, gup_ne (by omega)]; exact hu1_0
      have hu2_1 : u2 (m + 16) = some (.inl ((X.2 2), 4, .inl ope)) := by rw [hu2, gup_ne (by omega)]; exact hu1_1
      have hu2_2 : u2 (m + 19) = some (.inl ((X.2 0), 4, .inl man)) := by rw [hu2, gup_ne (by omega)]; exact hu1_2
      have hu2_3 : u2 (m + 20) = some (.inl ((X.2 0), 44, .inl sds)) := by rw [hu2, gup_ne (by omega)]; exact hu1_3
      have hu2_4 : u2 (m + 21) = some (.inl ((X.2 0), 44, .inl gts)) := by rw [hu2, gup_ne (by omega)]; exact hu1_4
      have hu2_5 : u2 (m + 23) = some (.inl ((X.2 2), 44, .inl (upd tck (11 * c.toNatClampNeg + i.toNatClampNeg) 1))) := by rw [hu2]; exact gup_self _ _ _
      have hu2_6 : u2 (m + 15) = some (.inl ((X.2 1), 48, .inr (.inl sen))) := by rw [hu2, gup_ne (by omega)]; exact hu1_6
      have hu2_7 : u2 (m + 22) = some (.inl ((X.2 1), 44, .inr (.inl sms))) := by rw [hu2, gup_ne (by omega)]; exact hu1_7
      refine g_aload_n C d_M_tick_44 rfl 1 rfl ?_
      refine g_get m 22 C hu2_0 rfl i_M (by decide) (gmem wd_540 rfl) rfl rfl d_M_tick_45 ?_
      refine g_bipush (v := 12) C d_M_tick_48 (by decide) ?_
      refine g_iload_n C d_M_tick_50 rfl 2 rfl ?_
      refine g_imul C d_M_tick_51 ?_
      refine g_aload_n C d_M_tick_52 rfl 1 rfl ?_
      refine g_get m 27 C hu2_0 rfl i_M (by decide) (gmem wd_545 rfl) rfl rfl d_M_tick_53 ?_
      refine g_iload_n C d_M_tick_56 rfl 0 rfl ?_
      refine g_iald (m + 20) 0 C hu2_3 rfl (in44x (isTr_c (bI_ne0.mp c11) hcl) (isTr_i (bI_ne0.mp c11) hcl hman)).1 d_M_tick_57 ?_
      rw [show Int32.toNatClampNeg ((11 * c) + i) = 11 * c.toNatClampNeg + i.toNatClampNeg from (in44x (isTr_c (bI_ne0.mp c11) hcl) (isTr_i (bI_ne0.mp c11) hcl hman)).2]
      refine g_iadd C d_M_tick_58 ?_
      refine g_dup2_11 C d_M_tick_59 rfl rfl ?_
      refine g_lald (m + 15) 1 C hu2_6 rfl (in48 (isTr_c (bI_ne0.mp c11) hcl) (hsd (11 * c.toNatClampNeg + i.toNatClampNeg))).1 d_M_tick_60 ?_
      rw [show Int32.toNatClampNeg ((12 * c) + (sds (11 * c.toNatClampNeg + i.toNatClampNeg))) = 12 * c.toNatClampNeg + (sds (11 * c.toNatClampNeg + i.toNatClampNeg)).toNatClampNeg from (in48 (isTr_c (bI_ne0.mp c11) hcl) (hsd (11 * c.toNatClampNeg + i.toNatClampNeg))).2]
      refine g_aload_n C d_M_tick_61 rfl 1 rfl ?_
      refine g_get m 29 C hu2_0 rfl i_M (by decide) (gmem wd_547 rfl) rfl rfl d_M_tick_62 ?_
      refine g_iload_n C d_M_tick_65 rfl 0 rfl ?_
      refine g_lald (m + 22) 1 C hu2_7 rfl (in44x (isTr_c (bI_ne0.mp c11) hcl) (isTr_i (bI_ne0.mp c11) hcl hman)).1 d_M_tick_66 ?_
      rw [show Int32.toNatClampNeg ((11 * c) + i) = 11 * c.toNatClampNeg + i.toNatClampNeg from (in44x (isTr_c (bI_ne0.mp c11) hcl) (isTr_i (bI_ne0.mp c11) hcl hman)).2]
      refine g_ladd C d_M_tick_67 ?_
      refine g_last (m + 15) 1 C hu2_6 rfl (in48 (isTr_c (bI_ne0.mp c11) hcl) (hsd (11 * c.toNatClampNeg + i.toNatClampNeg))).1 d_M_tick_68 ?_
      rw [show Int32.toNatClampNeg ((12 * c) + (sds (11 * c.toNatClampNeg + i.toNatClampNeg))) = 12 * c.toNatClampNeg + (sds (11 * c.toNatClampNeg + i.toNatClampNeg)).toNatClampNeg from (in48 (isTr_c (bI_ne0.mp c11) hcl) (hsd (11 * c.toNatClampNeg + i.toNatClampNeg))).2]
      obtain ⟨u3, hu3⟩ : ∃ z, z = gup u2 (m + 15) (.inl ((X.2 1), 48, .inr (.inl (vp_updL sen (12 * c.toNatClampNeg + (sds (11 * c.toNatClampNeg + i.toNatClampNeg)).toNatClampNeg) ((sen (12 * c.toNatClampNeg + (sds (11 * c.toNatClampNeg + i.toNatClampNeg)).toNatClampNeg)) + (sms (11 * c.toNatClampNeg + i.toNatClampNeg))))))) := ⟨_, rfl⟩
      rw [← hu3]
      have hu3_0 : u3 m = some (mO ad m 0 cl dr wy ce ra li bi) := by rw [hu3, gup_ne (by omega)]; exact hu2_0
      have hu3_1 : u3 (m + 16) = some (.inl ((X.2 2), 4, .inl ope)) := by rw [hu3, gup_ne (by omega)]; exact hu2_1
      have hu3_2 : u3 (m + 19) = some (.inl ((X.2 0), 4, .inl man)) := by rw [hu3, gup_ne (by omega)]; exact hu2_2
      have hu3_3 : u3 (m + 20) = some (.inl ((X.2 0), 44, .inl sds)) := by rw [hu3, gup_ne (by omega)]; exact hu2_3
      have hu3_4 : u3 (m + 21) = some (.inl ((X.2 0), 44, .inl gts)) := by rw [hu3, gup_ne (by omega)]; exact hu2_4
      have hu3_5 : u3 (m + 23) = some (.inl ((X.2 2), 44, .inl (upd tck (11 * c.toNatClampNeg + i.toNatClampNeg) 1))) := by rw [hu3, gup_ne (by omega)]; exact hu2_5
      have hu3_6 : u3 (m + 15) = some (.inl ((X.2 1), 48, .inr (.inl (vp_updL sen (12 * c.toNatClampNeg + (sds (11 * c.toNatClampNeg + i.toNatClampNeg)).toNatClampNeg) ((sen (12 * c.toNatClampNeg + (sds (11 * c.toNatClampNeg + i.toNatClampNeg)).toNatClampNeg)) + (sms (11 * c.toNatClampNeg + i.toNatClampNeg))))))) := by rw [hu3]; exact gup_self _ _ _
      have hu3_7 : u3 (m + 22) = some (.inl ((X.2 1), 44, .inr (.inl sms))) := by rw [hu3, gup_ne (by omega)]; exact hu2_7
      refine g_aload_n C d_M_tick_69 rfl 1 rfl ?_
      refine g_get m 22 C hu3_0 rfl i_M (by decide) (gmem wd_540 rfl) rfl rfl d_M_tick_70 ?_
      refine g_bipush (v := 12) C d_M_tick_73 (by decide) ?_
      refine g_iload_n C d_M_tick_75 rfl 2 rfl ?_
      refine g_imul C d_M_tick_76 ?_
      refine g_aload_n C d_M_tick_77 rfl 1 rfl ?_
      refine g_get m 28 C hu3_0 rfl i_M (by decide) (gmem wd_546 rfl) rfl rfl d_M_tick_78 ?_
      refine g_iload_n C d_M_tick_81 rfl 0 rfl ?_
      refine g_iald (m + 21) 0 C hu3_4 rfl (in44x (isTr_c (bI_ne0.mp c11) hcl) (isTr_i (bI_ne0.mp c11) hcl hman)).1 d_M_tick_82 ?_
      rw [show Int32.toNatClampNeg ((11 * c) + i) = 11 * c.toNatClampNeg + i.toNatClampNeg from (in44x (isTr_c (bI_ne0.mp c11) hcl) (isTr_i (bI_ne0.mp c11) hcl hman)).2]
      refine g_iadd C d_M_tick_83 ?_
      refine g_dup2_11 C d_M_tick_84 rfl rfl ?_
      refine g_lald (m + 15) 1 C hu3_6 rfl (in48 (isTr_c (bI_ne0.mp c11) hcl) (hgt (11 * c.toNatClampNeg + i.toNatClampNeg))).1 d_M_tick_85 ?_
      rw [show Int32.toNatClampNeg ((12 * c) + (gts (11 * c.toNatClampNeg + i.toNatClampNeg))) = 12 * c.toNatClampNeg + (gts (11 * c.toNatClampNeg + i.toNatClampNeg)).toNatClampNeg from (in48 (isTr_c (bI_ne0.mp c11) hcl) (hgt (11 * c.toNatClampNeg + i.toNatClampNeg))).2]
      refine g_aload_n C d_M_tick_86 rfl 1 rfl ?_
      refine g_get m 29 C hu3_0 rfl i_M (by decide) (gmem wd_547 rfl) rfl rfl d_M_tick_87 ?_
      refine g_iload_n C d_M_tick_90 rfl 0 rfl ?_
      refine g_lald (m + 22) 1 C hu3_7 rfl (in44x (isTr_c (bI_ne0.mp c11) hcl) (isTr_i (bI_ne0.mp c11) hcl hman)).1 d_M_tick_91 ?_
      rw [show Int32.toNatClampNeg ((11 * c) + i) = 11 * c.toNatClampNeg + i.toNatClampNeg from (in44x (isTr_c (bI_ne0.mp c11) hcl) (isTr_i (bI_ne0.mp c11) hcl hman)).2]
      refine g_lsub C d_M_tick_92 ?_
      refine g_last (m + 15) 1 C hu3_6 rfl (in48 (isTr_c (bI_ne0.mp c11) hcl) (hgt (11 * c.toNatClampNeg + i.toNatClampNeg))).1 d_M_tick_93 ?_
      rw [show Int32.toNatClampNeg ((12 * c) + (gts (11 * c.toNatClampNeg + i.toNatClampNeg))) = 12 * c.toNatClampNeg + (gts (11 * c.toNatClampNeg + i.toNatClampNeg)).toNatClampNeg from (in48 (isTr_c (bI_ne0.mp c11) hcl) (hgt (11 * c.toNatClampNeg + i.toNatClampNeg))).2]
      obtain ⟨u4, hu4⟩ : ∃ z, z = gup u3 (m + 15) (.inl ((X.2 1), 48, .inr (.inl (vp_updL (vp_updL sen (12 * c.toNatClampNeg + (sds (11 * c.toNatClampNeg + i.toNatClampNeg)).toNatClampNeg) ((sen (12 * c.toNatClampNeg + (sds (11 * c.toNatClampNeg + i.toNatClampNeg)).toNatClampNeg)) + (sms (11 * c.toNatClampNeg + i.toNatClampNeg)))) (12 * c.toNatClampNeg + (gts (11 * c.toNatClampNeg + i.toNatClampNeg)).toNatClampNeg) (((vp_updL sen (12 * c.toNatClampNeg + (sds (11 * c.toNatClampNeg + i.toNatClampNeg)).toNatClampNeg) ((sen (12 * c.toNatClampNeg + (sds (11 * c.toNatClampNeg + i.toNatClampNeg)).toNatClampNeg)) + (sms (11 * c.toNatClampNeg + i.toNatClampNeg)))) (12 * c.toNatClampNeg + (gts (11 * c.toNatClampNeg + i.toNatClampNeg)).toNatClampNeg)) - (sms (11 * c.toNatClampNeg + i.toNatClampNeg))))))) := ⟨_, rfl⟩
      rw [← hu4]
      have hu4_0 : u4 m = some (mO ad m 0 cl dr wy ce ra li bi) := by rw [hu4, gup_ne (by omega)]; exact hu3_0
      have hu4_1 : u4 (m + 16) = some (.inl ((X.2 2), 4, .inl ope)) := by rw [hu4, gup_ne (by omega)]; exact hu3_1
      have hu4_2 : u4 (m + 19) = some (.inl ((X.2 0), 4, .inl man)) := by rw [hu4, gup_ne (by omega)]; exact hu3_2
      have hu4_3 : u4 (m + 20) = some (.inl ((X.2 0), 44, .inl sds)) := by rw [hu4, gup_ne (by omega)]; exact hu3_3
      have hu4_4 : u4 (m + 21) = some (.inl ((X.2 0), 44, .inl gts)) := by rw [hu4, gup_ne (by omega)]; exact hu3_4
      have hu4_5 : u4 (m + 23) = some (.inl ((X.2 2), 44, .inl (upd tck (11 * c.toNatClampNeg + i.toNatClampNeg) 1))) := by rw [hu4, gup_ne (by omega)]; exact hu3_5
      have hu4_6 : u4 (m + 15) = some (.inl ((X.2 1), 48, .inr (.inl (vp_updL (vp_updL sen (12 * c.toNatClampNeg + (sds (11 * c.toNatClampNeg + i.toNatClampNeg)).toNatClampNeg) ((sen (12 * c.toNatClampNeg + (sds (11 * c.toNatClampNeg + i.toNatClampNeg)).toNatClampNeg)) + (sms (11 * c.toNatClampNeg + i.toNatClampNeg)))) (12 * c.toNatClampNeg + (gts (11 * c.toNatClampNeg + i.toNatClampNeg)).toNatClampNeg) (((vp_updL sen (12 * c.toNatClampNeg + (sds (11 * c.toNatClampNeg + i.toNatClampNeg)).toNatClampNeg) ((sen (12 * c.toNatClampNeg + (sds (11 * c.toNatClampNeg + i.toNatClampNeg)).toNatClampNeg)) + (sms (11 * c.toNatClampNeg + i.toNatClampNeg)))) (12 * c.toNatClampNeg + (gts (11 * c.toNatClampNeg + i.toNatClampNeg)).toNatClampNeg)) - (sms (11 * c.toNatClampNeg + i.toNatClampNeg))))))) := by rw [hu4]; exact gup_self _ _ _
      have hu4_7 : u4 (m + 22) = some (.inl ((X.2 1), 44, .inr (.inl sms))) := by rw [hu4, gup_ne (by omega)]; exact hu3_7
      refine g_iconst (v := 1) C d_M_tick_94 (by decide) ?_
      exact g_zret C hR hret rfl ⟨rfl, Or.inl ⟨by simp only [okTick, bI_ne0.mp c11, decide_eq_true c25, if_pos c25, Bool.not_true, Bool.not_false, Bool.and_true, Bool.true_and, Bool.false_and, Bool.and_false, bI_t, bI_f], rfl, (by first | (rw [hu4, hu3, hu2, hu1]; done) | (rw [hu4, hu3, hu2, hu1]; funext k; simp only [gup]; (repeat' split) <;> first | with_reducible rfl | (exfalso; omega) | rfl))⟩⟩ d_M_tick_95
    · skip
      refine g_iconst (v := 0) C d_M_tick_28 (by decide) ?_
      exact g_zret C hR hret rfl ⟨rfl, Or.inr ⟨by simp only [okTick, bI_ne0.mp c11, decide_eq_false c25, if_neg c25, Bool.not_true, Bool.not_false, Bool.and_true, Bool.true_and, Bool.false_and, Bool.and_false, bI_t, bI_f], rfl, (by first | (rw [hu1]; done) | (rw [hu1]; funext k; simp only [gup]; (repeat' split) <;> first | with_reducible rfl | (exfalso; omega) | rfl))⟩⟩ d_M_tick_29

set_option maxHeartbeats 4000000 in
set_option maxRecDepth 100000 in
theorem k_M_giveUp (l : Launch) (X : gX) (ad : Nat → Nat) (u : gW) (sz : Nat) (m : Nat) (th cl dr wy ce ra li bi : Int32) (ope man tck : Nat → Int32) (c : Int32) (hm : u m = some (mO ad m th cl dr wy ce ra li bi)) (h_ope : u (m + 16) = some (.inl ((X.2 2), 4, .inl ope))) (h_man : u (m + 19) = some (.inl ((X.2 0), 4, .inl man))) (h_tck : u (m + 23) = some (.inl ((X.2 2), 44, .inl tck))) (hcl : cl ≤ 4) (hman : ∀ j, j < 4 → ∃ n, n ≤ 11 ∧ man j = nI n) : gMet l (EE X) y_M_giveUp c_M_giveUp 2 (some .int) ({ frames := 1, cells := 0, slots := 0, locals := 23 }) [.ref (ad m), .int c] ad u sz (fun v u' sz' => sz' = sz ∧ ((okGive cl ope c = true ∧ v = some (.int (untM man tck c.toNatClampNeg)) ∧ u' = gup (gup u m (mO ad m 0 cl dr wy ce ra li bi)) (m + 16) (.inl ((X.2 2), 4, .inl (upd ope c.toNatClampNeg 0)))) ∨ (okGive cl ope c = false ∧ v = some (.int (-1)) ∧ u' = gup u m (mO ad m 0 cl dr wy ce ra li bi)))) := by
  refine gMet_of "ExpenseClubsModel" rfl (by decide) (Nat.le_of_ble_eq_true rfl) (lv := [(0, .ref (ad m)), (1, .int c)]) rfl (fun Z hZl C hR hret hname => ?_)
  refine g_aload_n C d_M_giveUp_0 rfl 0 rfl ?_
  refine g_iconst (v := 0) C d_M_giveUp_1 (by decide) ?_
  refine g_put m 0 C hm rfl i_M t_M t_M_ok n_M (by decide) (gmem wd_518 rfl) rfl rfl rfl rfl (Nat.le_of_ble_eq_true rfl) d_M_giveUp_2 ?_
  show GW Z _ _ _ ad (gup u m (mO ad m 0 cl dr wy ce ra li bi)) _ _ _ _ _ _
  obtain ⟨u1, hu1⟩ : ∃ z, z = gup u m (mO ad m 0 cl dr wy ce ra li bi) := ⟨_, rfl⟩
  rw [← hu1]
  have hu1_0 : u1 m = some (mO ad m 0 cl dr wy ce ra li bi) := by rw [hu1]; exact gup_self _ _ _
  have hu1_1 : u1 (m + 16) = some (.inl ((X.2 2), 4, .inl ope)) := by rw [hu1, gup_ne (by omega)]; exact h_ope
  have hu1_2 : u1 (m + 19) = some (.inl ((X.2 0), 4, .inl man)) := by rw [hu1, gup_ne (by omega)]; exact h_man
  have hu1_3 : u1 (m + 23) = some (.inl ((X.2 2), 44, .inl tck)) := by rw [hu1, gup_ne (by omega)]; exact h_tck
  refine g_aload_n C d_M_giveUp_5 rfl 0 rfl ?_
  refine g_iload_n C d_M_giveUp_6 rfl 1 rfl ?_
  refine g_callV 1 C (k_M_isClub _ X ad u1 sz m 0 cl dr wy ce ra li bi  c hu1_0 ) (gmem wd_630 rfl) (gmem wd_632 rfl) (gmem ws_10 rfl) (gmem wd_4 rfl) (gmem wd_633 rfl) ⟨by decide, by decide, by decide +kernel⟩ ⟨Nat.le_of_ble_eq_true rfl, Nat.le_of_ble_eq_true rfl⟩ hu1_0 rfl rfl rfl (Nat.le_of_ble_eq_true rfl) d_M_giveUp_7 ⟨Nat.le_of_ble_eq_true rfl, Nat.le_of_ble_eq_true rfl⟩ ?_
  rintro v9 u9 s9 ⟨h9, hu9, hs9⟩; rw [h9, hu9, hs9]; clear h9 hu9 hs9 v9 u9 s9
  show GW Z _ _ _ ad u1 sz [(0, .ref (ad m)), (1, .int c)] 0 0 10 [.int (bI (isMb c cl))]
  refine g_if_eq 22 C d_M_giveUp_10 (by decide) (fun c10 => ?_) (fun c10 => ?_)
  · skip
    refine g_iconst (v := (-1)) C d_M_giveUp_22 (by decide) ?_
    exact g_iret C hR hret ⟨rfl, Or.inr ⟨by simp only [okGive, bI_eq0.mp c10, Bool.not_true, Bool.not_false, Bool.and_true, Bool.true_and, Bool.false_and, Bool.and_false, bI_t, bI_f], rfl, (by first | (rw [hu1]; done) | (rw [hu1]; funext k; simp only [gup]; (repeat' split) <;> first | with_reducible rfl | (exfalso; omega) | rfl))⟩⟩ d_M_giveUp_23
  · skip
    refine g_aload_n C d_M_giveUp_13 rfl 0 rfl ?_
    refine g_get m 23 C hu1_0 rfl i_M (by decide) (gmem wd_541 rfl) rfl rfl d_M_giveUp_14 ?_
    refine g_iload_n C d_M_giveUp_17 rfl 1 rfl ?_
    refine g_zald (m + 16) 2 C hu1_1 rfl (in4x (bI_ne0.mp c10) hcl) d_M_giveUp_18 ?_
    refine g_if_ne 24 C d_M_giveUp_19 (by decide) (fun c19 => ?_) (fun c19 => ?_)
    · skip
      refine g_aload_n C d_M_giveUp_24 rfl 0 rfl ?_
      refine g_get m 23 C hu1_0 rfl i_M (by decide) (gmem wd_541 rfl) rfl rfl d_M_giveUp_25 ?_
      refine g_iload_n C d_M_giveUp_28 rfl 1 rfl ?_
      refine g_iconst (v := 0) C d_M_giveUp_29 (by decide) ?_
      refine g_zast (m + 16) 2 C hu1_1 rfl (in4x (bI_ne0.mp c10) hcl) d_M_giveUp_30 ?_
      rw [show vp_nar .boolean 0 = 0 from rfl]
      obtain ⟨u2, hu2⟩ : ∃ z, z = gup u1 (m + 16) (.inl ((X.2 2), 4, .inl (upd ope (Int32.toNatClampNeg c) 0))) := ⟨_, rfl⟩
      rw [← hu2]
      have hu2_0 : u2 m = some (mO ad m 0 cl dr wy ce ra li bi) := by rw [hu2, gup_ne (by omega)]; exact hu1_0
      have hu2_1 : u2 (m + 16) = some (.inl ((X.2 2), 4, .inl (upd ope (Int32.toNatClampNeg c) 0))) := by rw [hu2]; exact gup_self _ _ _
      have hu2_2 : u2 (m + 19) = some (.inl ((X.2 0), 4, .inl man)) := by rw [hu2, gup_ne (by omega)]; exact hu1_2
      have hu2_3 : u2 (m + 23) = some (.inl ((X.2 2), 44, .inl tck)) := by rw [hu2, gup_ne (by omega)]; exact hu1_3
      refine g_aload_n C d_M_giveUp_31 rfl 0 rfl ?_
      refine g_iload_n C d_M_giveUp_32 rfl 1 rfl ?_
      refine g_callV 1 C (k_M_unticked _ X ad u2 sz m 0 cl dr wy ce ra li bi man tck c hu2_0 hu2_2 hu2_3 _ (in4x (bI_ne0.mp c10) hcl) (manK (in4x (bI_ne0.mp c10) hcl) hman).1 (manK (in4x (bI_ne0.mp c10) hcl) hman).2) (gmem wd_763 rfl) (gmem wd_765 rfl) (gmem ws_23 rfl) (gmem wd_4 rfl) (gmem wd_766 rfl) ⟨by decide, by decide, by decide +kernel⟩ ⟨Nat.le_of_ble_eq_true rfl, Nat.le_of_ble_eq_true rfl⟩ hu2_0 rfl rfl rfl (Nat.le_of_ble_eq_true rfl) d_M_giveUp_33 ⟨Nat.le_of_ble_eq_true rfl, Nat.le_of_ble_eq_true rfl⟩ ?_
      rintro v9 u9 s9 ⟨h9, hu9, hs9⟩; rw [h9, hu9, hs9]; clear h9 hu9 hs9 v9 u9 s9
      show GW Z _ _ _ ad u2 sz [(0, .ref (ad m)), (1, .int c)] 0 0 36 [.int (untM man tck c.toNatClampNeg)]
      exact g_iret C hR hret ⟨rfl, Or.inl ⟨by simp only [okGive, bI_ne0.mp c10, decide_eq_false c19, if_neg c19, Bool.not_true, Bool.not_false, Bool.and_true, Bool.true_and, Bool.false_and, Bool.and_false, bI_t, bI_f], rfl, (by first | (rw [hu2, hu1]; done) | (rw [hu2, hu1]; funext k; simp only [gup]; (repeat' split) <;> first | with_reducible rfl | (exfalso; omega) | rfl))⟩⟩ d_M_giveUp_36
    · skip
      refine g_iconst (v := (-1)) C d_M_giveUp_22 (by decide) ?_
      exact g_iret C hR hret ⟨rfl, Or.inr ⟨by simp only [okGive, bI_ne0.mp c10, decide_eq_true c19, if_pos c19, Bool.not_true, Bool.not_false, Bool.and_true, Bool.true_and, Bool.false_and, Bool.and_false, bI_t, bI_f], rfl, (by first | (rw [hu1]; done) | (rw [hu1]; funext k; simp only [gup]; (repeat' split) <;> first | with_reducible rfl | (exfalso; omega) | rfl))⟩⟩ d_M_giveUp_23

set_option maxHeartbeats 4000000 in
set_option maxRecDepth 100000 in
theorem k_M_close (l : Launch) (X : gX) (ad : Nat → Nat) (u : gW) (sz : Nat) (m : Nat) (th cl dr wy ce ra li bi : Int32) (ope man tck : Nat → Int32) (c : Int32) (hm : u m = some (mO ad m th cl dr wy ce ra li bi)) (h_ope : u (m + 16) = some (.inl ((X.2 2), 4, .inl ope))) (h_man : u (m + 19) = some (.inl ((X.2 0), 4, .inl man))) (h_tck : u (m + 23) = some (.inl ((X.2 2), 44, .inl tck))) (hcl : cl ≤ 4) (hman : ∀ j, j < 4 → ∃ n, n ≤ 11 ∧ man j = nI n) : gMet l (EE X) y_M_close c_M_close 2 (some .boolean) ({ frames := 1, cells := 0, slots := 0, locals := 23 }) [.ref (ad m), .int c] ad u sz (fun v u' sz' => sz' = sz ∧ ((okClose cl ope man tck c = true ∧ v = some (.int 1) ∧ u' = gup (gup u m (mO ad m 0 cl dr wy ce ra li bi)) (m + 16) (.inl ((X.2 2), 4, .inl (upd ope c.toNatClampNeg 0)))) ∨ (okClose cl ope man tck c = false ∧ v = some (.int 0) ∧ u' = gup u m (mO ad m 0 cl dr wy ce ra li bi)))) := by
  refine gMet_of "ExpenseClubsModel" rfl (by decide) (Nat.le_of_ble_eq_true rfl) (lv := [(0, .ref (ad m)), (1, .int c)]) rfl (fun Z hZl C hR hret hname => ?_)
  refine g_aload_n C d_M_close_0 rfl 0 rfl ?_
  refine g_iconst (v := 0) C d_M_close_1 (by decide) ?_
  refine g_put m 0 C hm rfl i_M t_M t_M_ok n_M (by decide) (gmem wd_518 rfl) rfl rfl rfl rfl (Nat.le_of_ble_eq_true rfl) d_M_close_2 ?_
  show GW Z _ _ _ ad (gup u m (mO ad m 0 cl dr wy ce ra li bi)) _ _ _ _ _ _
  obtain ⟨u1, hu1⟩ : ∃ z, z = gup u m (mO ad m 0 cl dr wy ce ra li bi) := ⟨_, rfl⟩
  rw [← hu1]
  have hu1_0 : u1 m = some (mO ad m 0 cl dr wy ce ra li bi) := by rw [hu1]; exact gup_self _ _ _
  have hu1_1 : u1 (m + 16) = some (.inl ((X.2 2), 4, .inl ope)) := by rw [hu1, gup_ne (by omega)]; exact h_ope
  have hu1_2 : u1 (m + 19) = some (.inl ((X.2 0), 4, .inl man)) := by rw [hu1, gup_ne (by omega)]; exact h_man
  have hu1_3 : u1 (m + 23) = some (.inl ((X.2 2), 44, .inl tck)) := by rw [hu1, gup_ne (by omega)]; exact h_tck
  refine g_aload_n C d_M_close_5 rfl 0 rfl ?_
  refine g_iload_n C d_M_close_6 rfl 1 rfl ?_
  refine g_callV 1 C (k_M_isClub _ X ad u1 sz m 0 cl dr wy ce ra li bi  c hu1_0 ) (gmem wd_630 rfl) (gmem wd_632 rfl) (gmem ws_10 rfl) (gmem wd_4 rfl) (gmem wd_633 rfl) ⟨by decide, by decide, by decide +kernel⟩ ⟨Nat.le_of_ble_eq_true rfl, Nat.le_of_ble_eq_true rfl⟩ hu1_0 rfl rfl rfl (Nat.le_of_ble_eq_true rfl) d_M_close_7 ⟨Nat.le_of_ble_eq_true rfl, Nat.le_of_ble_eq_true rfl⟩ ?_
  rintro v9 u9 s9 ⟨h9, hu9, hs9⟩; rw [h9, hu9, hs9]; clear h9 hu9 hs9 v9 u9 s9
  show GW Z _ _ _ ad u1 sz [(0, .ref (ad m)), (1, .int c)] 0 0 10 [.int (bI (isMb c cl))]
  refine g_if_eq 30 C d_M_close_10 (by decide) (fun c10 => ?_) (fun c10 => ?_)
  · skip
    refine g_iconst (v := 0) C d_M_close_30 (by decide) ?_
    exact g_zret C hR hret rfl ⟨rfl, Or.inr ⟨by simp only [okClose, bI_eq0.mp c10, Bool.not_true, Bool.not_false, Bool.and_true, Bool.true_and, Bool.false_and, Bool.and_false, bI_t, bI_f], rfl, (by first | (rw [hu1]; done) | (rw [hu1]; funext k; simp only [gup]; (repeat' split) <;> first | with_reducible rfl | (exfalso; omega) | rfl))⟩⟩ d_M_close_31
  · skip
    refine g_aload_n C d_M_close_13 rfl 0 rfl ?_
    refine g_get m 23 C hu1_0 rfl i_M (by decide) (gmem wd_541 rfl) rfl rfl d_M_close_14 ?_
    refine g_iload_n C d_M_close_17 rfl 1 rfl ?_
    refine g_zald (m + 16) 2 C hu1_1 rfl (in4x (bI_ne0.mp c10) hcl) d_M_close_18 ?_
    refine g_if_eq 30 C d_M_close_19 (by decide) (fun c19 => ?_) (fun c19 => ?_)
    · skip
      refine g_iconst (v := 0) C d_M_close_30 (by decide) ?_
      exact g_zret C hR hret rfl ⟨rfl, Or.inr ⟨by simp only [okClose, bI_ne0.mp c10, decide_eq_true c19, if_pos c19, Bool.not_true, Bool.not_false, Bool.and_true, Bool.true_and, Bool.false_and, Bool.and_false, bI_t, bI_f], rfl, (by first | (rw [hu1]; done) | (rw [hu1]; funext k; simp only [gup]; (repeat' split) <;> first | with_reducible rfl | (exfalso; omega) | rfl))⟩⟩ d_M_close_31
    · skip
      refine g_aload_n C d_M_close_22 rfl 0 rfl ?_
      refine g_iload_n C d_M_close_23 rfl 1 rfl ?_
      refine g_callV 1 C (k_M_unticked _ X ad u1 sz m 0 cl dr wy ce ra li bi man tck c hu1_0 hu1_2 hu1_3 _ (in4x (bI_ne0.mp c10) hcl) (manK (in4x (bI_ne0.mp c10) hcl) hman).1 (manK (in4x (bI_ne0.mp c10) hcl) hman).2) (gmem wd_763 rfl) (gmem wd_765 rfl) (gmem ws_23 rfl) (gmem wd_4 rfl) (gmem wd_766 rfl) ⟨by decide, by decide, by decide +kernel⟩ ⟨Nat.le_of_ble_eq_true rfl, Nat.le_of_ble_eq_true rfl⟩ hu1_0 rfl rfl rfl (Nat.le_of_ble_eq_true rfl) d_M_close_24 ⟨Nat.le_of_ble_eq_true rfl, Nat.le_of_ble_eq_true rfl⟩ ?_
      rintro v9 u9 s9 ⟨h9, hu9, hs9⟩; rw [h9, hu9, hs9]; clear h9 hu9 hs9 v9 u9 s9
      show GW Z _ _ _ ad u1 sz [(0, .ref (ad m)), (1, .int c)] 0 0 27 [.int (untM man tck c.toNatClampNeg)]
      refine g_if_le 32 C d_M_close_27 (by decide) (fun c27 => ?_) (fun c27 => ?_)
      · skip
        refine g_aload_n C d_M_close_32 rfl 0 rfl ?_
        refine g_get m 23 C hu1_0 rfl i_M (by decide) (gmem wd_541 rfl) rfl rfl d_M_close_33 ?_
        refine g_iload_n C d_M_close_36 rfl 1 rfl ?_
        refine g_iconst (v := 0) C d_M_close_37 (by decide) ?_
        refine g_zast (m + 16) 2 C hu1_1 rfl (in4x (bI_ne0.mp c10) hcl) d_M_close_38 ?_
        rw [show vp_nar .boolean 0 = 0 from rfl]
        obtain ⟨u2, hu2⟩ : ∃ z, z = gup u1 (m + 16) (.inl ((X.2 2), 4, .inl (upd ope (Int32.toNatClampNeg c) 0))) := ⟨_, rfl⟩
        rw [← hu2]
        have hu2_0 : u2 m = some (mO ad m 0 cl dr wy ce ra li bi) := by rw [hu2, gup_ne (by omega)]; exact hu1_0
        have hu2_1 : u2 (m + 16) = some (.inl ((X.2 2), 4, .inl (upd ope (Int32.toNatClampNeg c) 0))) := by rw [hu2]; exact gup_self _ _ _
        have hu2_2 : u2 (m + 19) = some (.inl ((X.2 0), 4, .inl man)) := by rw [hu2, gup_ne (by omega)]; exact hu1_2
        have hu2_3 : u2 (m + 23) = some (.inl ((X.2 2), 44, .inl tck)) := by rw [hu2, gup_ne (by omega)]; exact hu1_3
        refine g_iconst (v := 1) C d_M_close_39 (by decide) ?_
        exact g_zret C hR hret rfl ⟨rfl, Or.inl ⟨by simp only [okClose, bI_ne0.mp c10, decide_eq_false c19, if_neg c19, decide_eq_true c27, if_pos c27, Bool.not_true, Bool.not_false, Bool.and_true, Bool.true_and, Bool.false_and, Bool.and_false, bI_t, bI_f], rfl, (by first | (rw [hu2, hu1]; done) | (rw [hu2, hu1]; funext k; simp only [gup]; (repeat' split) <;> first | with_reducible rfl | (exfalso; omega) | rfl))⟩⟩ d_M_close_40
      · skip
        refine g_iconst (v := 0) C d_M_close_30 (by decide) ?_
        exact g_zret C hR hret rfl ⟨rfl, Or.inr ⟨by simp only [okClose, bI_ne0.mp c10, decide_eq_false c19, if_neg c19, decide_eq_false c27, if_neg c27, Bool.not_true, Bool.not_false, Bool.and_true, Bool.true_and, Bool.false_and, Bool.and_false, bI_t, bI_f], rfl, (by first | (rw [hu1]; done) | (rw [hu1]; funext k; simp only [gup]; (repeat' split) <;> first | with_reducible rfl | (exfalso; omega) | rfl))⟩⟩ d_M_close_31

set_option maxHeartbeats 4000000 in
set_option maxRecDepth 100000 in
theorem k_M_count (l : Launch) (X : gX) (ad : Nat → Nat) (u : gW) (sz : Nat) (m : Nat) (th cl dr wy ce ra li bi : Int32) (mem mar ope gps man tck : Nat → Int32) (c w : Int32) (hm : u m = some (mO ad m th cl dr wy ce ra li bi)) (h_mem : u (m + 1) = some (.inl ((X.2 0), 4, .inl mem))) (h_mar : u (m + 2) = some (.inl ((X.2 0), 4, .inl mar))) (h_ope : u (m + 16) = some (.inl ((X.2 2), 4, .inl ope))) (h_gps : u (m + 17) = some (.inl ((X.2 0), 4, .inl gps))) (h_man : u (m + 19) = some (.inl ((X.2 0), 4, .inl man))) (h_tck : u (m + 23) = some (.inl ((X.2 2), 44, .inl tck))) (hcl : cl ≤ 4) (hman : ∀ j, j < 4 → ∃ n, n ≤ 11 ∧ man j = nI n) : gMet l (EE X) y_M_count c_M_count 3 (some .int) ({ frames := 1, cells := 0, slots := 0, locals := 23 }) [.ref (ad m), .int c, .int w] ad u sz (fun v u' sz' => v = some (.int (couM cl mem ope gps man tck mar c w)) ∧ u' = gup u m (mO ad m 0 cl dr wy ce ra li bi) ∧ sz' = sz) := by
  refine gMet_of "ExpenseClubsModel" rfl (by decide) (Nat.le_of_ble_eq_true rfl) (lv := [(0, .ref (ad m)), (1, .int c), (2, .int w)]) rfl (fun Z hZl C hR hret hname => ?_)
  refine g_aload_n C d_M_count_0 rfl 0 rfl ?_
  refine g_iconst (v := 0) C d_M_count_1 (by decide) ?_
  refine g_put m 0 C hm rfl i_M t_M t_M_ok n_M (by decide) (gmem wd_518 rfl) rfl rfl rfl rfl (Nat.le_of_ble_eq_true rfl) d_M_count_2 ?_
  show GW Z _ _ _ ad (gup u m (mO ad m 0 cl dr wy ce ra li bi)) _ _ _ _ _ _
  obtain ⟨u1, hu1⟩ : ∃ z, z = gup u m (mO ad m 0 cl dr wy ce ra li bi) := ⟨_, rfl⟩
  rw [← hu1]
  have hu1_0 : u1 m = some (mO ad m 0 cl dr wy ce ra li bi) := by rw [hu1]; exact gup_self _ _ _
  have hu1_1 : u1 (m + 1) = some (.inl ((X.2 0), 4, .inl mem)) := by rw [hu1, gup_ne (by omega)]; exact h_mem
  have hu1_2 : u1 (m + 2) = some (.inl ((X.2 0), 4, .inl mar)) := by rw [hu1, gup_ne (by omega)]; exact h_mar
  have hu1_3 : u1 (m + 16) = some (.inl ((X.2 2), 4, .inl ope)) := by rw [hu1, gup_ne (by omega)]; exact h_ope
  have hu1_4 : u1 (m + 17) = some (.inl ((X.2 0), 4, .inl gps)) := by rw [hu1, gup_ne (by omega)]; exact h_gps
  have hu1_5 : u1 (m + 19) = some (.inl ((X.2 0), 4, .inl man)) := by rw [hu1, gup_ne (by omega)]; exact h_man
  have hu1_6 : u1 (m + 23) = some (.inl ((X.2 2), 44, .inl tck)) := by rw [hu1, gup_ne (by omega)]; exact h_tck
  refine g_aload_n C d_M_count_5 rfl 0 rfl ?_
  refine g_iload_n C d_M_count_6 rfl 1 rfl ?_
  refine g_callV 1 C (k_M_isClub _ X ad u1 sz m 0 cl dr wy ce ra li bi  c hu1_0 ) (gmem wd_630 rfl) (gmem wd_632 rfl) (gmem ws_10 rfl) (gmem wd_4 rfl) (gmem wd_633 rfl) ⟨by decide, by decide, by decide +kernel⟩ ⟨Nat.le_of_ble_eq_true rfl, Nat.le_of_ble_eq_true rfl⟩ hu1_0 rfl rfl rfl (Nat.le_of_ble_eq_true rfl) d_M_count_7 ⟨Nat.le_of_ble_eq_true rfl, Nat.le_of_ble_eq_true rfl⟩ ?_
  rintro v9 u9 s9 ⟨h9, hu9, hs9⟩; rw [h9, hu9, hs9]; clear h9 hu9 hs9 v9 u9 s9
  show GW Z _ _ _ ad u1 sz [(0, .ref (ad m)), (1, .int c), (2, .int w)] 0 0 10 [.int (bI (isMb c cl))]
  refine g_if_ne 15 C d_M_count_10 (by decide) (fun c10 => ?_) (fun c10 => ?_)
  · skip
    refine g_iload_n C d_M_count_15 rfl 2 rfl ?_
    by_cases c16_0 : w = 0
    · refine g_tableIn (off := 32) 48 C d_M_count_16 (by rw [c16_0]; decide) (by rw [c16_0]; decide) (by rw [c16_0]; rfl) (by decide) ?_
      refine g_aload_n C d_M_count_48 rfl 0 rfl ?_
      refine g_get m 2 C hu1_0 rfl i_M (by decide) (gmem wd_520 rfl) rfl rfl d_M_count_49 ?_
      refine g_iload_n C d_M_count_52 rfl 1 rfl ?_
      refine g_iald (m + 1) 0 C hu1_1 rfl (in4x (bI_ne0.mp c10) hcl) d_M_count_53 ?_
      exact g_iret C hR hret ⟨by simp only [couM, bI_ne0.mp c10, if_pos c16_0, Bool.not_true, Bool.not_false, Bool.and_true, Bool.true_and, Bool.false_and, Bool.and_false, bI_t, bI_f, if_true, if_false, reduceCtorEq], (by first | (rw [hu1]; done) | (rw [hu1]; funext k; simp only [gup]; (repeat' split) <;> first | with_reducible rfl | (exfalso; omega) | rfl)), rfl⟩ d_M_count_54
    by_cases c16_1 : w = 1
    · refine g_tableIn (off := 39) 55 C d_M_count_16 (by rw [c16_1]; decide) (by rw [c16_1]; decide) (by rw [c16_1]; rfl) (by decide) ?_
      refine g_aload_n C d_M_count_55 rfl 0 rfl ?_
      refine g_get m 23 C hu1_0 rfl i_M (by decide) (gmem wd_541 rfl) rfl rfl d_M_count_56 ?_
      refine g_iload_n C d_M_count_59 rfl 1 rfl ?_
      refine g_zald (m + 16) 2 C hu1_3 rfl (in4x (bI_ne0.mp c10) hcl) d_M_count_60 ?_
      refine g_if_eq 73 C d_M_count_61 (by decide) (fun c61 => ?_) (fun c61 => ?_)
      · skip
        refine g_iconst (v := (-1)) C d_M_count_73 (by decide) ?_
        exact g_iret C hR hret ⟨by simp only [couM, bI_ne0.mp c10, decide_eq_true c61, if_pos c61, if_neg c16_0, if_pos c16_1, Bool.not_true, Bool.not_false, Bool.and_true, Bool.true_and, Bool.false_and, Bool.and_false, bI_t, bI_f, if_true, if_false, reduceCtorEq], (by first | (rw [hu1]; done) | (rw [hu1]; funext k; simp only [gup]; (repeat' split) <;> first | with_reducible rfl | (exfalso; omega) | rfl)), rfl⟩ d_M_count_74
      · skip
        refine g_aload_n C d_M_count_64 rfl 0 rfl ?_
        refine g_get m 24 C hu1_0 rfl i_M (by decide) (gmem wd_542 rfl) rfl rfl d_M_count_65 ?_
        refine g_iload_n C d_M_count_68 rfl 1 rfl ?_
        refine g_iald (m + 17) 0 C hu1_4 rfl (in4x (bI_ne0.mp c10) hcl) d_M_count_69 ?_
        refine g_goto 74 C d_M_count_70 (by decide) ?_
        exact g_iret C hR hret ⟨by simp only [couM, bI_ne0.mp c10, decide_eq_false c61, if_neg c61, if_neg c16_0, if_pos c16_1, Bool.not_true, Bool.not_false, Bool.and_true, Bool.true_and, Bool.false_and, Bool.and_false, bI_t, bI_f, if_true, if_false, reduceCtorEq], (by first | (rw [hu1]; done) | (rw [hu1]; funext k; simp only [gup]; (repeat' split) <;> first | with_reducible rfl | (exfalso; omega) | rfl)), rfl⟩ d_M_count_74
    by_cases c16_2 : w = 2
    · refine g_tableIn (off := 59) 75 C d_M_count_16 (by rw [c16_2]; decide) (by rw [c16_2]; decide) (by rw [c16_2]; rfl) (by decide) ?_
      refine g_aload_n C d_M_count_75 rfl 0 rfl ?_
      refine g_get m 23 C hu1_0 rfl i_M (by decide) (gmem wd_541 rfl) rfl rfl d_M_count_76 ?_
      refine g_iload_n C d_M_count_79 rfl 1 rfl ?_
      refine g_zald (m + 16) 2 C hu1_3 rfl (in4x (bI_ne0.mp c10) hcl) d_M_count_80 ?_
      refine g_if_eq 92 C d_M_count_81 (by decide) (fun c81 => ?_) (fun c81 => ?_)
      · skip
        refine g_iconst (v := (-1)) C d_M_count_92 (by decide) ?_
        exact g_iret C hR hret ⟨by simp only [couM, bI_ne0.mp c10, decide_eq_true c81, if_pos c81, if_neg c16_0, if_neg c16_1, if_pos c16_2, Bool.not_true, Bool.not_false, Bool.and_true, Bool.true_and, Bool.false_and, Bool.and_false, bI_t, bI_f, if_true, if_false, reduceCtorEq], (by first | (rw [hu1]; done) | (rw [hu1]; funext k; simp only [gup]; (repeat' split) <;> first | with_reducible rfl | (exfalso; omega) | rfl)), rfl⟩ d_M_count_93
      · skip
        refine g_aload_n C d_M_count_84 rfl 0 rfl ?_
        refine g_iload_n C d_M_count_85 rfl 1 rfl ?_
        refine g_callV 1 C (k_M_unticked _ X ad u1 sz m 0 cl dr wy ce ra li bi man tck c hu1_0 hu1_5 hu1_6 _ (in4x (bI_ne0.mp c10) hcl) (manK (in4x (bI_ne0.mp c10) hcl) hman).1 (manK (in4x (bI_ne0.mp c10) hcl) hman).2) (gmem wd_763 rfl) (gmem wd_765 rfl) (gmem ws_23 rfl) (gmem wd_4 rfl) (gmem wd_766 rfl) ⟨by decide, by decide, by decide +kernel⟩ ⟨Nat.le_of_ble_eq_true rfl, Nat.le_of_ble_eq_true rfl⟩ hu1_0 rfl rfl rfl (Nat.le_of_ble_eq_true rfl) d_M_count_86 ⟨Nat.le_of_ble_eq_true rfl, Nat.le_of_ble_eq_true rfl⟩ ?_
        rintro v9 u9 s9 ⟨h9, hu9, hs9⟩; rw [h9, hu9, hs9]; clear h9 hu9 hs9 v9 u9 s9
        show GW Z _ _ _ ad u1 sz [(0, .ref (ad m)), (1, .int c), (2, .int w)] 0 0 89 [.int (untM man tck c.toNatClampNeg)]
        refine g_goto 93 C d_M_count_89 (by decide) ?_
        exact g_iret C hR hret ⟨by simp only [couM, bI_ne0.mp c10, decide_eq_false c81, if_neg c81, if_neg c16_0, if_neg c16_1, if_pos c16_2, Bool.not_true, Bool.not_false, Bool.and_true, Bool.true_and, Bool.false_and, Bool.and_false, bI_t, bI_f, if_true, if_false, reduceCtorEq], (by first | (rw [hu1]; done) | (rw [hu1]; funext k; simp only [gup]; (repeat' split) <;> first | with_reducible rfl | (exfalso; omega) | rfl)), rfl⟩ d_M_count_93
    by_cases c16_3 : w = 3
    · refine g_tableIn (off := 78) 94 C d_M_count_16 (by rw [c16_3]; decide) (by rw [c16_3]; decide) (by rw [c16_3]; rfl) (by decide) ?_
      refine g_aload_n C d_M_count_94 rfl 0 rfl ?_
      refine g_get m 3 C hu1_0 rfl i_M (by decide) (gmem wd_521 rfl) rfl rfl d_M_count_95 ?_
      refine g_iload_n C d_M_count_98 rfl 1 rfl ?_
      refine g_iald (m + 2) 0 C hu1_2 rfl (in4x (bI_ne0.mp c10) hcl) d_M_count_99 ?_
      exact g_iret C hR hret ⟨by simp only [couM, bI_ne0.mp c10, if_neg c16_0, if_neg c16_1, if_neg c16_2, if_pos c16_3, Bool.not_true, Bool.not_false, Bool.and_true, Bool.true_and, Bool.false_and, Bool.and_false, bI_t, bI_f, if_true, if_false, reduceCtorEq], (by first | (rw [hu1]; done) | (rw [hu1]; funext k; simp only [gup]; (repeat' split) <;> first | with_reducible rfl | (exfalso; omega) | rfl)), rfl⟩ d_M_count_100
    refine g_tableOut 101 C d_M_count_16 (by have h0 := lv_neT c16_0 (a := 0) (by decide); have h1 := lv_neT c16_1 (a := 1) (by decide); have h2 := lv_neT c16_2 (a := 2) (by decide); have h3 := lv_neT c16_3 (a := 3) (by decide); omega) (by decide) ?_
    refine g_iconst (v := (-1)) C d_M_count_101 (by decide) ?_
    exact g_iret C hR hret ⟨by simp only [couM, bI_ne0.mp c10, if_neg c16_0, if_neg c16_1, if_neg c16_2, if_neg c16_3, Bool.not_true, Bool.not_false, Bool.and_true, Bool.true_and, Bool.false_and, Bool.and_false, bI_t, bI_f, if_true, if_false, reduceCtorEq], (by first | (rw [hu1]; done) | (rw [hu1]; funext k; simp only [gup]; (repeat' split) <;> first | with_reducible rfl | (exfalso; omega) | rfl)), rfl⟩ d_M_count_102
  · skip
    refine g_iconst (v := (-1)) C d_M_count_13 (by decide) ?_
    exact g_iret C hR hret ⟨by simp only [couM, bI_eq0.mp c10, Bool.not_true, Bool.not_false, Bool.and_true, Bool.true_and, Bool.false_and, Bool.and_false, bI_t, bI_f, if_true, if_false, reduceCtorEq], (by first | (rw [hu1]; done) | (rw [hu1]; funext k; simp only [gup]; (repeat' split) <;> first | with_reducible rfl | (exfalso; omega) | rfl)), rfl⟩ d_M_count_14

set_option maxHeartbeats 4000000 in
set_option maxRecDepth 100000 in
theorem k_M_groupOf (l : Launch) (X : gX) (ad : Nat → Nat) (u : gW) (sz : Nat) (m : Nat) (th cl dr wy ce ra li bi : Int32) (mem ope grp : Nat → Int32) (c x : Int32) (hm : u m = some (mO ad m th cl dr wy ce ra li bi)) (h_mem : u (m + 1) = some (.inl ((X.2 0), 4, .inl mem))) (h_ope : u (m + 16) = some (.inl ((X.2 2), 4, .inl ope))) (h_grp : u (m + 18) = some (.inl ((X.2 0), 48, .inl grp))) (hcl : cl ≤ 4) (hmem : ∀ j, j < 4 → mem j ≤ 12) : gMet l (EE X) y_M_groupOf c_M_groupOf 3 (some .int) ({ frames := 2, cells := 0, slots := 0, locals := 43 }) [.ref (ad m), .int c, .int x] ad u sz (fun v u' sz' => v = some (.int (grpM cl mem ope grp c x)) ∧ u' = gup u m (mO ad m 0 cl dr wy ce ra li bi) ∧ sz' = sz) := by
  refine gMet_of "ExpenseClubsModel" rfl (by decide) (Nat.le_of_ble_eq_true rfl) (lv := [(0, .ref (ad m)), (1, .int c), (2, .int x)]) rfl (fun Z hZl C hR hret hname => ?_)
  refine g_aload_n C d_M_groupOf_0 rfl 0 rfl ?_
  refine g_iconst (v := 0) C d_M_groupOf_1 (by decide) ?_
  refine g_put m 0 C hm rfl i_M t_M t_M_ok n_M (by decide) (gmem wd_518 rfl) rfl rfl rfl rfl (Nat.le_of_ble_eq_true rfl) d_M_groupOf_2 ?_
  show GW Z _ _ _ ad (gup u m (mO ad m 0 cl dr wy ce ra li bi)) _ _ _ _ _ _
  obtain ⟨u1, hu1⟩ : ∃ z, z = gup u m (mO ad m 0 cl dr wy ce ra li bi) := ⟨_, rfl⟩
  rw [← hu1]
  have hu1_0 : u1 m = some (mO ad m 0 cl dr wy ce ra li bi) := by rw [hu1]; exact gup_self _ _ _
  have hu1_1 : u1 (m + 1) = some (.inl ((X.2 0), 4, .inl mem)) := by rw [hu1, gup_ne (by omega)]; exact h_mem
  have hu1_2 : u1 (m + 16) = some (.inl ((X.2 2), 4, .inl ope)) := by rw [hu1, gup_ne (by omega)]; exact h_ope
  have hu1_3 : u1 (m + 18) = some (.inl ((X.2 0), 48, .inl grp)) := by rw [hu1, gup_ne (by omega)]; exact h_grp
  refine g_aload_n C d_M_groupOf_5 rfl 0 rfl ?_
  refine g_iload_n C d_M_groupOf_6 rfl 1 rfl ?_
  refine g_iload_n C d_M_groupOf_7 rfl 2 rfl ?_
  refine g_callV 2 C (k_M_isMember _ X ad u1 sz m 0 cl dr wy ce ra li bi mem c x hu1_0 hu1_1 hcl) (gmem wd_638 rfl) (gmem wd_640 rfl) (gmem ws_11 rfl) (gmem wd_4 rfl) (gmem wd_641 rfl) ⟨by decide, by decide, by decide +kernel⟩ ⟨Nat.le_of_ble_eq_true rfl, Nat.le_of_ble_eq_true rfl⟩ hu1_0 rfl rfl rfl (Nat.le_of_ble_eq_true rfl) d_M_groupOf_8 ⟨Nat.le_of_ble_eq_true rfl, Nat.le_of_ble_eq_true rfl⟩ ?_
  rintro v9 u9 s9 ⟨h9, hu9, hs9⟩; rw [h9, hu9, hs9]; clear h9 hu9 hs9 v9 u9 s9
  show GW Z _ _ _ ad u1 sz [(0, .ref (ad m)), (1, .int c), (2, .int x)] 0 0 11 [.int (bI (memM cl mem c x))]
  refine g_if_eq 37 C d_M_groupOf_11 (by decide) (fun c11 => ?_) (fun c11 => ?_)
  · skip
    refine g_iconst (v := (-1)) C d_M_groupOf_37 (by decide) ?_
    exact g_iret C hR hret ⟨by rw [grpM, if_neg (by rw [bI_eq0.mp c11]; decide)], (by first | (rw [hu1]; done) | (rw [hu1]; funext k; simp only [gup]; (repeat' split) <;> first | with_reducible rfl | (exfalso; omega) | rfl)), rfl⟩ d_M_groupOf_38
  · skip
    refine g_aload_n C d_M_groupOf_14 rfl 0 rfl ?_
    refine g_get m 23 C hu1_0 rfl i_M (by decide) (gmem wd_541 rfl) rfl rfl d_M_groupOf_15 ?_
    refine g_iload_n C d_M_groupOf_18 rfl 1 rfl ?_
    refine g_zald (m + 16) 2 C hu1_2 rfl (memM_c (bI_ne0.mp c11) hcl) d_M_groupOf_19 ?_
    refine g_if_eq 37 C d_M_groupOf_20 (by decide) (fun c20 => ?_) (fun c20 => ?_)
    · skip
      refine g_iconst (v := (-1)) C d_M_groupOf_37 (by decide) ?_
      exact g_iret C hR hret ⟨by rw [grpM, if_pos (bI_ne0.mp c11)]; rw [if_pos c20], (by first | (rw [hu1]; done) | (rw [hu1]; funext k; simp only [gup]; (repeat' split) <;> first | with_reducible rfl | (exfalso; omega) | rfl)), rfl⟩ d_M_groupOf_38
    · skip
      refine g_aload_n C d_M_groupOf_23 rfl 0 rfl ?_
      refine g_get m 25 C hu1_0 rfl i_M (by decide) (gmem wd_543 rfl) rfl rfl d_M_groupOf_24 ?_
      refine g_bipush (v := 12) C d_M_groupOf_27 (by decide) ?_
      refine g_iload_n C d_M_groupOf_29 rfl 1 rfl ?_
      refine g_imul C d_M_groupOf_30 ?_
      refine g_iload_n C d_M_groupOf_31 rfl 2 rfl ?_
      refine g_iadd C d_M_groupOf_32 ?_
      refine g_iald (m + 18) 0 C hu1_3 rfl (in48 (memM_c (bI_ne0.mp c11) hcl) (memM_x (bI_ne0.mp c11) hmem hcl)).1 d_M_groupOf_33 ?_
      rw [show Int32.toNatClampNeg ((12 * c) + x) = 12 * c.toNatClampNeg + x.toNatClampNeg from (in48 (memM_c (bI_ne0.mp c11) hcl) (memM_x (bI_ne0.mp c11) hmem hcl)).2]
      refine g_goto 38 C d_M_groupOf_34 (by decide) ?_
      exact g_iret C hR hret ⟨by rw [grpM, if_pos (bI_ne0.mp c11)]; rw [if_neg c20], (by first | (rw [hu1]; done) | (rw [hu1]; funext k; simp only [gup]; (repeat' split) <;> first | with_reducible rfl | (exfalso; omega) | rfl)), rfl⟩ d_M_groupOf_38

def okLea (cl : Int32) (mem lef ope cof str : Nat → Int32) (pai sha sen : Nat → Int64) (nb : Nat) (c x : Int32) : Bool := memM cl mem c x && (decide (lef (12 * c.toNatClampNeg + x.toNatClampNeg) = 0) && (decide (balM cl mem cof str pai sha sen nb c x = 0) && decide (ope c.toNatClampNeg = 0)))
set_option maxHeartbeats 4000000 in
set_option maxRecDepth 100000 in
theorem k_M_leave (l : Launch) (X : gX) (ad : Nat → Nat) (u : gW) (sz : Nat) (m : Nat) (th cl dr wy ce ra li bi : Int32) (mem lef ope cof str : Nat → Int32) (sen pai sha : Nat → Int64) (c x : Int32) (hm : u m = some (mO ad m th cl dr wy ce ra li bi)) (h_mem : u (m + 1) = some (.inl ((X.2 0), 4, .inl mem))) (h_lef : u (m + 3) = some (.inl ((X.2 2), 48, .inl lef))) (h_ope : u (m + 16) = some (.inl ((X.2 2), 4, .inl ope))) (h_cof : u (m + 9) = some (.inl ((X.2 0), 64, .inl cof))) (h_str : u (m + 11) = some (.inl ((X.2 2), 64, .inl str))) (h_sen : u (m + 15) = some (.inl ((X.2 1), 48, .inr (.inl sen)))) (h_pai : u (m + 13) = some (.inl ((X.2 1), 768, .inr (.inl pai)))) (h_sha : u (m + 12) = some (.inl ((X.2 1), 768, .inr (.inl sha)))) (hcl : cl ≤ 4) (hmem : ∀ j, j < 4 → mem j ≤ 12)(nb : Nat) (hnb : bi = nI nb) (hn64 : nb ≤ 64)  : gMet l (EE X) y_M_leave c_M_leave 3 (some .boolean) ({ frames := 3, cells := 0, slots := 0, locals := 68 }) [.ref (ad m), .int c, .int x] ad u sz (fun v u' sz' => sz' = sz ∧ ((okLea cl mem lef ope cof str pai sha sen nb c x = true ∧ v = some (.int 1) ∧ u' = gup (gup u m (mO ad m 0 cl dr wy ce ra li bi)) (m + 3) (.inl ((X.2 2), 48, .inl (upd lef (12 * c.toNatClampNeg + x.toNatClampNeg) 1)))) ∨ (okLea cl mem lef ope cof str pai sha sen nb c x = false ∧ v = some (.int 0) ∧ u' = gup u m (mO ad m 0 cl dr wy ce ra li bi)))) := by
  refine gMet_of "ExpenseClubsModel" rfl (by decide) (Nat.le_of_ble_eq_true rfl) (lv := [(0, .ref (ad m)), (1, .int c), (2, .int x)]) rfl (fun Z hZl C hR hret hname => ?_)
  refine g_aload_n C d_M_leave_0 rfl 0 rfl ?_
  refine g_iload_n C d_M_leave_1 rfl 1 rfl ?_
  refine g_iload_n C d_M_leave_2 rfl 2 rfl ?_
  refine g_callV 2 C (k_M_isMember _ X ad u sz m th cl dr wy ce ra li bi mem c x hm h_mem hcl) (gmem wd_638 rfl) (gmem wd_640 rfl) (gmem ws_11 rfl) (gmem wd_4 rfl) (gmem wd_641 rfl) ⟨by decide, by decide, by decide +kernel⟩ ⟨Nat.le_of_ble_eq_true rfl, Nat.le_of_ble_eq_true rfl⟩ hm rfl rfl rfl (Nat.le_of_ble_eq_true rfl) d_M_leave_3 ⟨Nat.le_of_ble_eq_true rfl, Nat.le_of_ble_eq_true rfl⟩ ?_
  rintro v9 u9 s9 ⟨h9, hu9, hs9⟩; rw [h9, hu9, hs9]; clear h9 hu9 hs9 v9 u9 s9
  show GW Z _ _ _ ad u sz [(0, .ref (ad m)), (1, .int c), (2, .int x)] 0 0 6 [.int (bI (memM cl mem c x))]
  refine g_if_eq 43 C d_M_leave_6 (by decide) (fun c6 => ?_) (fun c6 => ?_)
  · skip
    refine g_aload_n C d_M_leave_43 rfl 0 rfl ?_
    refine g_iconst (v := 0) C d_M_leave_44 (by decide) ?_
    refine g_put m 0 C hm rfl i_M t_M t_M_ok n_M (by decide) (gmem wd_518 rfl) rfl rfl rfl rfl (Nat.le_of_ble_eq_true rfl) d_M_leave_45 ?_
    show GW Z _ _ _ ad (gup u m (mO ad m 0 cl dr wy ce ra li bi)) _ _ _ _ _ _
    obtain ⟨u1, hu1⟩ : ∃ z, z = gup u m (mO ad m 0 cl dr wy ce ra li bi) := ⟨_, rfl⟩
    rw [← hu1]
    have hu1_0 : u1 m = some (mO ad m 0 cl dr wy ce ra li bi) := by rw [hu1]; exact gup_self _ _ _
    have hu1_1 : u1 (m + 1) = some (.inl ((X.2 0), 4, .inl mem)) := by rw [hu1, gup_ne (by omega)]; exact h_mem
    have hu1_2 : u1 (m + 3) = some (.inl ((X.2 2), 48, .inl lef)) := by rw [hu1, gup_ne (by omega)]; exact h_lef
    have hu1_3 : u1 (m + 16) = some (.inl ((X.2 2), 4, .inl ope)) := by rw [hu1, gup_ne (by omega)]; exact h_ope
    have hu1_4 : u1 (m + 9) = some (.inl ((X.2 0), 64, .inl cof)) := by rw [hu1, gup_ne (by omega)]; exact h_cof
    have hu1_5 : u1 (m + 11) = some (.inl ((X.2 2), 64, .inl str)) := by rw [hu1, gup_ne (by omega)]; exact h_str
    have hu1_6 : u1 (m + 15) = some (.inl ((X.2 1), 48, .inr (.inl sen))) := by rw [hu1, gup_ne (by omega)]; exact h_sen
    have hu1_7 : u1 (m + 13) = some (.inl ((X.2 1), 768, .inr (.inl pai))) := by rw [hu1, gup_ne (by omega)]; exact h_pai
    have hu1_8 : u1 (m + 12) = some (.inl ((X.2 1), 768, .inr (.inl sha))) := by rw [hu1, gup_ne (by omega)]; exact h_sha
    refine g_iconst (v := 0) C d_M_leave_48 (by decide) ?_
    exact g_zret C hR hret rfl ⟨rfl, Or.inr ⟨by simp only [okLea, bI_eq0.mp c6, Bool.not_true, Bool.not_false, Bool.and_true, Bool.true_and, Bool.false_and, Bool.and_false, bI_t, bI_f], rfl, (by first | (rw [hu1]; done) | (rw [hu1]; funext k; simp only [gup]; (repeat' split) <;> first | with_reducible rfl | (exfalso; omega) | rfl))⟩⟩ d_M_leave_49
  · skip
    refine g_aload_n C d_M_leave_9 rfl 0 rfl ?_
    refine g_get m 4 C hm rfl i_M (by decide) (gmem wd_522 rfl) rfl rfl d_M_leave_10 ?_
    refine g_bipush (v := 12) C d_M_leave_13 (by decide) ?_
    refine g_iload_n C d_M_leave_15 rfl 1 rfl ?_
    refine g_imul C d_M_leave_16 ?_
    refine g_iload_n C d_M_leave_17 rfl 2 rfl ?_
    refine g_iadd C d_M_leave_18 ?_
    refine g_zald (m + 3) 2 C h_lef rfl (in48 (memM_c (bI_ne0.mp c6) hcl) (memM_x (bI_ne0.mp c6) hmem hcl)).1 d_M_leave_19 ?_
    rw [show Int32.toNatClampNeg ((12 * c) + x) = 12 * c.toNatClampNeg + x.toNatClampNeg from (in48 (memM_c (bI_ne0.mp c6) hcl) (memM_x (bI_ne0.mp c6) hmem hcl)).2]
    refine g_if_ne 43 C d_M_leave_20 (by decide) (fun c20 => ?_) (fun c20 => ?_)
    · skip
      refine g_aload_n C d_M_leave_43 rfl 0 rfl ?_
      refine g_iconst (v := 0) C d_M_leave_44 (by decide) ?_
      refine g_put m 0 C hm rfl i_M t_M t_M_ok n_M (by decide) (gmem wd_518 rfl) rfl rfl rfl rfl (Nat.le_of_ble_eq_true rfl) d_M_leave_45 ?_
      show GW Z _ _ _ ad (gup u m (mO ad m 0 cl dr wy ce ra li bi)) _ _ _ _ _ _
      obtain ⟨u2, hu2⟩ : ∃ z, z = gup u m (mO ad m 0 cl dr wy ce ra li bi) := ⟨_, rfl⟩
      rw [← hu2]
      have hu2_0 : u2 m = some (mO ad m 0 cl dr wy ce ra li bi) := by rw [hu2]; exact gup_self _ _ _
      have hu2_1 : u2 (m + 1) = some (.inl ((X.2 0), 4, .inl mem)) := by rw [hu2, gup_ne (by omega)]; exact h_mem
      have hu2_2 : u2 (m + 3) = some (.inl ((X.2 2), 48, .inl lef)) := by rw [hu2, gup_ne (by omega)]; exact h_lef
      have hu2_3 : u2 (m + 16) = some (.inl ((X.2 2), 4, .inl ope)) := by rw [hu2, gup_ne (by omega)]; exact h_ope
      have hu2_4 : u2 (m + 9) = some (.inl ((X.2 0), 64, .inl cof)) := by rw [hu2, gup_ne (by omega)]; exact h_cof
      have hu2_5 : u2 (m + 11) = some (.inl ((X.2 2), 64, .inl str)) := by rw [hu2, gup_ne (by omega)]; exact h_str
      have hu2_6 : u2 (m + 15) = some (.inl ((X.2 1), 48, .inr (.inl sen))) := by rw [hu2, gup_ne (by omega)]; exact h_sen
      have hu2_7 : u2 (m + 13) = some (.inl ((X.2 1), 768, .inr (.inl pai))) := by rw [hu2, gup_ne (by omega)]; exact h_pai
      have hu2_8 : u2 (m + 12) = some (.inl ((X.2 1), 768, .inr (.inl sha))) := by rw [hu2, gup_ne (by omega)]; exact h_sha
      refine g_iconst (v := 0) C d_M_leave_48 (by decide) ?_
      exact g_zret C hR hret rfl ⟨rfl, Or.inr ⟨by simp only [okLea, bI_ne0.mp c6, decide_eq_false c20, if_neg c20, Bool.not_true, Bool.not_false, Bool.and_true, Bool.true_and, Bool.false_and, Bool.and_false, bI_t, bI_f], rfl, (by first | (rw [hu2]; done) | (rw [hu2]; funext k; simp only [gup]; (repeat' split) <;> first | with_reducible rfl | (exfalso; omega) | rfl))⟩⟩ d_M_leave_49
    · skip
      refine g_aload_n C d_M_leave_23 rfl 0 rfl ?_
      refine g_iload_n C d_M_leave_24 rfl 1 rfl ?_
      refine g_iload_n C d_M_leave_25 rfl 2 rfl ?_
      refine g_callV 2 C (k_M_balance _ X ad u sz m th cl dr wy ce ra li bi mem cof str sen pai sha c x hm h_mem h_cof h_str h_sen h_pai h_sha hcl hmem nb hnb hn64) (gmem wd_642 rfl) (gmem wd_643 rfl) (gmem wd_644 rfl) (gmem wd_4 rfl) (gmem wd_645 rfl) ⟨by decide, by decide, by decide +kernel⟩ ⟨Nat.le_of_ble_eq_true rfl, Nat.le_of_ble_eq_true rfl⟩ hm rfl rfl rfl (Nat.le_of_ble_eq_true rfl) d_M_leave_26 ⟨Nat.le_of_ble_eq_true rfl, Nat.le_of_ble_eq_true rfl⟩ ?_
      rintro v9 ub3 s9 ⟨h9, hub3, hs9⟩; rw [h9, hs9]; clear h9 hs9 v9 s9
      have hub3_0 : ub3 m = some (mO ad m 0 cl dr wy ce ra li bi) := by rw [hub3, gup_self]
      have hub3_1 : ub3 (m + 1) = some (.inl ((X.2 0), 4, .inl mem)) := by rw [hub3, gup_ne (by omega)]; exact h_mem
      have hub3_2 : ub3 (m + 3) = some (.inl ((X.2 2), 48, .inl lef)) := by rw [hub3, gup_ne (by omega)]; exact h_lef
      have hub3_3 : ub3 (m + 16) = some (.inl ((X.2 2), 4, .inl ope)) := by rw [hub3, gup_ne (by omega)]; exact h_ope
      have hub3_4 : ub3 (m + 9) = some (.inl ((X.2 0), 64, .inl cof)) := by rw [hub3, gup_ne (by omega)]; exact h_cof
      have hub3_5 : ub3 (m + 11) = some (.inl ((X.2 2), 64, .inl str)) := by rw [hub3, gup_ne (by omega)]; exact h_str
      have hub3_6 : ub3 (m + 15) = some (.inl ((X.2 1), 48, .inr (.inl sen))) := by rw [hub3, gup_ne (by omega)]; exact h_sen
      have hub3_7 : ub3 (m + 13) = some (.inl ((X.2 1), 768, .inr (.inl pai))) := by rw [hub3, gup_ne (by omega)]; exact h_pai
      have hub3_8 : ub3 (m + 12) = some (.inl ((X.2 1), 768, .inr (.inl sha))) := by rw [hub3, gup_ne (by omega)]; exact h_sha
      show GW Z _ _ _ ad ub3 sz [(0, .ref (ad m)), (1, .int c), (2, .int x)] 0 0 29 [.long (balM cl mem cof str pai sha sen nb c x)]
      refine g_lconst (v := 0) C d_M_leave_29 (by decide) ?_
      refine g_lcmp C d_M_leave_30 ?_
      refine g_if_ne 43 C d_M_leave_31 (by decide) (fun c31 => ?_) (fun c31 => ?_)
      · rw [lg_cmp_eq] at c31
        refine g_aload_n C d_M_leave_43 rfl 0 rfl ?_
        refine g_iconst (v := 0) C d_M_leave_44 (by decide) ?_
        refine g_put m 0 C hub3_0 rfl i_M t_M t_M_ok n_M (by decide) (gmem wd_518 rfl) rfl rfl rfl rfl (Nat.le_of_ble_eq_true rfl) d_M_leave_45 ?_
        show GW Z _ _ _ ad (gup ub3 m (mO ad m 0 cl dr wy ce ra li bi)) _ _ _ _ _ _
        obtain ⟨u4, hu4⟩ : ∃ z, z = gup ub3 m (mO ad m 0 cl dr wy ce ra li bi) := ⟨_, rfl⟩
        rw [← hu4]
        have hu4_0 : u4 m = some (mO ad m 0 cl dr wy ce ra li bi) := by rw [hu4]; exact gup_self _ _ _
        have hu4_1 : u4 (m + 1) = some (.inl ((X.2 0), 4, .inl mem)) := by rw [hu4, gup_ne (by omega)]; exact hub3_1
        have hu4_2 : u4 (m + 3) = some (.inl ((X.2 2), 48, .inl lef)) := by rw [hu4, gup_ne (by omega)]; exact hub3_2
        have hu4_3 : u4 (m + 16) = some (.inl ((X.2 2), 4, .inl ope)) := by rw [hu4, gup_ne (by omega)]; exact hub3_3
        have hu4_4 : u4 (m + 9) = some (.inl ((X.2 0), 64, .inl cof)) := by rw [hu4, gup_ne (by omega)]; exact hub3_4
        have hu4_5 : u4 (m + 11) = some (.inl ((X.2 2), 64, .inl str)) := by rw [hu4, gup_ne (by omega)]; exact hub3_5
        have hu4_6 : u4 (m + 15) = some (.inl ((X.2 1), 48, .inr (.inl sen))) := by rw [hu4, gup_ne (by omega)]; exact hub3_6
        have hu4_7 : u4 (m + 13) = some (.inl ((X.2 1), 768, .inr (.inl pai))) := by rw [hu4, gup_ne (by omega)]; exact hub3_7
        have hu4_8 : u4 (m + 12) = some (.inl ((X.2 1), 768, .inr (.inl sha))) := by rw [hu4, gup_ne (by omega)]; exact hub3_8
        refine g_iconst (v := 0) C d_M_leave_48 (by decide) ?_
        exact g_zret C hR hret rfl ⟨rfl, Or.inr ⟨by simp only [okLea, bI_ne0.mp c6, decide_eq_true c20, if_pos c20, decide_eq_false c31, if_neg c31, Bool.not_true, Bool.not_false, Bool.and_true, Bool.true_and, Bool.false_and, Bool.and_false, bI_t, bI_f], rfl, (by first | (rw [hu4, hub3]; done) | (rw [hu4, hub3]; funext k; simp only [gup]; (repeat' split) <;> first | with_reducible rfl | (exfalso; omega) | rfl))⟩⟩ d_M_leave_49
      · rw [lg_cmp_eq] at c31
        refine g_aload_n C d_M_leave_34 rfl 0 rfl ?_
        refine g_get m 23 C hub3_0 rfl i_M (by decide) (gmem wd_541 rfl) rfl rfl d_M_leave_35 ?_
        refine g_iload_n C d_M_leave_38 rfl 1 rfl ?_
        refine g_zald (m + 16) 2 C hub3_3 rfl (memM_c (bI_ne0.mp c6) hcl) d_M_leave_39 ?_
        refine g_if_eq 50 C d_M_leave_40 (by decide) (fun c40 => ?_) (fun c40 => ?_)
        · skip
          refine g_aload_n C d_M_leave_50 rfl 0 rfl ?_
          refine g_get m 4 C hub3_0 rfl i_M (by decide) (gmem wd_522 rfl) rfl rfl d_M_leave_51 ?_
          refine g_bipush (v := 12) C d_M_leave_54 (by decide) ?_
          refine g_iload_n C d_M_leave_56 rfl 1 rfl ?_
          refine g_imul C d_M_leave_57 ?_
          refine g_iload_n C d_M_leave_58 rfl 2 rfl ?_
          refine g_iadd C d_M_leave_59 ?_
          refine g_iconst (v := 1) C d_M_leave_60 (by decide) ?_
          refine g_zast (m + 3) 2 C hub3_2 rfl (in48 (memM_c (bI_ne0.mp c6) hcl) (memM_x (bI_ne0.mp c6) hmem hcl)).1 d_M_leave_61 ?_
          rw [show Int32.toNatClampNeg ((12 * c) + x) = 12 * c.toNatClampNeg + x.toNatClampNeg from (in48 (memM_c (bI_ne0.mp c6) hcl) (memM_x (bI_ne0.mp c6) hmem hcl)).2]
          rw [show vp_nar .boolean 1 = 1 from rfl]
          obtain ⟨u5, hu5⟩ : ∃ z, z = gup ub3 (m + 3) (.inl ((X.2 2), 48, .inl (upd lef (12 * c.toNatClampNeg + x.toNatClampNeg) 1))) := ⟨_, rfl⟩
          rw [← hu5]
          have hu5_0 : u5 m = some (mO ad m 0 cl dr wy ce ra li bi) := by rw [hu5, gup_ne (by omega)]; exact hub3_0
          have hu5_1 : u5 (m + 1) = some (.inl ((X.2 0), 4, .inl mem)) := by rw [hu5, gup_ne (by omega)]; exact hub3_1
          have hu5_2 : u5 (m + 3) = some (.inl ((X.2 2), 48, .inl (upd lef (12 * c.toNatClampNeg + x.toNatClampNeg) 1))) := by rw [hu5]; exact gup_self _ _ _
          have hu5_3 : u5 (m + 16) = some (.inl ((X.2 2), 4, .inl ope)) := by rw [hu5, gup_ne (by omega)]; exact hub3_3
          have hu5_4 : u5 (m + 9) = some (.inl ((X.2 0), 64, .inl cof)) := by rw [hu5, gup_ne (by omega)]; exact hub3_4
          have hu5_5 : u5 (m + 11) = some (.inl ((X.2 2), 64, .inl str)) := by rw [hu5, gup_ne (by omega)]; exact hub3_5
          have hu5_6 : u5 (m + 15) = some (.inl ((X.2 1), 48, .inr (.inl sen))) := by rw [hu5, gup_ne (by omega)]; exact hub3_6
          have hu5_7 : u5 (m + 13) = some (.inl ((X.2 1), 768, .inr (.inl pai))) := by rw [hu5, gup_ne (by omega)]; exact hub3_7
          have hu5_8 : u5 (m + 12) = some (.inl ((X.2 1), 768, .inr (.inl sha))) := by rw [hu5, gup_ne (by omega)]; exact hub3_8
          refine g_iconst (v := 1) C d_M_leave_62 (by decide) ?_
          exact g_zret C hR hret rfl ⟨rfl, Or.inl ⟨by simp only [okLea, bI_ne0.mp c6, decide_eq_true c20, if_pos c20, decide_eq_true c31, if_pos c31, decide_eq_true c40, if_pos c40, Bool.not_true, Bool.not_false, Bool.and_true, Bool.true_and, Bool.false_and, Bool.and_false, bI_t, bI_f], rfl, (by first | (rw [hu5, hub3]; done) | (rw [hu5, hub3]; funext k; simp only [gup]; (repeat' split) <;> first | with_reducible rfl | (exfalso; omega) | rfl))⟩⟩ d_M_leave_63
        · skip
          refine g_aload_n C d_M_leave_43 rfl 0 rfl ?_
          refine g_iconst (v := 0) C d_M_leave_44 (by decide) ?_
          refine g_put m 0 C hub3_0 rfl i_M t_M t_M_ok n_M (by decide) (gmem wd_518 rfl) rfl rfl rfl rfl (Nat.le_of_ble_eq_true rfl) d_M_leave_45 ?_
          show GW Z _ _ _ ad (gup ub3 m (mO ad m 0 cl dr wy ce ra li bi)) _ _ _ _ _ _
          obtain ⟨u6, hu6⟩ : ∃ z, z = gup ub3 m (mO ad m 0 cl dr wy ce ra li bi) := ⟨_, rfl⟩
          rw [← hu6]
          have hu6_0 : u6 m = some (mO ad m 0 cl dr wy ce ra li bi) := by rw [hu6]; exact gup_self _ _ _
          have hu6_1 : u6 (m + 1) = some (.inl ((X.2 0), 4, .inl mem)) := by rw [hu6, gup_ne (by omega)]; exact hub3_1
          have hu6_2 : u6 (m + 3) = some (.inl ((X.2 2), 48, .inl lef)) := by rw [hu6, gup_ne (by omega)]; exact hub3_2
          have hu6_3 : u6 (m + 16) = some (.inl ((X.2 2), 4, .inl ope)) := by rw [hu6, gup_ne (by omega)]; exact hub3_3
          have hu6_4 : u6 (m + 9) = some (.inl ((X.2 0), 64, .inl cof)) := by rw [hu6, gup_ne (by omega)]; exact hub3_4
          have hu6_5 : u6 (m + 11) = some (.inl ((X.2 2), 64, .inl str)) := by rw [hu6, gup_ne (by omega)]; exact hub3_5
          have hu6_6 : u6 (m + 15) = some (.inl ((X.2 1), 48, .inr (.inl sen))) := by rw [hu6, gup_ne (by omega)]; exact hub3_6
          have hu6_7 : u6 (m + 13) = some (.inl ((X.2 1), 768, .inr (.inl pai))) := by rw [hu6, gup_ne (by omega)]; exact hub3_7
          have hu6_8 : u6 (m + 12) = some (.inl ((X.2 1), 768, .inr (.inl sha))) := by rw [hu6, gup_ne (by omega)]; exact hub3_8
          refine g_iconst (v := 0) C d_M_leave_48 (by decide) ?_
          exact g_zret C hR hret rfl ⟨rfl, Or.inr ⟨by simp only [okLea, bI_ne0.mp c6, decide_eq_true c20, if_pos c20, decide_eq_true c31, if_pos c31, decide_eq_false c40, if_neg c40, Bool.not_true, Bool.not_false, Bool.and_true, Bool.true_and, Bool.false_and, Bool.and_false, bI_t, bI_f], rfl, (by first | (rw [hu6, hub3]; done) | (rw [hu6, hub3]; funext k; simp only [gup]; (repeat' split) <;> first | with_reducible rfl | (exfalso; omega) | rfl))⟩⟩ d_M_leave_49
