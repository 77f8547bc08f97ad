def okBill (cl c w n r : Int32) : Bool := isMb c cl && (withM w 1 5 && (withM n 1 100000000 && withM r 1 1000000000))
def okPay (cl dr : Int32) (mem lef : Nat → Int32) (x n : Int32) : Bool := staM cl dr mem lef x && withM n 0 100000000
def hiW (wy : Int32) : Int32 := if wy = 1 then 1 else if wy = 2 then 1000 else if wy = 3 then 100000000 else 10000
def okWei (cl dr wy : Int32) (mem lef : Nat → Int32) (x n : Int32) : Bool := staM cl dr mem lef x && (!decide (wy = 5) && withM n 0 (hiW wy))
theorem staM_m {cl dr : Int32} {mem lef : Nat → Int32} {x : Int32} (h : staM cl dr mem lef x = true) : memM cl mem dr x = true := (Bool.and_eq_true_iff.mp (Bool.and_eq_true_iff.mp h).2).1
theorem fillI_s2 (f : Nat → Int32) (v : Int32) (i : Nat) : upd (fillI f v i) i v = fillI f v (i + 1) := fillI_s f v i
set_option maxHeartbeats 4000000 in
set_option maxRecDepth 100000 in
theorem k_M_bill (l : Launch) (X : gX) (ad : Nat → Nat) (u : gW) (sz : Nat) (m : Nat) (th cl dr wy ce ra li bi : Int32) (pay wei : Nat → Int32) (c w n r : Int32) (hm : u m = some (mO ad m th cl dr wy ce ra li bi)) (h_pay : u (m + 4) = some (.inl ((X.2 0), 12, .inl pay))) (h_wei : u (m + 5) = some (.inl ((X.2 0), 12, .inl wei)))  : gMet l (EE X) y_M_bill c_M_bill 6 (some .boolean) ({ frames := 1, cells := 0, slots := 0, locals := 22 }) [.ref (ad m), .int c, .int w, .int n, .int r] ad u sz (fun v u' sz' => sz' = sz ∧ ((okBill cl c w n r = true ∧ v = some (.int 1) ∧ u' = gup (gup (gup u m (mO ad m 0 cl c w n r 0 bi)) (m + 4) (.inl ((X.2 0), 12, .inl (fillI pay 0 12)))) (m + 5) (.inl ((X.2 0), 12, .inl (fillI wei 0 12)))) ∨ (okBill cl c w n r = false ∧ v = some (.int 0) ∧ u' = gup u m (mO ad m 0 cl dr wy ce ra li bi)))) := by
  refine gMet_of "ExpenseClubsModel" rfl (by decide) (Nat.le_of_ble_eq_true rfl) (lv := [(0, .ref (ad m)), (1, .int c), (2, .int w), (3, .int n), (4, .int r)]) rfl (fun Z hZl C hR hret hname => ?_)
  refine g_aload_n C d_M_bill_0 rfl 0 rfl ?_
  refine g_iconst (v := 0) C d_M_bill_1 (by decide) ?_
  refine g_put m 0 C hm rfl i_M t_M t_M_ok n_M (by decide) (gmem wd_518 rfl) rfl rfl rfl rfl (Nat.le_of_ble_eq_true rfl) d_M_bill_2 ?_
  show GW Z _ _ _ ad (gup u m (mO ad m 0 cl dr wy ce ra li bi)) _ _ _ _ _ _
  obtain ⟨u1, hu1⟩ : ∃ z, z = gup u m (mO ad m 0 cl dr wy ce ra li bi) := ⟨_, rfl⟩
  rw [← hu1]
  have hu1_0 : u1 m = some (mO ad m 0 cl dr wy ce ra li bi) := by rw [hu1]; exact gup_self _ _ _
  have hu1_1 : u1 (m + 4) = some (.inl ((X.2 0), 12, .inl pay)) := by rw [hu1, gup_ne (by omega)]; exact h_pay
  have hu1_2 : u1 (m + 5) = some (.inl ((X.2 0), 12, .inl wei)) := by rw [hu1, gup_ne (by omega)]; exact h_wei
  refine g_aload_n C d_M_bill_5 rfl 0 rfl ?_
  refine g_iload_n C d_M_bill_6 rfl 1 rfl ?_
  refine g_callV 1 C (k_M_isClub _ X ad u1 sz m 0 cl dr wy ce ra li bi  c hu1_0 ) (gmem wd_630 rfl) (gmem wd_632 rfl) (gmem ws_10 rfl) (gmem wd_4 rfl) (gmem wd_633 rfl) ⟨by decide, by decide, by decide +kernel⟩ ⟨Nat.le_of_ble_eq_true rfl, Nat.le_of_ble_eq_true rfl⟩ hu1_0 rfl rfl rfl (Nat.le_of_ble_eq_true rfl) d_M_bill_7 ⟨Nat.le_of_ble_eq_true rfl, Nat.le_of_ble_eq_true rfl⟩ ?_
  rintro v9 u9 s9 ⟨h9, hu9, hs9⟩; rw [h9, hu9, hs9]; clear h9 hu9 hs9 v9 u9 s9
  show GW Z _ _ _ ad u1 sz [(0, .ref (ad m)), (1, .int c), (2, .int w), (3, .int n), (4, .int r)] 0 0 10 [.int (bI (isMb c cl))]
  refine g_if_eq 43 C d_M_bill_10 (by decide) (fun c10 => ?_) (fun c10 => ?_)
  · skip
    refine g_iconst (v := 0) C d_M_bill_43 (by decide) ?_
    exact g_zret C hR hret rfl ⟨rfl, Or.inr ⟨by simp only [okBill, bI_eq0.mp c10, Bool.not_true, Bool.not_false, Bool.and_true, Bool.true_and, Bool.false_and, Bool.and_false, bI_t, bI_f], rfl, (by first | (rw [hu1]; done) | (rw [hu1]; funext k; simp only [gup]; (repeat' split) <;> first | with_reducible rfl | (exfalso; omega) | rfl))⟩⟩ d_M_bill_44
  · skip
    refine g_iload_n C d_M_bill_13 rfl 2 rfl ?_
    refine g_iconst (v := 1) C d_M_bill_14 (by decide) ?_
    refine g_iconst (v := 5) C d_M_bill_15 (by decide) ?_
    refine g_callS 3 C (k_M_within _ X ad u1 sz w 1 5) (gmem wd_650 rfl) (gmem wd_651 rfl) (gmem wd_4 rfl) (gmem wd_652 rfl) ⟨by decide, by decide, by decide +kernel⟩ ⟨Nat.le_of_ble_eq_true rfl, Nat.le_of_ble_eq_true rfl⟩ rfl rfl (Nat.le_of_ble_eq_true rfl) d_M_bill_16 ⟨Nat.le_of_ble_eq_true rfl, Nat.le_of_ble_eq_true rfl⟩ ?_
    rintro v9 u9 s9 ⟨h9, hu9, hs9⟩; rw [h9, hu9, hs9]; clear h9 hu9 hs9 v9 u9 s9
    show GW Z _ _ _ ad u1 sz [(0, .ref (ad m)), (1, .int c), (2, .int w), (3, .int n), (4, .int r)] 0 0 19 [.int (bI (withM w 1 5))]
    refine g_if_eq 43 C d_M_bill_19 (by decide) (fun c19 => ?_) (fun c19 => ?_)
    · skip
      refine g_iconst (v := 0) C d_M_bill_43 (by decide) ?_
      exact g_zret C hR hret rfl ⟨rfl, Or.inr ⟨by simp only [okBill, bI_ne0.mp c10, bI_eq0.mp c19, Bool.not_true, Bool.not_false, Bool.and_true, Bool.true_and, Bool.false_and, Bool.and_false, bI_t, bI_f], rfl, (by first | (rw [hu1]; done) | (rw [hu1]; funext k; simp only [gup]; (repeat' split) <;> first | with_reducible rfl | (exfalso; omega) | rfl))⟩⟩ d_M_bill_44
    · skip
      refine g_iload_n C d_M_bill_22 rfl 3 rfl ?_
      refine g_iconst (v := 1) C d_M_bill_23 (by decide) ?_
      refine g_ldc C (gmem wd_653 rfl) d_M_bill_24 ?_
      refine g_callS 3 C (k_M_within _ X ad u1 sz n 1 100000000) (gmem wd_650 rfl) (gmem wd_651 rfl) (gmem wd_4 rfl) (gmem wd_652 rfl) ⟨by decide, by decide, by decide +kernel⟩ ⟨Nat.le_of_ble_eq_true rfl, Nat.le_of_ble_eq_true rfl⟩ rfl rfl (Nat.le_of_ble_eq_true rfl) d_M_bill_26 ⟨Nat.le_of_ble_eq_true rfl, Nat.le_of_ble_eq_true rfl⟩ ?_
      rintro v9 u9 s9 ⟨h9, hu9, hs9⟩; rw [h9, hu9, hs9]; clear h9 hu9 hs9 v9 u9 s9
      show GW Z _ _ _ ad u1 sz [(0, .ref (ad m)), (1, .int c), (2, .int w), (3, .int n), (4, .int r)] 0 0 29 [.int (bI (withM n 1 100000000))]
      refine g_if_eq 43 C d_M_bill_29 (by decide) (fun c29 => ?_) (fun c29 => ?_)
      · skip
        refine g_iconst (v := 0) C d_M_bill_43 (by decide) ?_
        exact g_zret C hR hret rfl ⟨rfl, Or.inr ⟨by simp only [okBill, bI_ne0.mp c10, bI_ne0.mp c19, bI_eq0.mp c29, Bool.not_true, Bool.not_false, Bool.and_true, Bool.true_and, Bool.false_and, Bool.and_false, bI_t, bI_f], rfl, (by first | (rw [hu1]; done) | (rw [hu1]; funext k; simp only [gup]; (repeat' split) <;> first | with_reducible rfl | (exfalso; omega) | rfl))⟩⟩ d_M_bill_44
      · skip
        refine g_iload C d_M_bill_32 4 rfl ?_
        refine g_iconst (v := 1) C d_M_bill_34 (by decide) ?_
        refine g_ldc C (gmem wd_654 rfl) d_M_bill_35 ?_
        refine g_callS 3 C (k_M_within _ X ad u1 sz r 1 1000000000) (gmem wd_650 rfl) (gmem wd_651 rfl) (gmem wd_4 rfl) (gmem wd_652 rfl) ⟨by decide, by decide, by decide +kernel⟩ ⟨Nat.le_of_ble_eq_true rfl, Nat.le_of_ble_eq_true rfl⟩ rfl rfl (Nat.le_of_ble_eq_true rfl) d_M_bill_37 ⟨Nat.le_of_ble_eq_true rfl, Nat.le_of_ble_eq_true rfl⟩ ?_
        rintro v9 u9 s9 ⟨h9, hu9, hs9⟩; rw [h9, hu9, hs9]; clear h9 hu9 hs9 v9 u9 s9
        show GW Z _ _ _ ad u1 sz [(0, .ref (ad m)), (1, .int c), (2, .int w), (3, .int n), (4, .int r)] 0 0 40 [.int (bI (withM r 1 1000000000))]
        refine g_if_ne 45 C d_M_bill_40 (by decide) (fun c40 => ?_) (fun c40 => ?_)
        · skip
          refine g_aload_n C d_M_bill_45 rfl 0 rfl ?_
          refine g_iload_n C d_M_bill_46 rfl 1 rfl ?_
          refine g_put m 5 C hu1_0 rfl i_M t_M t_M_ok n_M (by decide) (gmem wd_523 rfl) rfl rfl rfl rfl (Nat.le_of_ble_eq_true rfl) d_M_bill_47 ?_
          show GW Z _ _ _ ad (gup u1 m (mO ad m 0 cl c wy ce ra li bi)) _ _ _ _ _ _
          obtain ⟨u2, hu2⟩ : ∃ z, z = gup u1 m (mO ad m 0 cl c wy ce ra li bi) := ⟨_, rfl⟩
          rw [← hu2]
          have hu2_0 : u2 m = some (mO ad m 0 cl c wy ce ra li bi) := by rw [hu2]; exact gup_self _ _ _
          have hu2_1 : u2 (m + 4) = some (.inl ((X.2 0), 12, .inl pay)) := by rw [hu2, gup_ne (by omega)]; exact hu1_1
          have hu2_2 : u2 (m + 5) = some (.inl ((X.2 0), 12, .inl wei)) := by rw [hu2, gup_ne (by omega)]; exact hu1_2
          refine g_aload_n C d_M_bill_50 rfl 0 rfl ?_
          refine g_iload_n C d_M_bill_51 rfl 2 rfl ?_
          refine g_put m 6 C hu2_0 rfl i_M t_M t_M_ok n_M (by decide) (gmem wd_524 rfl) rfl rfl rfl rfl (Nat.le_of_ble_eq_true rfl) d_M_bill_52 ?_
          show GW Z _ _ _ ad (gup u2 m (mO ad m 0 cl c w ce ra li bi)) _ _ _ _ _ _
          obtain ⟨u3, hu3⟩ : ∃ z, z = gup u2 m (mO ad m 0 cl c w ce ra li bi) := ⟨_, rfl⟩
          rw [← hu3]
          have hu3_0 : u3 m = some (mO ad m 0 cl c w ce ra li bi) := by rw [hu3]; exact gup_self _ _ _
          have hu3_1 : u3 (m + 4) = some (.inl ((X.2 0), 12, .inl pay)) := by rw [hu3, gup_ne (by omega)]; exact hu2_1
          have hu3_2 : u3 (m + 5) = some (.inl ((X.2 0), 12, .inl wei)) := by rw [hu3, gup_ne (by omega)]; exact hu2_2
          refine g_aload_n C d_M_bill_55 rfl 0 rfl ?_
          refine g_iload_n C d_M_bill_56 rfl 3 rfl ?_
          refine g_put m 7 C hu3_0 rfl i_M t_M t_M_ok n_M (by decide) (gmem wd_525 rfl) rfl rfl rfl rfl (Nat.le_of_ble_eq_true rfl) d_M_bill_57 ?_
          show GW Z _ _ _ ad (gup u3 m (mO ad m 0 cl c w n ra li bi)) _ _ _ _ _ _
          obtain ⟨u4, hu4⟩ : ∃ z, z = gup u3 m (mO ad m 0 cl c w n ra li bi) := ⟨_, rfl⟩
          rw [← hu4]
          have hu4_0 : u4 m = some (mO ad m 0 cl c w n ra li bi) := by rw [hu4]; exact gup_self _ _ _
          have hu4_1 : u4 (m + 4) = some (.inl ((X.2 0), 12, .inl pay)) := by rw [hu4, gup_ne (by omega)]; exact hu3_1
          have hu4_2 : u4 (m + 5) = some (.inl ((X.2 0), 12, .inl wei)) := by rw [hu4, gup_ne (by omega)]; exact hu3_2
          refine g_aload_n C d_M_bill_60 rfl 0 rfl ?_
          refine g_iload C d_M_bill_61 4 rfl ?_
          refine g_put m 8 C hu4_0 rfl i_M t_M t_M_ok n_M (by decide) (gmem wd_526 rfl) rfl rfl rfl rfl (Nat.le_of_ble_eq_true rfl) d_M_bill_63 ?_
          show GW Z _ _ _ ad (gup u4 m (mO ad m 0 cl c w n r li bi)) _ _ _ _ _ _
          obtain ⟨u5, hu5⟩ : ∃ z, z = gup u4 m (mO ad m 0 cl c w n r li bi) := ⟨_, rfl⟩
          rw [← hu5]
          have hu5_0 : u5 m = some (mO ad m 0 cl c w n r li bi) := by rw [hu5]; exact gup_self _ _ _
          have hu5_1 : u5 (m + 4) = some (.inl ((X.2 0), 12, .inl pay)) := by rw [hu5, gup_ne (by omega)]; exact hu4_1
          have hu5_2 : u5 (m + 5) = some (.inl ((X.2 0), 12, .inl wei)) := by rw [hu5, gup_ne (by omega)]; exact hu4_2
          refine g_aload_n C d_M_bill_66 rfl 0 rfl ?_
          refine g_iconst (v := 0) C d_M_bill_67 (by decide) ?_
          refine g_put m 11 C hu5_0 rfl i_M t_M t_M_ok n_M (by decide) (gmem wd_529 rfl) rfl rfl rfl rfl (Nat.le_of_ble_eq_true rfl) d_M_bill_68 ?_
          show GW Z _ _ _ ad (gup u5 m (mO ad m 0 cl c w n r 0 bi)) _ _ _ _ _ _
          obtain ⟨u6, hu6⟩ : ∃ z, z = gup u5 m (mO ad m 0 cl c w n r 0 bi) := ⟨_, rfl⟩
          rw [← hu6]
          have hu6_0 : u6 m = some (mO ad m 0 cl c w n r 0 bi) := by rw [hu6]; exact gup_self _ _ _
          have hu6_1 : u6 (m + 4) = some (.inl ((X.2 0), 12, .inl pay)) := by rw [hu6, gup_ne (by omega)]; exact hu5_1
          have hu6_2 : u6 (m + 5) = some (.inl ((X.2 0), 12, .inl wei)) := by rw [hu6, gup_ne (by omega)]; exact hu5_2
          refine g_iconst (v := 0) C d_M_bill_71 (by decide) ?_
          refine g_istore C d_M_bill_72 [(5, .int 0), (0, .ref (ad m)), (1, .int c), (2, .int w), (3, .int n), (4, .int r)] (by decide) rfl ?_
          refine g_fewer (lv' := [(5, .int 0), (0, .ref (ad m))]) [0, 1] rfl ?_
          refine GW_eq (u2 := gup (gup u6 (m + 4) (.inl ((X.2 0), 12, .inl (fillI pay 0 0)))) (m + 5) (.inl ((X.2 0), 12, .inl (fillI wei 0 0)))) (lv2 := [(5, .int (nI 0)), (0, .ref (ad m))]) (by rw [fillI_0, fillI_0, gup_id hu6_1, gup_id hu6_2]) rfl ?_
          refine g_loop 12 (fun iL3 => True) (fun iL3 => gup (gup u6 (m + 4) (.inl ((X.2 0), 12, .inl (fillI pay 0 iL3)))) (m + 5) (.inl ((X.2 0), 12, .inl (fillI wei 0 iL3)))) (fun iL3 => [(5, .int (nI iL3)), (0, .ref (ad m))]) (fun iL3 hiL3 piL3 KL3 => ?_) (fun piL3 => ?_) 0 (by omega) trivial
          · skip
            show GW Z _ _ _ ad (gup (gup u6 (m + 4) (.inl ((X.2 0), 12, .inl (fillI pay 0 iL3)))) (m + 5) (.inl ((X.2 0), 12, .inl (fillI wei 0 iL3)))) _ [(5, .int (nI iL3)), (0, .ref (ad m))] _ _ 74 []
            obtain ⟨wL3s, hwL3s⟩ : ∃ z, z = gup (gup u6 (m + 4) (.inl ((X.2 0), 12, .inl (fillI pay 0 iL3)))) (m + 5) (.inl ((X.2 0), 12, .inl (fillI wei 0 iL3))) := ⟨_, rfl⟩
            rw [← hwL3s]
            have hwL3s_0 : wL3s m = some (mO ad m 0 cl c w n r 0 bi) := by rw [hwL3s, gup_ne (by omega), gup_ne (by omega)]; exact hu6_0
            have hwL3s_1 : wL3s (m + 4) = some (.inl ((X.2 0), 12, .inl (fillI pay 0 iL3))) := by rw [hwL3s, gup_ne (by omega), gup_self]
            have hwL3s_2 : wL3s (m + 5) = some (.inl ((X.2 0), 12, .inl (fillI wei 0 iL3))) := by rw [hwL3s, gup_self]
            refine g_iload C d_M_bill_74 0 rfl ?_
            refine g_bipush (v := 12) C d_M_bill_76 (by decide) ?_
            refine g_icmp_ge 103 C d_M_bill_78 (by decide) (fun c3s78 => ?_) (fun c3s78 => ?_)
            · exact absurd c3s78 (ge12 hiL3)
            refine g_aload_n C d_M_bill_81 rfl 1 rfl ?_
            refine g_get m 9 C hwL3s_0 rfl i_M (by decide) (gmem wd_527 rfl) rfl rfl d_M_bill_82 ?_
            refine g_iload C d_M_bill_85 0 rfl ?_
            refine g_iconst (v := 0) C d_M_bill_87 (by decide) ?_
            refine g_iast (m + 4) 0 C hwL3s_1 rfl (vp_in_nI (by omega) (by decide)) d_M_bill_88 ?_
            rw [show Int32.toNatClampNeg (nI iL3) = iL3 from nI_clamp (by omega)]
            obtain ⟨u3s7, hu3s7⟩ : ∃ z, z = gup wL3s (m + 4) (.inl ((X.2 0), 12, .inl (upd (fillI pay 0 iL3) iL3 0))) := ⟨_, rfl⟩
            rw [← hu3s7]
            have hu3s7_0 : u3s7 m = some (mO ad m 0 cl c w n r 0 bi) := by rw [hu3s7, gup_ne (by omega)]; exact hwL3s_0
            have hu3s7_1 : u3s7 (m + 4) = some (.inl ((X.2 0), 12, .inl (upd (fillI pay 0 iL3) iL3 0))) := by rw [hu3s7]; exact gup_self _ _ _
            have hu3s7_2 : u3s7 (m + 5) = some (.inl ((X.2 0), 12, .inl (fillI wei 0 iL3))) := by rw [hu3s7, gup_ne (by omega)]; exact hwL3s_2
            refine g_aload_n C d_M_bill_89 rfl 1 rfl ?_
            refine g_get m 10 C hu3s7_0 rfl i_M (by decide) (gmem wd_528 rfl) rfl rfl d_M_bill_90 ?_
            refine g_iload C d_M_bill_93 0 rfl ?_
            refine g_iconst (v := 0) C d_M_bill_95 (by decide) ?_
            refine g_iast (m + 5) 0 C hu3s7_2 rfl (vp_in_nI (by omega) (by decide)) d_M_bill_96 ?_
            rw [show Int32.toNatClampNeg (nI iL3) = iL3 from nI_clamp (by omega)]
            obtain ⟨u3s8, hu3s8⟩ : ∃ z, z = gup u3s7 (m + 5) (.inl ((X.2 0), 12, .inl (upd (fillI wei 0 iL3) iL3 0))) := ⟨_, rfl⟩
            rw [← hu3s8]
            have hu3s8_0 : u3s8 m = some (mO ad m 0 cl c w n r 0 bi) := by rw [hu3s8, gup_ne (by omega)]; exact hu3s7_0
            have hu3s8_1 : u3s8 (m + 4) = some (.inl ((X.2 0), 12, .inl (upd (fillI pay 0 iL3) iL3 0))) := by rw [hu3s8, gup_ne (by omega)]; exact hu3s7_1
            have hu3s8_2 : u3s8 (m + 5) = some (.inl ((X.2 0), 12, .inl (upd (fillI wei 0 iL3) iL3 0))) := by rw [hu3s8]; exact gup_self _ _ _
            obtain ⟨x3s97, ex3s97⟩ : ∃ y : Int32, y = (nI iL3) + 1 := ⟨_, rfl⟩
            refine g_iinc (v := x3s97) C d_M_bill_97 0 rfl (by rw [ex3s97]; rfl) [(5, .int x3s97), (0, .ref (ad m))] (by decide) rfl ?_
            refine g_goto 74 C d_M_bill_100 (by decide) ?_
            refine GW_eq (u2 := gup (gup u6 (m + 4) (.inl ((X.2 0), 12, .inl (fillI pay 0 (iL3 + 1))))) (m + 5) (.inl ((X.2 0), 12, .inl (fillI wei 0 (iL3 + 1))))) (lv2 := [(5, .int (nI (iL3 + 1))), (0, .ref (ad m))]) ?_ ?_ (KL3 trivial)
            · first | (rw [hu3s8, hu3s7, hwL3s]; done) | (rw [hu3s8, hu3s7, hwL3s]; simp only [fillI_s]; done) | (rw [hu3s8, hu3s7, hwL3s]; simp only [fillI_s]; funext k; simp only [gup]; (repeat' split) <;> first | with_reducible rfl | (exfalso; omega) | rfl)
            · first | rfl | simp only [ex3s97, nI_1, nI_0]
          · skip
            show GW Z _ _ _ ad (gup (gup u6 (m + 4) (.inl ((X.2 0), 12, .inl (fillI pay 0 12)))) (m + 5) (.inl ((X.2 0), 12, .inl (fillI wei 0 12)))) _ [(5, .int (nI 12)), (0, .ref (ad m))] _ _ 74 []
            obtain ⟨wL3e, hwL3e⟩ : ∃ z, z = gup (gup u6 (m + 4) (.inl ((X.2 0), 12, .inl (fillI pay 0 12)))) (m + 5) (.inl ((X.2 0), 12, .inl (fillI wei 0 12))) := ⟨_, rfl⟩
            rw [← hwL3e]
            have hwL3e_0 : wL3e m = some (mO ad m 0 cl c w n r 0 bi) := by rw [hwL3e, gup_ne (by omega), gup_ne (by omega)]; exact hu6_0
            have hwL3e_1 : wL3e (m + 4) = some (.inl ((X.2 0), 12, .inl (fillI pay 0 12))) := by rw [hwL3e, gup_ne (by omega), gup_self]
            have hwL3e_2 : wL3e (m + 5) = some (.inl ((X.2 0), 12, .inl (fillI wei 0 12))) := by rw [hwL3e, gup_self]
            refine g_iload C d_M_bill_74 0 rfl ?_
            refine g_bipush (v := 12) C d_M_bill_76 (by decide) ?_
            refine g_icmp_ge 103 C d_M_bill_78 (by decide) (fun c3e78 => ?_) (fun c3e78 => ?_)
            rotate_left
            · exact absurd (by decide) c3e78
            refine g_iconst (v := 1) C d_M_bill_103 (by decide) ?_
            have hfin3e9 : wL3e = gup (gup (gup u m (mO ad m 0 cl c w n r 0 bi)) (m + 4) (.inl ((X.2 0), 12, .inl (fillI pay 0 12)))) (m + 5) (.inl ((X.2 0), 12, .inl (fillI wei 0 12))) := by
              funext k
              by_cases hk0 : k = m
              · rw [hk0, hwL3e_0, gup_ne (by omega), gup_ne (by omega), gup_self]
              by_cases hk1 : k = m + 4
              · rw [hk1, hwL3e_1, gup_ne (by omega), gup_self]
              by_cases hk2 : k = m + 5
              · rw [hk2, hwL3e_2, gup_self]
              rw [hwL3e, gup_ne hk2, gup_ne hk1]
              rw [hu6, gup_ne hk0]
              rw [hu5, gup_ne hk0]
              rw [hu4, gup_ne hk0]
              rw [hu3, gup_ne hk0]
              rw [hu2, gup_ne hk0]
              rw [hu1, gup_ne hk0]
              rw [gup_ne hk2, gup_ne hk1, gup_ne hk0]
            exact g_zret C hR hret rfl ⟨rfl, Or.inl ⟨by simp only [okBill, bI_ne0.mp c10, bI_ne0.mp c19, bI_ne0.mp c29, bI_ne0.mp c40, Bool.not_true, Bool.not_false, Bool.and_true, Bool.true_and, Bool.false_and, Bool.and_false, bI_t, bI_f], rfl, hfin3e9⟩⟩ d_M_bill_104
        · skip
          refine g_iconst (v := 0) C d_M_bill_43 (by decide) ?_
          exact g_zret C hR hret rfl ⟨rfl, Or.inr ⟨by simp only [okBill, bI_ne0.mp c10, bI_ne0.mp c19, bI_ne0.mp c29, bI_eq0.mp c40, Bool.not_true, Bool.not_false, Bool.and_true, Bool.true_and, Bool.false_and, Bool.and_false, bI_t, bI_f], rfl, (by first | (rw [hu1]; done) | (rw [hu1]; funext k; simp only [gup]; (repeat' split) <;> first | with_reducible rfl | (exfalso; omega) | rfl))⟩⟩ d_M_bill_44

set_option maxHeartbeats 4000000 in
set_option maxRecDepth 100000 in
theorem k_M_payer (l : Launch) (X : gX) (ad : Nat → Nat) (u : gW) (sz : Nat) (m : Nat) (th cl dr wy ce ra li bi : Int32) (mem lef pay : Nat → Int32) (x n : Int32) (hm : u m = some (mO ad m th cl dr wy ce ra li bi)) (h_mem : u (m + 1) = some (.inl ((X.2 0), 4, .inl mem))) (h_lef : u (m + 3) = some (.inl ((X.2 2), 48, .inl lef))) (h_pay : u (m + 4) = some (.inl ((X.2 0), 12, .inl pay))) (hcl : cl ≤ 4) (hmem : ∀ j, j < 4 → mem j ≤ 12) : gMet l (EE X) y_M_payer c_M_payer 3 (some .boolean) ({ frames := 3, cells := 0, slots := 0, locals := 64 }) [.ref (ad m), .int x, .int n] ad u sz (fun v u' sz' => sz' = sz ∧ ((okPay cl dr mem lef x n = true ∧ v = some (.int 1) ∧ u' = gup (gup u m (mO ad m 0 cl dr wy ce ra li bi)) (m + 4) (.inl ((X.2 0), 12, .inl (upd pay x.toNatClampNeg n)))) ∨ (okPay cl dr mem lef x n = false ∧ v = some (.int 0) ∧ u' = gup u m (mO ad m 0 cl dr wy ce ra li bi)))) := by
  refine gMet_of "ExpenseClubsModel" rfl (by decide) (Nat.le_of_ble_eq_true rfl) (lv := [(0, .ref (ad m)), (1, .int x), (2, .int n)]) rfl (fun Z hZl C hR hret hname => ?_)
  refine g_aload_n C d_M_payer_0 rfl 0 rfl ?_
  refine g_iconst (v := 0) C d_M_payer_1 (by decide) ?_
  refine g_put m 0 C hm rfl i_M t_M t_M_ok n_M (by decide) (gmem wd_518 rfl) rfl rfl rfl rfl (Nat.le_of_ble_eq_true rfl) d_M_payer_2 ?_
  show GW Z _ _ _ ad (gup u m (mO ad m 0 cl dr wy ce ra li bi)) _ _ _ _ _ _
  obtain ⟨u1, hu1⟩ : ∃ z, z = gup u m (mO ad m 0 cl dr wy ce ra li bi) := ⟨_, rfl⟩
  rw [← hu1]
  have hu1_0 : u1 m = some (mO ad m 0 cl dr wy ce ra li bi) := by rw [hu1]; exact gup_self _ _ _
  have hu1_1 : u1 (m + 1) = some (.inl ((X.2 0), 4, .inl mem)) := by rw [hu1, gup_ne (by omega)]; exact h_mem
  have hu1_2 : u1 (m + 3) = some (.inl ((X.2 2), 48, .inl lef)) := by rw [hu1, gup_ne (by omega)]; exact h_lef
  have hu1_3 : u1 (m + 4) = some (.inl ((X.2 0), 12, .inl pay)) := by rw [hu1, gup_ne (by omega)]; exact h_pay
  refine g_aload_n C d_M_payer_5 rfl 0 rfl ?_
  refine g_iload_n C d_M_payer_6 rfl 1 rfl ?_
  refine g_callV 1 C (k_M_stays _ X ad u1 sz m 0 cl dr wy ce ra li bi mem lef x hu1_0 hu1_1 hu1_2 hcl hmem) (gmem wd_659 rfl) (gmem wd_661 rfl) (gmem ws_12 rfl) (gmem wd_4 rfl) (gmem wd_662 rfl) ⟨by decide, by decide, by decide +kernel⟩ ⟨Nat.le_of_ble_eq_true rfl, Nat.le_of_ble_eq_true rfl⟩ hu1_0 rfl rfl rfl (Nat.le_of_ble_eq_true rfl) d_M_payer_7 ⟨Nat.le_of_ble_eq_true rfl, Nat.le_of_ble_eq_true rfl⟩ ?_
  rintro v9 u9 s9 ⟨h9, hu9, hs9⟩; rw [h9, hu9, hs9]; clear h9 hu9 hs9 v9 u9 s9
  show GW Z _ _ _ ad u1 sz [(0, .ref (ad m)), (1, .int x), (2, .int n)] 0 0 10 [.int (bI (staM cl dr mem lef x))]
  refine g_if_eq 23 C d_M_payer_10 (by decide) (fun c10 => ?_) (fun c10 => ?_)
  · skip
    refine g_iconst (v := 0) C d_M_payer_23 (by decide) ?_
    exact g_zret C hR hret rfl ⟨rfl, Or.inr ⟨by simp only [okPay, bI_eq0.mp c10, Bool.not_true, Bool.not_false, Bool.and_true, Bool.true_and, Bool.false_and, Bool.and_false, bI_t, bI_f], rfl, (by first | (rw [hu1]; done) | (rw [hu1]; funext k; simp only [gup]; (repeat' split) <;> first | with_reducible rfl | (exfalso; omega) | rfl))⟩⟩ d_M_payer_24
  · skip
    refine g_iload_n C d_M_payer_13 rfl 2 rfl ?_
    refine g_iconst (v := 0) C d_M_payer_14 (by decide) ?_
    refine g_ldc C (gmem wd_653 rfl) d_M_payer_15 ?_
    refine g_callS 3 C (k_M_within _ X ad u1 sz n 0 100000000) (gmem wd_650 rfl) (gmem wd_651 rfl) (gmem wd_4 rfl) (gmem wd_652 rfl) ⟨by decide, by decide, by decide +kernel⟩ ⟨Nat.le_of_ble_eq_true rfl, Nat.le_of_ble_eq_true rfl⟩ rfl rfl (Nat.le_of_ble_eq_true rfl) d_M_payer_17 ⟨Nat.le_of_ble_eq_true rfl, Nat.le_of_ble_eq_true rfl⟩ ?_
    rintro v9 u9 s9 ⟨h9, hu9, hs9⟩; rw [h9, hu9, hs9]; clear h9 hu9 hs9 v9 u9 s9
    show GW Z _ _ _ ad u1 sz [(0, .ref (ad m)), (1, .int x), (2, .int n)] 0 0 20 [.int (bI (withM n 0 100000000))]
    refine g_if_ne 25 C d_M_payer_20 (by decide) (fun c20 => ?_) (fun c20 => ?_)
    · skip
      refine g_aload_n C d_M_payer_25 rfl 0 rfl ?_
      refine g_get m 9 C hu1_0 rfl i_M (by decide) (gmem wd_527 rfl) rfl rfl d_M_payer_26 ?_
      refine g_iload_n C d_M_payer_29 rfl 1 rfl ?_
      refine g_iload_n C d_M_payer_30 rfl 2 rfl ?_
      refine g_iast (m + 4) 0 C hu1_3 rfl (memM_x (staM_m (bI_ne0.mp c10)) hmem hcl) d_M_payer_31 ?_
      obtain ⟨u2, hu2⟩ : ∃ z, z = gup u1 (m + 4) (.inl ((X.2 0), 12, .inl (upd pay (Int32.toNatClampNeg x) n))) := ⟨_, rfl⟩
      rw [← hu2]
      have hu2_0 : u2 m = some (mO ad m 0 cl dr wy ce ra li bi) := by rw [hu2, gup_ne (by omega)]; exact hu1_0
      have hu2_1 : u2 (m + 1) = some (.inl ((X.2 0), 4, .inl mem)) := by rw [hu2, gup_ne (by omega)]; exact hu1_1
      have hu2_2 : u2 (m + 3) = some (.inl ((X.2 2), 48, .inl lef)) := by rw [hu2, gup_ne (by omega)]; exact hu1_2
      have hu2_3 : u2 (m + 4) = some (.inl ((X.2 0), 12, .inl (upd pay (Int32.toNatClampNeg x) n))) := by rw [hu2]; exact gup_self _ _ _
      refine g_iconst (v := 1) C d_M_payer_32 (by decide) ?_
      exact g_zret C hR hret rfl ⟨rfl, Or.inl ⟨by simp only [okPay, bI_ne0.mp c10, bI_ne0.mp c20, Bool.not_true, Bool.not_false, Bool.and_true, Bool.true_and, Bool.false_and, Bool.and_false, bI_t, bI_f], rfl, (by first | (rw [hu2, hu1]; done) | (rw [hu2, hu1]; funext k; simp only [gup]; (repeat' split) <;> first | with_reducible rfl | (exfalso; omega) | rfl))⟩⟩ d_M_payer_33
    · skip
      refine g_iconst (v := 0) C d_M_payer_23 (by decide) ?_
      exact g_zret C hR hret rfl ⟨rfl, Or.inr ⟨by simp only [okPay, bI_ne0.mp c10, bI_eq0.mp c20, Bool.not_true, Bool.not_false, Bool.and_true, Bool.true_and, Bool.false_and, Bool.and_false, bI_t, bI_f], rfl, (by first | (rw [hu1]; done) | (rw [hu1]; funext k; simp only [gup]; (repeat' split) <;> first | with_reducible rfl | (exfalso; omega) | rfl))⟩⟩ d_M_payer_24

set_option maxHeartbeats 4000000 in
set_option maxRecDepth 100000 in
theorem k_M_weight (l : Launch) (X : gX) (ad : Nat → Nat) (u : gW) (sz : Nat) (m : Nat) (th cl dr wy ce ra li bi : Int32) (mem lef wei : Nat → Int32) (x n : Int32) (hm : u m = some (mO ad m th cl dr wy ce ra li bi)) (h_mem : u (m + 1) = some (.inl ((X.2 0), 4, .inl mem))) (h_lef : u (m + 3) = some (.inl ((X.2 2), 48, .inl lef))) (h_wei : u (m + 5) = some (.inl ((X.2 0), 12, .inl wei))) (hcl : cl ≤ 4) (hmem : ∀ j, j < 4 → mem j ≤ 12) : gMet l (EE X) y_M_weight c_M_weight 4 (some .boolean) ({ frames := 3, cells := 0, slots := 0, locals := 64 }) [.ref (ad m), .int x, .int n] ad u sz (fun v u' sz' => sz' = sz ∧ ((okWei cl dr wy mem lef x n = true ∧ v = some (.int 1) ∧ u' = gup (gup u m (mO ad m 0 cl dr wy ce ra li bi)) (m + 5) (.inl ((X.2 0), 12, .inl (upd wei x.toNatClampNeg n)))) ∨ (okWei cl dr wy mem lef x n = false ∧ v = some (.int 0) ∧ u' = gup u m (mO ad m 0 cl dr wy ce ra li bi)))) := by
  refine gMet_of "ExpenseClubsModel" rfl (by decide) (Nat.le_of_ble_eq_true rfl) (lv := [(0, .ref (ad m)), (1, .int x), (2, .int n)]) rfl (fun Z hZl C hR hret hname => ?_)
  refine g_aload_n C d_M_weight_0 rfl 0 rfl ?_
  refine g_iconst (v := 0) C d_M_weight_1 (by decide) ?_
  refine g_put m 0 C hm rfl i_M t_M t_M_ok n_M (by decide) (gmem wd_518 rfl) rfl rfl rfl rfl (Nat.le_of_ble_eq_true rfl) d_M_weight_2 ?_
  show GW Z _ _ _ ad (gup u m (mO ad m 0 cl dr wy ce ra li bi)) _ _ _ _ _ _
  obtain ⟨u1, hu1⟩ : ∃ z, z = gup u m (mO ad m 0 cl dr wy ce ra li bi) := ⟨_, rfl⟩
  rw [← hu1]
  have hu1_0 : u1 m = some (mO ad m 0 cl dr wy ce ra li bi) := by rw [hu1]; exact gup_self _ _ _
  have hu1_1 : u1 (m + 1) = some (.inl ((X.2 0), 4, .inl mem)) := by rw [hu1, gup_ne (by omega)]; exact h_mem
  have hu1_2 : u1 (m + 3) = some (.inl ((X.2 2), 48, .inl lef)) := by rw [hu1, gup_ne (by omega)]; exact h_lef
  have hu1_3 : u1 (m + 5) = some (.inl ((X.2 0), 12, .inl wei)) := by rw [hu1, gup_ne (by omega)]; exact h_wei
  refine g_aload_n C d_M_weight_5 rfl 0 rfl ?_
  refine g_get m 6 C hu1_0 rfl i_M (by decide) (gmem wd_524 rfl) rfl rfl d_M_weight_6 ?_
  refine g_iconst (v := 1) C d_M_weight_9 (by decide) ?_
  refine g_icmp_ne 17 C d_M_weight_10 (by decide) (fun c10 => ?_) (fun c10 => ?_)
  · skip
    refine g_aload_n C d_M_weight_17 rfl 0 rfl ?_
    refine g_get m 6 C hu1_0 rfl i_M (by decide) (gmem wd_524 rfl) rfl rfl d_M_weight_18 ?_
    refine g_iconst (v := 2) C d_M_weight_21 (by decide) ?_
    refine g_icmp_ne 31 C d_M_weight_22 (by decide) (fun c22 => ?_) (fun c22 => ?_)
    · skip
      refine g_aload_n C d_M_weight_31 rfl 0 rfl ?_
      refine g_get m 6 C hu1_0 rfl i_M (by decide) (gmem wd_524 rfl) rfl rfl d_M_weight_32 ?_
      refine g_iconst (v := 3) C d_M_weight_35 (by decide) ?_
      refine g_icmp_ne 44 C d_M_weight_36 (by decide) (fun c36 => ?_) (fun c36 => ?_)
      · skip
        refine g_sipush (v := 10000) C d_M_weight_44 (by decide) ?_
        refine g_istore_n C d_M_weight_47 rfl [(3, .int 10000), (0, .ref (ad m)), (1, .int x), (2, .int n)] (by decide) rfl ?_
        refine g_aload_n C d_M_weight_48 rfl 1 rfl ?_
        refine g_iload_n C d_M_weight_49 rfl 2 rfl ?_
        refine g_callV 1 C (k_M_stays _ X ad u1 sz m 0 cl dr wy ce ra li bi mem lef x hu1_0 hu1_1 hu1_2 hcl hmem) (gmem wd_659 rfl) (gmem wd_661 rfl) (gmem ws_12 rfl) (gmem wd_4 rfl) (gmem wd_662 rfl) ⟨by decide, by decide, by decide +kernel⟩ ⟨Nat.le_of_ble_eq_true rfl, Nat.le_of_ble_eq_true rfl⟩ hu1_0 rfl rfl rfl (Nat.le_of_ble_eq_true rfl) d_M_weight_50 ⟨Nat.le_of_ble_eq_true rfl, Nat.le_of_ble_eq_true rfl⟩ ?_
        rintro v9 u9 s9 ⟨h9, hu9, hs9⟩; rw [h9, hu9, hs9]; clear h9 hu9 hs9 v9 u9 s9
        show GW Z _ _ _ ad u1 sz [(3, .int 10000), (0, .ref (ad m)), (1, .int x), (2, .int n)] 0 0 53 [.int (bI (staM cl dr mem lef x))]
        refine g_if_eq 73 C d_M_weight_53 (by decide) (fun c53 => ?_) (fun c53 => ?_)
        · skip
          refine g_iconst (v := 0) C d_M_weight_73 (by decide) ?_
          exact g_zret C hR hret rfl ⟨rfl, Or.inr ⟨by simp only [okWei, hiW, decide_eq_false c10, if_neg c10, decide_eq_false c22, if_neg c22, decide_eq_false c36, if_neg c36, bI_eq0.mp c53, Bool.not_true, Bool.not_false, Bool.and_true, Bool.true_and, Bool.false_and, Bool.and_false, bI_t, bI_f], rfl, (by first | (rw [hu1]; done) | (rw [hu1]; funext k; simp only [gup]; (repeat' split) <;> first | with_reducible rfl | (exfalso; omega) | rfl))⟩⟩ d_M_weight_74
        · skip
          refine g_aload_n C d_M_weight_56 rfl 1 rfl ?_
          refine g_get m 6 C hu1_0 rfl i_M (by decide) (gmem wd_524 rfl) rfl rfl d_M_weight_57 ?_
          refine g_iconst (v := 5) C d_M_weight_60 (by decide) ?_
          refine g_icmp_eq 73 C d_M_weight_61 (by decide) (fun c61 => ?_) (fun c61 => ?_)
          · skip
            refine g_iconst (v := 0) C d_M_weight_73 (by decide) ?_
            exact g_zret C hR hret rfl ⟨rfl, Or.inr ⟨by simp only [okWei, hiW, decide_eq_false c10, if_neg c10, decide_eq_false c22, if_neg c22, decide_eq_false c36, if_neg c36, bI_ne0.mp c53, decide_eq_true c61, if_pos c61, Bool.not_true, Bool.not_false, Bool.and_true, Bool.true_and, Bool.false_and, Bool.and_false, bI_t, bI_f], rfl, (by first | (rw [hu1]; done) | (rw [hu1]; funext k; simp only [gup]; (repeat' split) <;> first | with_reducible rfl | (exfalso; omega) | rfl))⟩⟩ d_M_weight_74
          · skip
            refine g_iload_n C d_M_weight_64 rfl 3 rfl ?_
            refine g_iconst (v := 0) C d_M_weight_65 (by decide) ?_
            refine g_iload_n C d_M_weight_66 rfl 0 rfl ?_
            refine g_callS 3 C (k_M_within _ X ad u1 sz n 0 10000) (gmem wd_650 rfl) (gmem wd_651 rfl) (gmem wd_4 rfl) (gmem wd_652 rfl) ⟨by decide, by decide, by decide +kernel⟩ ⟨Nat.le_of_ble_eq_true rfl, Nat.le_of_ble_eq_true rfl⟩ rfl rfl (Nat.le_of_ble_eq_true rfl) d_M_weight_67 ⟨Nat.le_of_ble_eq_true rfl, Nat.le_of_ble_eq_true rfl⟩ ?_
            rintro v9 u9 s9 ⟨h9, hu9, hs9⟩; rw [h9, hu9, hs9]; clear h9 hu9 hs9 v9 u9 s9
            show GW Z _ _ _ ad u1 sz [(3, .int 10000), (0, .ref (ad m)), (1, .int x), (2, .int n)] 0 0 70 [.int (bI (withM n 0 10000))]
            refine g_if_ne 75 C d_M_weight_70 (by decide) (fun c70 => ?_) (fun c70 => ?_)
            · skip
              refine g_aload_n C d_M_weight_75 rfl 1 rfl ?_
              refine g_get m 10 C hu1_0 rfl i_M (by decide) (gmem wd_528 rfl) rfl rfl d_M_weight_76 ?_
              refine g_iload_n C d_M_weight_79 rfl 2 rfl ?_
              refine g_iload_n C d_M_weight_80 rfl 3 rfl ?_
              refine g_iast (m + 5) 0 C hu1_3 rfl (memM_x (staM_m (bI_ne0.mp c53)) hmem hcl) d_M_weight_81 ?_
              obtain ⟨u2, hu2⟩ : ∃ z, z = gup u1 (m + 5) (.inl ((X.2 0), 12, .inl (upd wei (Int32.toNatClampNeg x) n))) := ⟨_, rfl⟩
              rw [← hu2]
              have hu2_0 : u2 m = some (mO ad m 0 cl dr wy ce ra li bi) := by rw [hu2, gup_ne (by omega)]; exact hu1_0
              have hu2_1 : u2 (m + 1) = some (.inl ((X.2 0), 4, .inl mem)) := by rw [hu2, gup_ne (by omega)]; exact hu1_1
              have hu2_2 : u2 (m + 3) = some (.inl ((X.2 2), 48, .inl lef)) := by rw [hu2, gup_ne (by omega)]; exact hu1_2
              have hu2_3 : u2 (m + 5) = some (.inl ((X.2 0), 12, .inl (upd wei (Int32.toNatClampNeg x) n))) := by rw [hu2]; exact gup_self _ _ _
              refine g_iconst (v := 1) C d_M_weight_82 (by decide) ?_
              exact g_zret C hR hret rfl ⟨rfl, Or.inl ⟨by simp only [okWei, hiW, decide_eq_false c10, if_neg c10, decide_eq_false c22, if_neg c22, decide_eq_false c36, if_neg c36, bI_ne0.mp c53, decide_eq_false c61, if_neg c61, bI_ne0.mp c70, Bool.not_true, Bool.not_false, Bool.and_true, Bool.true_and, Bool.false_and, Bool.and_false, bI_t, bI_f], rfl, (by first | (rw [hu2, hu1]; done) | (rw [hu2, hu1]; funext k; simp only [gup]; (repeat' split) <;> first | with_reducible rfl | (exfalso; omega) | rfl))⟩⟩ d_M_weight_83
            · skip
              refine g_iconst (v := 0) C d_M_weight_73 (by decide) ?_
              exact g_zret C hR hret rfl ⟨rfl, Or.inr ⟨by simp only [okWei, hiW, decide_eq_false c10, if_neg c10, decide_eq_false c22, if_neg c22, decide_eq_false c36, if_neg c36, bI_ne0.mp c53, decide_eq_false c61, if_neg c61, bI_eq0.mp c70, Bool.not_true, Bool.not_false, Bool.and_true, Bool.true_and, Bool.false_and, Bool.and_false, bI_t, bI_f], rfl, (by first | (rw [hu1]; done) | (rw [hu1]; funext k; simp only [gup]; (repeat' split) <;> first | with_reducible rfl | (exfalso; omega) | rfl))⟩⟩ d_M_weight_74
      · skip
        refine g_ldc C (gmem wd_653 rfl) d_M_weight_39 ?_
        refine g_goto 47 C d_M_weight_41 (by decide) ?_
        refine g_istore_n C d_M_weight_47 rfl [(3, .int 100000000), (0, .ref (ad m)), (1, .int x), (2, .int n)] (by decide) rfl ?_
        refine g_aload_n C d_M_weight_48 rfl 1 rfl ?_
        refine g_iload_n C d_M_weight_49 rfl 2 rfl ?_
        refine g_callV 1 C (k_M_stays _ X ad u1 sz m 0 cl dr wy ce ra li bi mem lef x hu1_0 hu1_1 hu1_2 hcl hmem) (gmem wd_659 rfl) (gmem wd_661 rfl) (gmem ws_12 rfl) (gmem wd_4 rfl) (gmem wd_662 rfl) ⟨by decide, by decide, by decide +kernel⟩ ⟨Nat.le_of_ble_eq_true rfl, Nat.le_of_ble_eq_true rfl⟩ hu1_0 rfl rfl rfl (Nat.le_of_ble_eq_true rfl) d_M_weight_50 ⟨Nat.le_of_ble_eq_true rfl, Nat.le_of_ble_eq_true rfl⟩ ?_
        rintro v9 u9 s9 ⟨h9, hu9, hs9⟩; rw [h9, hu9, hs9]; clear h9 hu9 hs9 v9 u9 s9
        show GW Z _ _ _ ad u1 sz [(3, .int 100000000), (0, .ref (ad m)), (1, .int x), (2, .int n)] 0 0 53 [.int (bI (staM cl dr mem lef x))]
        refine g_if_eq 73 C d_M_weight_53 (by decide) (fun c53 => ?_) (fun c53 => ?_)
        · skip
          refine g_iconst (v := 0) C d_M_weight_73 (by decide) ?_
          exact g_zret C hR hret rfl ⟨rfl, Or.inr ⟨by simp only [okWei, hiW, decide_eq_false c10, if_neg c10, decide_eq_false c22, if_neg c22, decide_eq_true c36, if_pos c36, bI_eq0.mp c53, Bool.not_true, Bool.not_false, Bool.and_true, Bool.true_and, Bool.false_and, Bool.and_false, bI_t, bI_f], rfl, (by first | (rw [hu1]; done) | (rw [hu1]; funext k; simp only [gup]; (repeat' split) <;> first | with_reducible rfl | (exfalso; omega) | rfl))⟩⟩ d_M_weight_74
        · skip
          refine g_aload_n C d_M_weight_56 rfl 1 rfl ?_
          refine g_get m 6 C hu1_0 rfl i_M (by decide) (gmem wd_524 rfl) rfl rfl d_M_weight_57 ?_
          refine g_iconst (v := 5) C d_M_weight_60 (by decide) ?_
          refine g_icmp_eq 73 C d_M_weight_61 (by decide) (fun c61 => ?_) (fun c61 => ?_)
          · skip
            refine g_iconst (v := 0) C d_M_weight_73 (by decide) ?_
            exact g_zret C hR hret rfl ⟨rfl, Or.inr ⟨by simp only [okWei, hiW, decide_eq_false c10, if_neg c10, decide_eq_false c22, if_neg c22, decide_eq_true c36, if_pos c36, bI_ne0.mp c53, decide_eq_true c61, if_pos c61, Bool.not_true, Bool.not_false, Bool.and_true, Bool.true_and, Bool.false_and, Bool.and_false, bI_t, bI_f], rfl, (by first | (rw [hu1]; done) | (rw [hu1]; funext k; simp only [gup]; (repeat' split) <;> first | with_reducible rfl | (exfalso; omega) | rfl))⟩⟩ d_M_weight_74
          · skip
            refine g_iload_n C d_M_weight_64 rfl 3 rfl ?_
            refine g_iconst (v := 0) C d_M_weight_65 (by decide) ?_
            refine g_iload_n C d_M_weight_66 rfl 0 rfl ?_
            refine g_callS 3 C (k_M_within _ X ad u1 sz n 0 100000000) (gmem wd_650 rfl) (gmem wd_651 rfl) (gmem wd_4 rfl) (gmem wd_652 rfl) ⟨by decide, by decide, by decide +kernel⟩ ⟨Nat.le_of_ble_eq_true rfl, Nat.le_of_ble_eq_true rfl⟩ rfl rfl (Nat.le_of_ble_eq_true rfl) d_M_weight_67 ⟨Nat.le_of_ble_eq_true rfl, Nat.le_of_ble_eq_true rfl⟩ ?_
            rintro v9 u9 s9 ⟨h9, hu9, hs9⟩; rw [h9, hu9, hs9]; clear h9 hu9 hs9 v9 u9 s9
            show GW Z _ _ _ ad u1 sz [(3, .int 100000000), (0, .ref (ad m)), (1, .int x), (2, .int n)] 0 0 70 [.int (bI (withM n 0 100000000))]
            refine g_if_ne 75 C d_M_weight_70 (by decide) (fun c70 => ?_) (fun c70 => ?_)
            · skip
              refine g_aload_n C d_M_weight_75 rfl 1 rfl ?_
              refine g_get m 10 C hu1_0 rfl i_M (by decide) (gmem wd_528 rfl) rfl rfl d_M_weight_76 ?_
              refine g_iload_n C d_M_weight_79 rfl 2 rfl ?_
              refine g_iload_n C d_M_weight_80 rfl 3 rfl ?_
              refine g_iast (m + 5) 0 C hu1_3 rfl (memM_x (staM_m (bI_ne0.mp c53)) hmem hcl) d_M_weight_81 ?_
              obtain ⟨u3, hu3⟩ : ∃ z, z = gup u1 (m + 5) (.inl ((X.2 0), 12, .inl (upd wei (Int32.toNatClampNeg x) n))) := ⟨_, rfl⟩
              rw [← hu3]
              have hu3_0 : u3 m = some (mO ad m 0 cl dr wy ce ra li bi) := by rw [hu3, gup_ne (by omega)]; exact hu1_0
              have hu3_1 : u3 (m + 1) = some (.inl ((X.2 0), 4, .inl mem)) := by rw [hu3, gup_ne (by omega)]; exact hu1_1
              have hu3_2 : u3 (m + 3) = some (.inl ((X.2 2), 48, .inl lef)) := by rw [hu3, gup_ne (by omega)]; exact hu1_2
              have hu3_3 : u3 (m + 5) = some (.inl ((X.2 0), 12, .inl (upd wei (Int32.toNatClampNeg x) n))) := by rw [hu3]; exact gup_self _ _ _
              refine g_iconst (v := 1) C d_M_weight_82 (by decide) ?_
              exact g_zret C hR hret rfl ⟨rfl, Or.inl ⟨by simp only [okWei, hiW, decide_eq_false c10, if_neg c10, decide_eq_false c22, if_neg c22, decide_eq_true c36, if_pos c36, bI_ne0.mp c53, decide_eq_false c61, if_neg c61, bI_ne0.mp c70, Bool.not_true, Bool.not_false, Bool.and_true, Bool.true_and, Bool.false_and, Bool.and_false, bI_t, bI_f], rfl, (by first | (rw [hu3, hu1]; done) | (rw [hu3, hu1]; funext k; simp only [gup]; (repeat' split) <;> first | with_reducible rfl | (exfalso; omega) | rfl))⟩⟩ d_M_weight_83
            · skip
              refine g_iconst (v := 0) C d_M_weight_73 (by decide) ?_
              exact g_zret C hR hret rfl ⟨rfl, Or.inr ⟨by simp only [okWei, hiW, decide_eq_false c10, if_neg c10, decide_eq_false c22, if_neg c22, decide_eq_true c36, if_pos c36, bI_ne0.mp c53, decide_eq_false c61, if_neg c61, bI_eq0.mp c70, Bool.not_true, Bool.not_false, Bool.and_true, Bool.true_and, Bool.false_and, Bool.and_false, bI_t, bI_f], rfl, (by first | (rw [hu1]; done) | (rw [hu1]; funext k; simp only [gup]; (repeat' split) <;> first | with_reducible rfl | (exfalso; omega) | rfl))⟩⟩ d_M_weight_74
    · skip
      refine g_sipush (v := 1000) C d_M_weight_25 (by decide) ?_
      refine g_goto 47 C d_M_weight_28 (by decide) ?_
      refine g_istore_n C d_M_weight_47 rfl [(3, .int 1000), (0, .ref (ad m)), (1, .int x), (2, .int n)] (by decide) rfl ?_
      refine g_aload_n C d_M_weight_48 rfl 1 rfl ?_
      refine g_iload_n C d_M_weight_49 rfl 2 rfl ?_
      refine g_callV 1 C (k_M_stays _ X ad u1 sz m 0 cl dr wy ce ra li bi mem lef x hu1_0 hu1_1 hu1_2 hcl hmem) (gmem wd_659 rfl) (gmem wd_661 rfl) (gmem ws_12 rfl) (gmem wd_4 rfl) (gmem wd_662 rfl) ⟨by decide, by decide, by decide +kernel⟩ ⟨Nat.le_of_ble_eq_true rfl, Nat.le_of_ble_eq_true rfl⟩ hu1_0 rfl rfl rfl (Nat.le_of_ble_eq_true rfl) d_M_weight_50 ⟨Nat.le_of_ble_eq_true rfl, Nat.le_of_ble_eq_true rfl⟩ ?_
      rintro v9 u9 s9 ⟨h9, hu9, hs9⟩; rw [h9, hu9, hs9]; clear h9 hu9 hs9 v9 u9 s9
      show GW Z _ _ _ ad u1 sz [(3, .int 1000), (0, .ref (ad m)), (1, .int x), (2, .int n)] 0 0 53 [.int (bI (staM cl dr mem lef x))]
      refine g_if_eq 73 C d_M_weight_53 (by decide) (fun c53 => ?_) (fun c53 => ?_)
      · skip
        refine g_iconst (v := 0) C d_M_weight_73 (by decide) ?_
        exact g_zret C hR hret rfl ⟨rfl, Or.inr ⟨by simp only [okWei, hiW, decide_eq_false c10, if_neg c10, decide_eq_true c22, if_pos c22, bI_eq0.mp c53, Bool.not_true, Bool.not_false, Bool.and_true, Bool.true_and, Bool.false_and, Bool.and_false, bI_t, bI_f], rfl, (by first | (rw [hu1]; done) | (rw [hu1]; funext k; simp only [gup]; (repeat' split) <;> first | with_reducible rfl | (exfalso; omega) | rfl))⟩⟩ d_M_weight_74
      · skip
        refine g_aload_n C d_M_weight_56 rfl 1 rfl ?_
        refine g_get m 6 C hu1_0 rfl i_M (by decide) (gmem wd_524 rfl) rfl rfl d_M_weight_57 ?_
        refine g_iconst (v := 5) C d_M_weight_60 (by decide) ?_
        refine g_icmp_eq 73 C d_M_weight_61 (by decide) (fun c61 => ?_) (fun c61 => ?_)
        · skip
          refine g_iconst (v := 0) C d_M_weight_73 (by decide) ?_
          exact g_zret C hR hret rfl ⟨rfl, Or.inr ⟨by simp only [okWei, hiW, decide_eq_false c10, if_neg c10, decide_eq_true c22, if_pos c22, bI_ne0.mp c53, decide_eq_true c61, if_pos c61, Bool.not_true, Bool.not_false, Bool.and_true, Bool.true_and, Bool.false_and, Bool.and_false, bI_t, bI_f], rfl, (by first | (rw [hu1]; done) | (rw [hu1]; funext k; simp only [gup]; (repeat' split) <;> first | with_reducible rfl | (exfalso; omega) | rfl))⟩⟩ d_M_weight_74
        · skip
          refine g_iload_n C d_M_weight_64 rfl 3 rfl ?_
          refine g_iconst (v := 0) C d_M_weight_65 (by decide) ?_
          refine g_iload_n C d_M_weight_66 rfl 0 rfl ?_
          refine g_callS 3 C (k_M_within _ X ad u1 sz n 0 1000) (gmem wd_650 rfl) (gmem wd_651 rfl) (gmem wd_4 rfl) (gmem wd_652 rfl) ⟨by decide, by decide, by decide +kernel⟩ ⟨Nat.le_of_ble_eq_true rfl, Nat.le_of_ble_eq_true rfl⟩ rfl rfl (Nat.le_of_ble_eq_true rfl) d_M_weight_67 ⟨Nat.le_of_ble_eq_true rfl, Nat.le_of_ble_eq_true rfl⟩ ?_
          rintro v9 u9 s9 ⟨h9, hu9, hs9⟩; rw [h9, hu9, hs9]; clear h9 hu9 hs9 v9 u9 s9
          show GW Z _ _ _ ad u1 sz [(3, .int 1000), (0, .ref (ad m)), (1, .int x), (2, .int n)] 0 0 70 [.int (bI (withM n 0 1000))]
          refine g_if_ne 75 C d_M_weight_70 (by decide) (fun c70 => ?_) (fun c70 => ?_)
          · skip
            refine g_aload_n C d_M_weight_75 rfl 1 rfl ?_
            refine g_get m 10 C hu1_0 rfl i_M (by decide) (gmem wd_528 rfl) rfl rfl d_M_weight_76 ?_
            refine g_iload_n C d_M_weight_79 rfl 2 rfl ?_
            refine g_iload_n C d_M_weight_80 rfl 3 rfl ?_
            refine g_iast (m + 5) 0 C hu1_3 rfl (memM_x (staM_m (bI_ne0.mp c53)) hmem hcl) d_M_weight_81 ?_
            obtain ⟨u4, hu4⟩ : ∃ z, z = gup u1 (m + 5) (.inl ((X.2 0), 12, .inl (upd wei (Int32.toNatClampNeg x) n))) := ⟨_, rfl⟩
            rw [← hu4]
            have hu4_0 : u4 m = some (mO ad m 0 cl dr wy ce ra li bi) := by rw [hu4, gup_ne (by omega)]; exact hu1_0
            have hu4_1 : u4 (m + 1) = some (.inl ((X.2 0), 4, .inl mem)) := by rw [hu4, gup_ne (by omega)]; exact hu1_1
            have hu4_2 : u4 (m + 3) = some (.inl ((X.2 2), 48, .inl lef)) := by rw [hu4, gup_ne (by omega)]; exact hu1_2
            have hu4_3 : u4 (m + 5) = some (.inl ((X.2 0), 12, .inl (upd wei (Int32.toNatClampNeg x) n))) := by rw [hu4]; exact gup_self _ _ _
            refine g_iconst (v := 1) C d_M_weight_82 (by decide) ?_
            exact g_zret C hR hret rfl ⟨rfl, Or.inl ⟨by simp only [okWei, hiW, decide_eq_false c10, if_neg c10, decide_eq_true c22, if_pos c22, bI_ne0.mp c53, decide_eq_false c61, if_neg c61, bI_ne0.mp c70, Bool.not_true, Bool.not_false, Bool.and_true, Bool.true_and, Bool.false_and, Bool.and_false, bI_t, bI_f], rfl, (by first | (rw [hu4, hu1]; done) | (rw [hu4, hu1]; funext k; simp only [gup]; (repeat' split) <;> first | with_reducible rfl | (exfalso; omega) | rfl))⟩⟩ d_M_weight_83
          · skip
            refine g_iconst (v := 0) C d_M_weight_73 (by decide) ?_
            exact g_zret C hR hret rfl ⟨rfl, Or.inr ⟨by simp only [okWei, hiW, decide_eq_false c10, if_neg c10, decide_eq_true c22, if_pos c22, bI_ne0.mp c53, decide_eq_false c61, if_neg c61, bI_eq0.mp c70, Bool.not_true, Bool.not_false, Bool.and_true, Bool.true_and, Bool.false_and, Bool.and_false, bI_t, bI_f], rfl, (by first | (rw [hu1]; done) | (rw [hu1]; funext k; simp only [gup]; (repeat' split) <;> first | with_reducible rfl | (exfalso; omega) | rfl))⟩⟩ d_M_weight_74
  · skip
    refine g_iconst (v := 1) C d_M_weight_13 (by decide) ?_
    refine g_goto 47 C d_M_weight_14 (by decide) ?_
    refine g_istore_n C d_M_weight_47 rfl [(3, .int 1), (0, .ref (ad m)), (1, .int x), (2, .int n)] (by decide) rfl ?_
    refine g_aload_n C d_M_weight_48 rfl 1 rfl ?_
    refine g_iload_n C d_M_weight_49 rfl 2 rfl ?_
    refine g_callV 1 C (k_M_stays _ X ad u1 sz m 0 cl dr wy ce ra li bi mem lef x hu1_0 hu1_1 hu1_2 hcl hmem) (gmem wd_659 rfl) (gmem wd_661 rfl) (gmem ws_12 rfl) (gmem wd_4 rfl) (gmem wd_662 rfl) ⟨by decide, by decide, by decide +kernel⟩ ⟨Nat.le_of_ble_eq_true rfl, Nat.le_of_ble_eq_true rfl⟩ hu1_0 rfl rfl rfl (Nat.le_of_ble_eq_true rfl) d_M_weight_50 ⟨Nat.le_of_ble_eq_true rfl, Nat.le_of_ble_eq_true rfl⟩ ?_
    rintro v9 u9 s9 ⟨h9, hu9, hs9⟩; rw [h9, hu9, hs9]; clear h9 hu9 hs9 v9 u9 s9
    show GW Z _ _ _ ad u1 sz [(3, .int 1), (0, .ref (ad m)), (1, .int x), (2, .int n)] 0 0 53 [.int (bI (staM cl dr mem lef x))]
    refine g_if_eq 73 C d_M_weight_53 (by decide) (fun c53 => ?_) (fun c53 => ?_)
    · skip
      refine g_iconst (v := 0) C d_M_weight_73 (by decide) ?_
      exact g_zret C hR hret rfl ⟨rfl, Or.inr ⟨by simp only [okWei, hiW, decide_eq_true c10, if_pos c10, bI_eq0.mp c53, Bool.not_true, Bool.not_false, Bool.and_true, Bool.true_and, Bool.false_and, Bool.and_false, bI_t, bI_f], rfl, (by first | (rw [hu1]; done) | (rw [hu1]; funext k; simp only [gup]; (repeat' split) <;> first | with_reducible rfl | (exfalso; omega) | rfl))⟩⟩ d_M_weight_74
    · skip
      refine g_aload_n C d_M_weight_56 rfl 1 rfl ?_
      refine g_get m 6 C hu1_0 rfl i_M (by decide) (gmem wd_524 rfl) rfl rfl d_M_weight_57 ?_
      refine g_iconst (v := 5) C d_M_weight_60 (by decide) ?_
      refine g_icmp_eq 73 C d_M_weight_61 (by decide) (fun c61 => ?_) (fun c61 => ?_)
      · skip
        refine g_iconst (v := 0) C d_M_weight_73 (by decide) ?_
        exact g_zret C hR hret rfl ⟨rfl, Or.inr ⟨by simp only [okWei, hiW, decide_eq_true c10, if_pos c10, bI_ne0.mp c53, decide_eq_true c61, if_pos c61, Bool.not_true, Bool.not_false, Bool.and_true, Bool.true_and, Bool.false_and, Bool.and_false, bI_t, bI_f], rfl, (by first | (rw [hu1]; done) | (rw [hu1]; funext k; simp only [gup]; (repeat' split) <;> first | with_reducible rfl | (exfalso; omega) | rfl))⟩⟩ d_M_weight_74
      · skip
        refine g_iload_n C d_M_weight_64 rfl 3 rfl ?_
        refine g_iconst (v := 0) C d_M_weight_65 (by decide) ?_
        refine g_iload_n C d_M_weight_66 rfl 0 rfl ?_
        refine g_callS 3 C (k_M_within _ X ad u1 sz n 0 1) (gmem wd_650 rfl) (gmem wd_651 rfl) (gmem wd_4 rfl) (gmem wd_652 rfl) ⟨by decide, by decide, by decide +kernel⟩ ⟨Nat.le_of_ble_eq_true rfl, Nat.le_of_ble_eq_true rfl⟩ rfl rfl (Nat.le_of_ble_eq_true rfl) d_M_weight_67 ⟨Nat.le_of_ble_eq_true rfl, Nat.le_of_ble_eq_true rfl⟩ ?_
        rintro v9 u9 s9 ⟨h9, hu9, hs9⟩; rw [h9, hu9, hs9]; clear h9 hu9 hs9 v9 u9 s9
        show GW Z _ _ _ ad u1 sz [(3, .int 1), (0, .ref (ad m)), (1, .int x), (2, .int n)] 0 0 70 [.int (bI (withM n 0 1))]
        refine g_if_ne 75 C d_M_weight_70 (by decide) (fun c70 => ?_) (fun c70 => ?_)
        · skip
          refine g_aload_n C d_M_weight_75 rfl 1 rfl ?_
          refine g_get m 10 C hu1_0 rfl i_M (by decide) (gmem wd_528 rfl) rfl rfl d_M_weight_76 ?_
          refine g_iload_n C d_M_weight_79 rfl 2 rfl ?_
          refine g_iload_n C d_M_weight_80 rfl 3 rfl ?_
          refine g_iast (m + 5) 0 C hu1_3 rfl (memM_x (staM_m (bI_ne0.mp c53)) hmem hcl) d_M_weight_81 ?_
          obtain ⟨u5, hu5⟩ : ∃ z, z = gup u1 (m + 5) (.inl ((X.2 0), 12, .inl (upd wei (Int32.toNatClampNeg x) n))) := ⟨_, rfl⟩
          rw [← hu5]
          have hu5_0 : u5 m = some (mO ad m 0 cl dr wy ce ra li bi) := by rw [hu5, gup_ne (by omega)]; exact hu1_0
          have hu5_1 : u5 (m + 1) = some (.inl ((X.2 0), 4, .inl mem)) := by rw [hu5, gup_ne (by omega)]; exact hu1_1
          have hu5_2 : u5 (m + 3) = some (.inl ((X.2 2), 48, .inl lef)) := by rw [hu5, gup_ne (by omega)]; exact hu1_2
          have hu5_3 : u5 (m + 5) = some (.inl ((X.2 0), 12, .inl (upd wei (Int32.toNatClampNeg x) n))) := by rw [hu5]; exact gup_self _ _ _
          refine g_iconst (v := 1) C d_M_weight_82 (by decide) ?_
          exact g_zret C hR hret rfl ⟨rfl, Or.inl ⟨by simp only [okWei, hiW, decide_eq_true c10, if_pos c10, bI_ne0.mp c53, decide_eq_false c61, if_neg c61, bI_ne0.mp c70, Bool.not_true, Bool.not_false, Bool.and_true, Bool.true_and, Bool.false_and, Bool.and_false, bI_t, bI_f], rfl, (by first | (rw [hu5, hu1]; done) | (rw [hu5, hu1]; funext k; simp only [gup]; (repeat' split) <;> first | with_reducible rfl | (exfalso; omega) | rfl))⟩⟩ d_M_weight_83
        · skip
          refine g_iconst (v := 0) C d_M_weight_73 (by decide) ?_
          exact g_zret C hR hret rfl ⟨rfl, Or.inr ⟨by simp only [okWei, hiW, decide_eq_true c10, if_pos c10, bI_ne0.mp c53, decide_eq_false c61, if_neg c61, bI_eq0.mp c70, Bool.not_true, Bool.not_false, Bool.and_true, Bool.true_and, Bool.false_and, Bool.and_false, bI_t, bI_f], rfl, (by first | (rw [hu1]; done) | (rw [hu1]; funext k; simp only [gup]; (repeat' split) <;> first | with_reducible rfl | (exfalso; omega) | rfl))⟩⟩ d_M_weight_74

theorem in64x {x b : Int32} (h0 : ¬ x < 0) (h1 : ¬ b ≤ x) (hb : b ≤ 64) : vp_in x 64 := by
  rw [vp_in_iff]
  rw [Int32.lt_iff_toInt_lt] at h0
  rw [Int32.le_iff_toInt_le] at h1 hb
  have e1 : (0 : Int32).toInt = 0 := by decide
  have e2 : (64 : Int32).toInt = 64 := by decide
  omega
def okStr (bi : Int32) (str ope cof : Nat → Int32) (b : Int32) : Bool := (!decide (b < 0) && !decide (bi ≤ b)) && (decide (str b.toNatClampNeg = 0) && decide (ope (cof b.toNatClampNeg).toNatClampNeg = 0))
theorem in768 {b m : Int32} (hb : vp_in b 64) (hm : vp_in m 12) : vp_in (12 * b + m) 768 ∧ (12 * b + m).toNatClampNeg = 12 * b.toNatClampNeg + m.toNatClampNeg := by
  obtain ⟨i, h1, h2, h3⟩ := vp_nat hb (by decide)
  obtain ⟨j, g1, g2, g3⟩ := vp_nat hm (by decide)
  have e : 12 * b + m = nI (12 * i + j) := by
    rw [h2, g2, show (12 : Int32) = nI 12 from rfl, pk_mul, nI_add]
  rw [e, h3, g3]
  exact ⟨vp_in_nI (by omega) (by decide), nI_clamp (by omega)⟩
theorem in12y {x : Int32} (h0 : ¬ x < 0) (h1 : x ≤ 11) : vp_in x 12 := by
  rw [vp_in_iff]
  rw [Int32.lt_iff_toInt_lt] at h0
  rw [Int32.le_iff_toInt_le] at h1
  have e1 : (0 : Int32).toInt = 0 := by decide
  have e2 : (11 : Int32).toInt = 11 := by decide
  omega
def aboM (bi b m w : Int32) (sha pai dri : Nat → Int64) : Int64 :=
  if (!decide (b < 0) && (!decide (bi ≤ b) && (!decide (w < 0) && decide (w ≤ 2)))) = false then -1 else if (!decide (m < 0) && decide (m ≤ 11)) = false then 0 else if w = 0 then sha (12 * b.toNatClampNeg + m.toNatClampNeg) else if w = 1 then pai (12 * b.toNatClampNeg + m.toNatClampNeg) else dri (12 * b.toNatClampNeg + m.toNatClampNeg)
def totM (bi b : Int32) (tot : Nat → Int64) : Int64 := if (!decide (b < 0) && decide (b < bi)) = true then tot b.toNatClampNeg else -1
set_option maxHeartbeats 4000000 in
set_option maxRecDepth 100000 in
theorem k_M_strike (l : Launch) (X : gX) (ad : Nat → Nat) (u : gW) (sz : Nat) (m : Nat) (th cl dr wy ce ra li bi : Int32) (cof str ope : Nat → Int32) (b : Int32) (hm : u m = some (mO ad m th cl dr wy ce ra li bi)) (h_cof : u (m + 9) = some (.inl ((X.2 0), 64, .inl cof))) (h_str : u (m + 11) = some (.inl ((X.2 2), 64, .inl str))) (h_ope : u (m + 16) = some (.inl ((X.2 2), 4, .inl ope))) (hbi : bi ≤ 64) (hcof : ∀ b, ¬ b < 0 → ¬ bi ≤ b → vp_in (cof b.toNatClampNeg) 4) : gMet l (EE X) y_M_strike c_M_strike 2 (some .boolean) ({ frames := 0, cells := 0, slots := 0, locals := 0 }) [.ref (ad m), .int b] ad u sz (fun v u' sz' => sz' = sz ∧ ((okStr bi str ope cof b = true ∧ v = some (.int 1) ∧ u' = gup (gup u m (mO ad m 0 cl dr wy ce ra li bi)) (m + 11) (.inl ((X.2 2), 64, .inl (upd str b.toNatClampNeg 1)))) ∨ (okStr bi str ope cof b = false ∧ v = some (.int 0) ∧ u' = gup u m (mO ad m 0 cl dr wy ce ra li bi)))) := by
  refine gMet_of "ExpenseClubsModel" rfl (by decide) (Nat.le_of_ble_eq_true rfl) (lv := [(0, .ref (ad m)), (1, .int b)]) rfl (fun Z hZl C hR hret hname => ?_)
  refine g_aload_n C d_M_strike_0 rfl 0 rfl ?_
  refine g_iconst (v := 0) C d_M_strike_1 (by decide) ?_
  refine g_put m 0 C hm rfl i_M t_M t_M_ok n_M (by decide) (gmem wd_518 rfl) rfl rfl rfl rfl (Nat.le_of_ble_eq_true rfl) d_M_strike_2 ?_
  show GW Z _ _ _ ad (gup u m (mO ad m 0 cl dr wy ce ra li bi)) _ _ _ _ _ _
  obtain ⟨u1, hu1⟩ : ∃ z, z = gup u m (mO ad m 0 cl dr wy ce ra li bi) := ⟨_, rfl⟩
  rw [← hu1]
  have hu1_0 : u1 m = some (mO ad m 0 cl dr wy ce ra li bi) := by rw [hu1]; exact gup_self _ _ _
  have hu1_1 : u1 (m + 9) = some (.inl ((X.2 0), 64, .inl cof)) := by rw [hu1, gup_ne (by omega)]; exact h_cof
  have hu1_2 : u1 (m + 11) = some (.inl ((X.2 2), 64, .inl str)) := by rw [hu1, gup_ne (by omega)]; exact h_str
  have hu1_3 : u1 (m + 16) = some (.inl ((X.2 2), 4, .inl ope)) := by rw [hu1, gup_ne (by omega)]; exact h_ope
  refine g_iload_n C d_M_strike_5 rfl 1 rfl ?_
  refine g_if_lt 40 C d_M_strike_6 (by decide) (fun c6 => ?_) (fun c6 => ?_)
  · skip
    refine g_iconst (v := 0) C d_M_strike_40 (by decide) ?_
    exact g_zret C hR hret rfl ⟨rfl, Or.inr ⟨by simp only [okStr, decide_eq_true c6, if_pos c6, Bool.not_true, Bool.not_false, Bool.and_true, Bool.true_and, Bool.false_and, Bool.and_false, bI_t, bI_f], rfl, (by first | (rw [hu1]; done) | (rw [hu1]; funext k; simp only [gup]; (repeat' split) <;> first | with_reducible rfl | (exfalso; omega) | rfl))⟩⟩ d_M_strike_41
  · skip
    refine g_iload_n C d_M_strike_9 rfl 1 rfl ?_
    refine g_aload_n C d_M_strike_10 rfl 0 rfl ?_
    refine g_get m 15 C hu1_0 rfl i_M (by decide) (gmem wd_533 rfl) rfl rfl d_M_strike_11 ?_
    refine g_icmp_ge 40 C d_M_strike_14 (by decide) (fun c14 => ?_) (fun c14 => ?_)
    · skip
      refine g_iconst (v := 0) C d_M_strike_40 (by decide) ?_
      exact g_zret C hR hret rfl ⟨rfl, Or.inr ⟨by simp only [okStr, decide_eq_false c6, if_neg c6, decide_eq_true c14, if_pos c14, Bool.not_true, Bool.not_false, Bool.and_true, Bool.true_and, Bool.false_and, Bool.and_false, bI_t, bI_f], rfl, (by first | (rw [hu1]; done) | (rw [hu1]; funext k; simp only [gup]; (repeat' split) <;> first | with_reducible rfl | (exfalso; omega) | rfl))⟩⟩ d_M_strike_41
    · skip
      refine g_aload_n C d_M_strike_17 rfl 0 rfl ?_
      refine g_get m 18 C hu1_0 rfl i_M (by decide) (gmem wd_536 rfl) rfl rfl d_M_strike_18 ?_
      refine g_iload_n C d_M_strike_21 rfl 1 rfl ?_
      refine g_zald (m + 11) 2 C hu1_2 rfl (in64x c6 c14 hbi) d_M_strike_22 ?_
      refine g_if_ne 40 C d_M_strike_23 (by decide) (fun c23 => ?_) (fun c23 => ?_)
      · skip
        refine g_iconst (v := 0) C d_M_strike_40 (by decide) ?_
        exact g_zret C hR hret rfl ⟨rfl, Or.inr ⟨by simp only [okStr, decide_eq_false c6, if_neg c6, decide_eq_false c14, if_neg c14, decide_eq_false c23, if_neg c23, Bool.not_true, Bool.not_false, Bool.and_true, Bool.true_and, Bool.false_and, Bool.and_false, bI_t, bI_f], rfl, (by first | (rw [hu1]; done) | (rw [hu1]; funext k; simp only [gup]; (repeat' split) <;> first | with_reducible rfl | (exfalso; omega) | rfl))⟩⟩ d_M_strike_41
      · skip
        refine g_aload_n C d_M_strike_26 rfl 0 rfl ?_
        refine g_get m 23 C hu1_0 rfl i_M (by decide) (gmem wd_541 rfl) rfl rfl d_M_strike_27 ?_
        refine g_aload_n C d_M_strike_30 rfl 0 rfl ?_
        refine g_get m 16 C hu1_0 rfl i_M (by decide) (gmem wd_534 rfl) rfl rfl d_M_strike_31 ?_
        refine g_iload_n C d_M_strike_34 rfl 1 rfl ?_
        refine g_iald (m + 9) 0 C hu1_1 rfl (in64x c6 c14 hbi) d_M_strike_35 ?_
        refine g_zald (m + 16) 2 C hu1_3 rfl (hcof b c6 c14) d_M_strike_36 ?_
        refine g_if_eq 42 C d_M_strike_37 (by decide) (fun c37 => ?_) (fun c37 => ?_)
        · skip
          refine g_aload_n C d_M_strike_42 rfl 0 rfl ?_
          refine g_get m 18 C hu1_0 rfl i_M (by decide) (gmem wd_536 rfl) rfl rfl d_M_strike_43 ?_
          refine g_iload_n C d_M_strike_46 rfl 1 rfl ?_
          refine g_iconst (v := 1) C d_M_strike_47 (by decide) ?_
          refine g_zast (m + 11) 2 C hu1_2 rfl (in64x c6 c14 hbi) d_M_strike_48 ?_
          rw [show vp_nar .boolean 1 = 1 from rfl]
          obtain ⟨u2, hu2⟩ : ∃ z, z = gup u1 (m + 11) (.inl ((X.2 2), 64, .inl (upd str (Int32.toNatClampNeg b) 1))) := ⟨_, rfl⟩
          rw [← hu2]
          have hu2_0 : u2 m = some (mO ad m 0 cl dr wy ce ra li bi) := by rw [hu2, gup_ne (by omega)]; exact hu1_0
          have hu2_1 : u2 (m + 9) = some (.inl ((X.2 0), 64, .inl cof)) := by rw [hu2, gup_ne (by omega)]; exact hu1_1
          have hu2_2 : u2 (m + 11) = some (.inl ((X.2 2), 64, .inl (upd str (Int32.toNatClampNeg b) 1))) := by rw [hu2]; exact gup_self _ _ _
          have hu2_3 : u2 (m + 16) = some (.inl ((X.2 2), 4, .inl ope)) := by rw [hu2, gup_ne (by omega)]; exact hu1_3
          refine g_iconst (v := 1) C d_M_strike_49 (by decide) ?_
          exact g_zret C hR hret rfl ⟨rfl, Or.inl ⟨by simp only [okStr, decide_eq_false c6, if_neg c6, decide_eq_false c14, if_neg c14, decide_eq_true c23, if_pos c23, decide_eq_true c37, if_pos c37, Bool.not_true, Bool.not_false, Bool.and_true, Bool.true_and, Bool.false_and, Bool.and_false, bI_t, bI_f], rfl, (by first | (rw [hu2, hu1]; done) | (rw [hu2, hu1]; funext k; simp only [gup]; (repeat' split) <;> first | with_reducible rfl | (exfalso; omega) | rfl))⟩⟩ d_M_strike_50
        · skip
          refine g_iconst (v := 0) C d_M_strike_40 (by decide) ?_
          exact g_zret C hR hret rfl ⟨rfl, Or.inr ⟨by simp only [okStr, decide_eq_false c6, if_neg c6, decide_eq_false c14, if_neg c14, decide_eq_true c23, if_pos c23, decide_eq_false c37, if_neg c37, Bool.not_true, Bool.not_false, Bool.and_true, Bool.true_and, Bool.false_and, Bool.and_false, bI_t, bI_f], rfl, (by first | (rw [hu1]; done) | (rw [hu1]; funext k; simp only [gup]; (repeat' split) <;> first | with_reducible rfl | (exfalso; omega) | rfl))⟩⟩ d_M_strike_41

set_option maxHeartbeats 4000000 in
set_option maxRecDepth 100000 in
theorem k_M_about (l : Launch) (X : gX) (ad : Nat → Nat) (u : gW) (sz : Nat) (m : Nat) (th cl dr wy ce ra li bi : Int32) (sha pai dri : Nat → Int64) (b x w : Int32) (hm : u m = some (mO ad m th cl dr wy ce ra li bi)) (h_sha : u (m + 12) = some (.inl ((X.2 1), 768, .inr (.inl sha)))) (h_pai : u (m + 13) = some (.inl ((X.2 1), 768, .inr (.inl pai)))) (h_dri : u (m + 14) = some (.inl ((X.2 1), 768, .inr (.inl dri)))) (hbi : bi ≤ 64) : gMet l (EE X) y_M_about c_M_about 4 (some .long) ({ frames := 0, cells := 0, slots := 0, locals := 0 }) [.ref (ad m), .int b, .int x, .int w] ad u sz (fun v u' sz' => v = some (.long (aboM bi b x w sha pai dri)) ∧ u' = gup u m (mO ad m 0 cl dr wy ce ra li bi) ∧ sz' = sz) := by
  refine gMet_of "ExpenseClubsModel" rfl (by decide) (Nat.le_of_ble_eq_true rfl) (lv := [(0, .ref (ad m)), (1, .int b), (2, .int x), (3, .int w)]) rfl (fun Z hZl C hR hret hname => ?_)
  refine g_aload_n C d_M_about_0 rfl 0 rfl ?_
  refine g_iconst (v := 0) C d_M_about_1 (by decide) ?_
  refine g_put m 0 C hm rfl i_M t_M t_M_ok n_M (by decide) (gmem wd_518 rfl) rfl rfl rfl rfl (Nat.le_of_ble_eq_true rfl) d_M_about_2 ?_
  show GW Z _ _ _ ad (gup u m (mO ad m 0 cl dr wy ce ra li bi)) _ _ _ _ _ _
  obtain ⟨u1, hu1⟩ : ∃ z, z = gup u m (mO ad m 0 cl dr wy ce ra li bi) := ⟨_, rfl⟩
  rw [← hu1]
  have hu1_0 : u1 m = some (mO ad m 0 cl dr wy ce ra li bi) := by rw [hu1]; exact gup_self _ _ _
  have hu1_1 : u1 (m + 12) = some (.inl ((X.2 1), 768, .inr (.inl sha))) := by rw [hu1, gup_ne (by omega)]; exact h_sha
  have hu1_2 : u1 (m + 13) = some (.inl ((X.2 1), 768, .inr (.inl pai))) := by rw [hu1, gup_ne (by omega)]; exact h_pai
  have hu1_3 : u1 (m + 14) = some (.inl ((X.2 1), 768, .inr (.inl dri))) := by rw [hu1, gup_ne (by omega)]; exact h_dri
  refine g_iload_n C d_M_about_5 rfl 1 rfl ?_
  refine g_if_lt 26 C d_M_about_6 (by decide) (fun c6 => ?_) (fun c6 => ?_)
  · skip
    refine g_ldc2 C (gmem wd_714 rfl) d_M_about_26 ?_
    exact g_lret C hR hret ⟨by simp only [aboM, decide_eq_true c6, if_pos c6, Bool.not_true, Bool.not_false, Bool.and_true, Bool.true_and, Bool.false_and, Bool.and_false, bI_t, bI_f] <;> (try rfl), (by first | (rw [hu1]; done) | (rw [hu1]; funext k; simp only [gup]; (repeat' split) <;> first | with_reducible rfl | (exfalso; omega) | rfl)), rfl⟩ d_M_about_29
  · skip
    refine g_iload_n C d_M_about_9 rfl 1 rfl ?_
    refine g_aload_n C d_M_about_10 rfl 0 rfl ?_
    refine g_get m 15 C hu1_0 rfl i_M (by decide) (gmem wd_533 rfl) rfl rfl d_M_about_11 ?_
    refine g_icmp_ge 26 C d_M_about_14 (by decide) (fun c14 => ?_) (fun c14 => ?_)
    · skip
      refine g_ldc2 C (gmem wd_714 rfl) d_M_about_26 ?_
      exact g_lret C hR hret ⟨by simp only [aboM, decide_eq_false c6, if_neg c6, decide_eq_true c14, if_pos c14, Bool.not_true, Bool.not_false, Bool.and_true, Bool.true_and, Bool.false_and, Bool.and_false, bI_t, bI_f] <;> (try rfl), (by first | (rw [hu1]; done) | (rw [hu1]; funext k; simp only [gup]; (repeat' split) <;> first | with_reducible rfl | (exfalso; omega) | rfl)), rfl⟩ d_M_about_29
    · skip
      refine g_iload_n C d_M_about_17 rfl 3 rfl ?_
      refine g_if_lt 26 C d_M_about_18 (by decide) (fun c18 => ?_) (fun c18 => ?_)
      · skip
        refine g_ldc2 C (gmem wd_714 rfl) d_M_about_26 ?_
        exact g_lret C hR hret ⟨by simp only [aboM, decide_eq_false c6, if_neg c6, decide_eq_false c14, if_neg c14, decide_eq_true c18, if_pos c18, Bool.not_true, Bool.not_false, Bool.and_true, Bool.true_and, Bool.false_and, Bool.and_false, bI_t, bI_f] <;> (try rfl), (by first | (rw [hu1]; done) | (rw [hu1]; funext k; simp only [gup]; (repeat' split) <;> first | with_reducible rfl | (exfalso; omega) | rfl)), rfl⟩ d_M_about_29
      · skip
        refine g_iload_n C d_M_about_21 rfl 3 rfl ?_
        refine g_iconst (v := 2) C d_M_about_22 (by decide) ?_
        refine g_icmp_le 30 C d_M_about_23 (by decide) (fun c23 => ?_) (fun c23 => ?_)
        · skip
          refine g_iload_n C d_M_about_30 rfl 2 rfl ?_
          refine g_if_lt 40 C d_M_about_31 (by decide) (fun c31 => ?_) (fun c31 => ?_)
          · skip
            refine g_lconst (v := 0) C d_M_about_40 (by decide) ?_
            exact g_lret C hR hret ⟨by simp only [aboM, decide_eq_false c6, if_neg c6, decide_eq_false c14, if_neg c14, decide_eq_false c18, if_neg c18, decide_eq_true c23, if_pos c23, decide_eq_true c31, if_pos c31, Bool.not_true, Bool.not_false, Bool.and_true, Bool.true_and, Bool.false_and, Bool.and_false, bI_t, bI_f] <;> (try rfl), (by first | (rw [hu1]; done) | (rw [hu1]; funext k; simp only [gup]; (repeat' split) <;> first | with_reducible rfl | (exfalso; omega) | rfl)), rfl⟩ d_M_about_41
          · skip
            refine g_iload_n C d_M_about_34 rfl 2 rfl ?_
            refine g_bipush (v := 11) C d_M_about_35 (by decide) ?_
            refine g_icmp_le 42 C d_M_about_37 (by decide) (fun c37 => ?_) (fun c37 => ?_)
            · skip
              refine g_iload_n C d_M_about_42 rfl 3 rfl ?_
              refine g_if_ne 60 C d_M_about_43 (by decide) (fun c43 => ?_) (fun c43 => ?_)
              · skip
                refine g_iload_n C d_M_about_60 rfl 3 rfl ?_
                refine g_iconst (v := 1) C d_M_about_61 (by decide) ?_
                refine g_icmp_ne 79 C d_M_about_62 (by decide) (fun c62 => ?_) (fun c62 => ?_)
                · skip
                  refine g_aload_n C d_M_about_79 rfl 0 rfl ?_
                  refine g_get m 21 C hu1_0 rfl i_M (by decide) (gmem wd_539 rfl) rfl rfl d_M_about_80 ?_
                  refine g_bipush (v := 12) C d_M_about_83 (by decide) ?_
                  refine g_iload_n C d_M_about_85 rfl 1 rfl ?_
                  refine g_imul C d_M_about_86 ?_
                  refine g_iload_n C d_M_about_87 rfl 2 rfl ?_
                  refine g_iadd C d_M_about_88 ?_
                  refine g_lald (m + 14) 1 C hu1_3 rfl (in768 (in64x c6 c14 hbi) (in12y c31 c37)).1 d_M_about_89 ?_
                  rw [show Int32.toNatClampNeg ((12 * b) + x) = 12 * b.toNatClampNeg + x.toNatClampNeg from (in768 (in64x c6 c14 hbi) (in12y c31 c37)).2]
                  exact g_lret C hR hret ⟨by simp only [aboM, decide_eq_false c6, if_neg c6, decide_eq_false c14, if_neg c14, decide_eq_false c18, if_neg c18, decide_eq_true c23, if_pos c23, decide_eq_false c31, if_neg c31, decide_eq_true c37, if_pos c37, decide_eq_false c43, if_neg c43, decide_eq_false c62, if_neg c62, Bool.not_true, Bool.not_false, Bool.and_true, Bool.true_and, Bool.false_and, Bool.and_false, bI_t, bI_f] <;> (try rfl), (by first | (rw [hu1]; done) | (rw [hu1]; funext k; simp only [gup]; (repeat' split) <;> first | with_reducible rfl | (exfalso; omega) | rfl)), rfl⟩ d_M_about_90
                · skip
                  refine g_aload_n C d_M_about_65 rfl 0 rfl ?_
                  refine g_get m 20 C hu1_0 rfl i_M (by decide) (gmem wd_538 rfl) rfl rfl d_M_about_66 ?_
                  refine g_bipush (v := 12) C d_M_about_69 (by decide) ?_
                  refine g_iload_n C d_M_about_71 rfl 1 rfl ?_
                  refine g_imul C d_M_about_72 ?_
                  refine g_iload_n C d_M_about_73 rfl 2 rfl ?_
                  refine g_iadd C d_M_about_74 ?_
                  refine g_lald (m + 13) 1 C hu1_2 rfl (in768 (in64x c6 c14 hbi) (in12y c31 c37)).1 d_M_about_75 ?_
                  rw [show Int32.toNatClampNeg ((12 * b) + x) = 12 * b.toNatClampNeg + x.toNatClampNeg from (in768 (in64x c6 c14 hbi) (in12y c31 c37)).2]
                  refine g_goto 90 C d_M_about_76 (by decide) ?_
                  exact g_lret C hR hret ⟨by simp only [aboM, decide_eq_false c6, if_neg c6, decide_eq_false c14, if_neg c14, decide_eq_false c18, if_neg c18, decide_eq_true c23, if_pos c23, decide_eq_false c31, if_neg c31, decide_eq_true c37, if_pos c37, decide_eq_false c43, if_neg c43, decide_eq_true c62, if_pos c62, Bool.not_true, Bool.not_false, Bool.and_true, Bool.true_and, Bool.false_and, Bool.and_false, bI_t, bI_f] <;> (try rfl), (by first | (rw [hu1]; done) | (rw [hu1]; funext k; simp only [gup]; (repeat' split) <;> first | with_reducible rfl | (exfalso; omega) | rfl)), rfl⟩ d_M_about_90
              · skip
                refine g_aload_n C d_M_about_46 rfl 0 rfl ?_
                refine g_get m 19 C hu1_0 rfl i_M (by decide) (gmem wd_537 rfl) rfl rfl d_M_about_47 ?_
                refine g_bipush (v := 12) C d_M_about_50 (by decide) ?_
                refine g_iload_n C d_M_about_52 rfl 1 rfl ?_
                refine g_imul C d_M_about_53 ?_
                refine g_iload_n C d_M_about_54 rfl 2 rfl ?_
                refine g_iadd C d_M_about_55 ?_
                refine g_lald (m + 12) 1 C hu1_1 rfl (in768 (in64x c6 c14 hbi) (in12y c31 c37)).1 d_M_about_56 ?_
                rw [show Int32.toNatClampNeg ((12 * b) + x) = 12 * b.toNatClampNeg + x.toNatClampNeg from (in768 (in64x c6 c14 hbi) (in12y c31 c37)).2]
                refine g_goto 90 C d_M_about_57 (by decide) ?_
                exact g_lret C hR hret ⟨by simp only [aboM, decide_eq_false c6, if_neg c6, decide_eq_false c14, if_neg c14, decide_eq_false c18, if_neg c18, decide_eq_true c23, if_pos c23, decide_eq_false c31, if_neg c31, decide_eq_true c37, if_pos c37, decide_eq_true c43, if_pos c43, Bool.not_true, Bool.not_false, Bool.and_true, Bool.true_and, Bool.false_and, Bool.and_false, bI_t, bI_f] <;> (try rfl), (by first | (rw [hu1]; done) | (rw [hu1]; funext k; simp only [gup]; (repeat' split) <;> first | with_reducible rfl | (exfalso; omega) | rfl)), rfl⟩ d_M_about_90
            · skip
              refine g_lconst (v := 0) C d_M_about_40 (by decide) ?_
              exact g_lret C hR hret ⟨by simp only [aboM, decide_eq_false c6, if_neg c6, decide_eq_false c14, if_neg c14, decide_eq_false c18, if_neg c18, decide_eq_true c23, if_pos c23, decide_eq_false c31, if_neg c31, decide_eq_false c37, if_neg c37, Bool.not_true, Bool.not_false, Bool.and_true, Bool.true_and, Bool.false_and, Bool.and_false, bI_t, bI_f] <;> (try rfl), (by first | (rw [hu1]; done) | (rw [hu1]; funext k; simp only [gup]; (repeat' split) <;> first | with_reducible rfl | (exfalso; omega) | rfl)), rfl⟩ d_M_about_41
        · skip
          refine g_ldc2 C (gmem wd_714 rfl) d_M_about_26 ?_
          exact g_lret C hR hret ⟨by simp only [aboM, decide_eq_false c6, if_neg c6, decide_eq_false c14, if_neg c14, decide_eq_false c18, if_neg c18, decide_eq_false c23, if_neg c23, Bool.not_true, Bool.not_false, Bool.and_true, Bool.true_and, Bool.false_and, Bool.and_false, bI_t, bI_f] <;> (try rfl), (by first | (rw [hu1]; done) | (rw [hu1]; funext k; simp only [gup]; (repeat' split) <;> first | with_reducible rfl | (exfalso; omega) | rfl)), rfl⟩ d_M_about_29

set_option maxHeartbeats 4000000 in
set_option maxRecDepth 100000 in
theorem k_M_total (l : Launch) (X : gX) (ad : Nat → Nat) (u : gW) (sz : Nat) (m : Nat) (th cl dr wy ce ra li bi : Int32) (tot : Nat → Int64) (b : Int32) (hm : u m = some (mO ad m th cl dr wy ce ra li bi)) (h_tot : u (m + 10) = some (.inl ((X.2 1), 64, .inr (.inl tot)))) (hbi : bi ≤ 64) : gMet l (EE X) y_M_total c_M_total 2 (some .long) ({ frames := 0, cells := 0, slots := 0, locals := 0 }) [.ref (ad m), .int b] ad u sz (fun v u' sz' => v = some (.long (totM bi b tot)) ∧ u' = gup u m (mO ad m 0 cl dr wy ce ra li bi) ∧ sz' = sz) := by
  refine gMet_of "ExpenseClubsModel" rfl (by decide) (Nat.le_of_ble_eq_true rfl) (lv := [(0, .ref (ad m)), (1, .int b)]) rfl (fun Z hZl C hR hret hname => ?_)
  refine g_aload_n C d_M_total_0 rfl 0 rfl ?_
  refine g_iconst (v := 0) C d_M_total_1 (by decide) ?_
  refine g_put m 0 C hm rfl i_M t_M t_M_ok n_M (by decide) (gmem wd_518 rfl) rfl rfl rfl rfl (Nat.le_of_ble_eq_true rfl) d_M_total_2 ?_
  show GW Z _ _ _ ad (gup u m (mO ad m 0 cl dr wy ce ra li bi)) _ _ _ _ _ _
  obtain ⟨u1, hu1⟩ : ∃ z, z = gup u m (mO ad m 0 cl dr wy ce ra li bi) := ⟨_, rfl⟩
  rw [← hu1]
  have hu1_0 : u1 m = some (mO ad m 0 cl dr wy ce ra li bi) := by rw [hu1]; exact gup_self _ _ _
  have hu1_1 : u1 (m + 10) = some (.inl ((X.2 1), 64, .inr (.inl tot))) := by rw [hu1, gup_ne (by omega)]; exact h_tot
  refine g_iload_n C d_M_total_5 rfl 1 rfl ?_
  refine g_if_lt 17 C d_M_total_6 (by decide) (fun c6 => ?_) (fun c6 => ?_)
  · skip
    refine g_ldc2 C (gmem wd_714 rfl) d_M_total_17 ?_
    refine g_goto 29 C d_M_total_20 (by decide) ?_
    exact g_lret C hR hret ⟨by simp only [totM, decide_eq_true c6, if_pos c6, Bool.not_true, Bool.not_false, Bool.and_true, Bool.true_and, Bool.false_and, Bool.and_false, bI_t, bI_f] <;> (try rfl), (by first | (rw [hu1]; done) | (rw [hu1]; funext k; simp only [gup]; (repeat' split) <;> first | with_reducible rfl | (exfalso; omega) | rfl)), rfl⟩ d_M_total_29
  · skip
    refine g_iload_n C d_M_total_9 rfl 1 rfl ?_
    refine g_aload_n C d_M_total_10 rfl 0 rfl ?_
    refine g_get m 15 C hu1_0 rfl i_M (by decide) (gmem wd_533 rfl) rfl rfl d_M_total_11 ?_
    refine g_icmp_lt 23 C d_M_total_14 (by decide) (fun c14 => ?_) (fun c14 => ?_)
    · skip
      refine g_aload_n C d_M_total_23 rfl 0 rfl ?_
      refine g_get m 17 C hu1_0 rfl i_M (by decide) (gmem wd_535 rfl) rfl rfl d_M_total_24 ?_
      refine g_iload_n C d_M_total_27 rfl 1 rfl ?_
      refine g_lald (m + 10) 1 C hu1_1 rfl (in64x c6 (fun h => absurd c14 (Int32.not_lt.mpr h)) hbi) d_M_total_28 ?_
      exact g_lret C hR hret ⟨by simp only [totM, decide_eq_false c6, if_neg c6, decide_eq_true c14, if_pos c14, Bool.not_true, Bool.not_false, Bool.and_true, Bool.true_and, Bool.false_and, Bool.and_false, bI_t, bI_f] <;> (try rfl), (by first | (rw [hu1]; done) | (rw [hu1]; funext k; simp only [gup]; (repeat' split) <;> first | with_reducible rfl | (exfalso; omega) | rfl)), rfl⟩ d_M_total_29
    · skip
      refine g_ldc2 C (gmem wd_714 rfl) d_M_total_17 ?_
      refine g_goto 29 C d_M_total_20 (by decide) ?_
      exact g_lret C hR hret ⟨by simp only [totM, decide_eq_false c6, if_neg c6, decide_eq_false c14, if_neg c14, Bool.not_true, Bool.not_false, Bool.and_true, Bool.true_and, Bool.false_and, Bool.and_false, bI_t, bI_f] <;> (try rfl), (by first | (rw [hu1]; done) | (rw [hu1]; funext k; simp only [gup]; (repeat' split) <;> first | with_reducible rfl | (exfalso; omega) | rfl)), rfl⟩ d_M_total_29

set_option maxHeartbeats 4000000 in
set_option maxRecDepth 100000 in
theorem k_M_thrown (l : Launch) (X : gX) (ad : Nat → Nat) (u : gW) (sz : Nat) (m : Nat) (th cl dr wy ce ra li bi : Int32)  (hm : u m = some (mO ad m th cl dr wy ce ra li bi))  : gMet l (EE X) y_M_thrown c_M_thrown 1 (some .int) ({ frames := 0, cells := 0, slots := 0, locals := 0 }) [.ref (ad m)] ad u sz (fun v u' sz' => v = some (.int th) ∧ u' = u ∧ sz' = sz) := by
  refine gMet_of "ExpenseClubsModel" rfl (by decide) (Nat.le_of_ble_eq_true rfl) (lv := [(0, .ref (ad m))]) rfl (fun Z hZl C hR hret hname => ?_)
  refine g_aload_n C d_M_thrown_0 rfl 0 rfl ?_
  refine g_get m 0 C hm rfl i_M (by decide) (gmem wd_518 rfl) rfl rfl d_M_thrown_1 ?_
  exact g_iret C hR hret ⟨rfl, rfl, rfl⟩ d_M_thrown_4
