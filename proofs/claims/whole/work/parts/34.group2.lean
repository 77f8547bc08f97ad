def innS (am : Nat → Int64) (mo : Nat → Int32) (s : Nat) : Nat → Int64 × Int32
  | 0 => (0, 0)
  | i + 1 => if s.testBit i = false then innS am mo s i else ((innS am mo s i).1 + am i, if (innS am mo s i).2 < mo (s ^^^ 2 ^ i) then mo (s ^^^ 2 ^ i) else (innS am mo s i).2)
def moV (am : Nat → Int64) (mo : Nat → Int32) (k s : Nat) : Int32 := if (innS am mo s k).1 = 0 then (innS am mo s k).2 + 1 else (innS am mo s k).2
def moS (am : Nat → Int64) (k : Nat) (mo : Nat → Int32) : Nat → Nat → Int32
  | 0 => upd mo 0 0
  | j + 1 => upd (moS am k mo j) (j + 1) (moV am (moS am k mo j) k (j + 1))
theorem innS_f {am : Nat → Int64} {mo : Nat → Int32} {s i : Nat} (h : s.testBit i = false) : innS am mo s (i + 1) = innS am mo s i := if_pos h
theorem innS_t {am : Nat → Int64} {mo : Nat → Int32} {s i : Nat} (h : ¬ s.testBit i = false) : innS am mo s (i + 1) = ((innS am mo s i).1 + am i, if (innS am mo s i).2 < mo (s ^^^ 2 ^ i) then mo (s ^^^ 2 ^ i) else (innS am mo s i).2) := if_neg h
set_option maxHeartbeats 4000000 in
set_option maxRecDepth 100000 in
theorem k_G_countMost (l : Launch) (X : gX) (ad : Nat → Nat) (u : gW) (sz : Nat) (g k : Nat) (am : Nat → Int64) (mo : Nat → Int32) (hg : u g = some (.inr (3, [.ref (ad (g + 1)), .ref (ad (g + 2)), .ref (ad (g + 3)), .int (nI k)]))) (hg2 : u (g + 2) = some (.inl ((X.2 1), 12, .inr (.inl am)))) (hg3 : u (g + 3) = some (.inl ((X.2 0), 4096, .inl mo))) (hk : k ≤ 12) : gMet l (EE X) y_G_countMost c_G_countMost 6 none ({ frames := 1, cells := 0, slots := 0, locals := 20 }) [.ref (ad g)] ad u sz (fun v u' sz' => v = none ∧ u' = gup u (g + 3) (.inl ((X.2 0), 4096, .inl (moS am k mo (2 ^ k - 1)))) ∧ sz' = sz) := by
  refine gMet_of "ExpenseClubs$Grouping" rfl (by decide) (Nat.le_of_ble_eq_true rfl) (lv := [(0, .ref (ad g))]) rfl (fun Z hZl C hR hret hname => ?_)
  refine g_aload_n C d_G_countMost_0 rfl 0 rfl ?_
  refine g_get g 2 C hg rfl i_G (by decide) (gmem wd_69 rfl) rfl rfl d_G_countMost_1 ?_
  refine g_iconst (v := 0) C d_G_countMost_4 (by decide) ?_
  refine g_iconst (v := 0) C d_G_countMost_5 (by decide) ?_
  refine g_iast (g + 3) 0 C hg3 rfl (vp_in_nI (n := 0) (by decide) (by decide)) d_G_countMost_6 ?_
  rw [show Int32.toNatClampNeg 0 = 0 from sb_cl0]
  obtain ⟨u1, hu1⟩ : ∃ z, z = gup u (g + 3) (.inl ((X.2 0), 4096, .inl (upd mo 0 0))) := ⟨_, rfl⟩
  rw [← hu1]
  have hu1_0 : u1 g = some (.inr (3, [.ref (ad (g + 1)), .ref (ad (g + 2)), .ref (ad (g + 3)), .int (nI k)])) := by rw [hu1, gup_ne (by omega)]; exact hg
  have hu1_1 : u1 (g + 2) = some (.inl ((X.2 1), 12, .inr (.inl am))) := by rw [hu1, gup_ne (by omega)]; exact hg2
  have hu1_2 : u1 (g + 3) = some (.inl ((X.2 0), 4096, .inl (upd mo 0 0))) := by rw [hu1]; exact gup_self _ _ _
  refine g_iconst (v := 1) C d_G_countMost_7 (by decide) ?_
  refine g_istore_n C d_G_countMost_8 rfl [(1, .int 1), (0, .ref (ad g))] (by decide) rfl ?_
  refine g_fewer (lv' := [(0, .ref (ad g)), (1, .int 1)]) [1, 0] rfl ?_
  refine GW_eq (u2 := gup u1 (g + 3) (.inl ((X.2 0), 4096, .inl (moS am k mo 0)))) (lv2 := [(0, .ref (ad g)), (1, .int (nI (0 + 1)))]) (gup_id hu1_2).symm rfl ?_
  refine g_loop (2 ^ k - 1) (fun iL14 => True) (fun iL14 => gup u1 (g + 3) (.inl ((X.2 0), 4096, .inl (moS am k mo iL14)))) (fun iL14 => [(0, .ref (ad g)), (1, .int (nI (iL14 + 1)))]) (fun iL14 hiL14 piL14 KL14 => ?_) (fun piL14 => ?_) 0 (by omega) trivial
  · skip
    show GW Z _ _ _ ad (gup u1 (g + 3) (.inl ((X.2 0), 4096, .inl (moS am k mo iL14)))) _ [(0, .ref (ad g)), (1, .int (nI (iL14 + 1)))] _ _ 9 []
    obtain ⟨wL14s, hwL14s⟩ : ∃ z, z = gup u1 (g + 3) (.inl ((X.2 0), 4096, .inl (moS am k mo iL14))) := ⟨_, rfl⟩
    rw [← hwL14s]
    have hwL14s_0 : wL14s g = some (.inr (3, [.ref (ad (g + 1)), .ref (ad (g + 2)), .ref (ad (g + 3)), .int (nI k)])) := by rw [hwL14s, gup_ne (by omega)]; exact hu1_0
    have hwL14s_1 : wL14s (g + 2) = some (.inl ((X.2 1), 12, .inr (.inl am))) := by rw [hwL14s, gup_ne (by omega)]; exact hu1_1
    have hwL14s_2 : wL14s (g + 3) = some (.inl ((X.2 0), 4096, .inl (moS am k mo iL14))) := by rw [hwL14s, gup_self]
    refine g_iload_n C d_G_countMost_9 rfl 1 rfl ?_
    refine g_iconst (v := 1) C d_G_countMost_10 (by decide) ?_
    refine g_aload_n C d_G_countMost_11 rfl 0 rfl ?_
    refine g_get g 3 C hwL14s_0 rfl i_G (by decide) (gmem wd_70 rfl) rfl rfl d_G_countMost_12 ?_
    refine g_ishl C d_G_countMost_15 ?_
    rw [shl1 k (by omega)]
    refine g_icmp_ge 106 C d_G_countMost_16 (by decide) (fun c14s16 => ?_) (fun c14s16 => ?_)
    · exact absurd c14s16 (geK (pw12 hk) (by omega))
    refine g_lconst (v := 0) C d_G_countMost_19 (by decide) ?_
    refine g_lstore_n C d_G_countMost_20 rfl [(2, .long 0), (0, .ref (ad g)), (1, .int (nI (iL14 + 1)))] (by decide) rfl ?_
    refine g_iconst (v := 0) C d_G_countMost_21 (by decide) ?_
    refine g_istore C d_G_countMost_22 [(4, .int 0), (2, .long 0), (0, .ref (ad g)), (1, .int (nI (iL14 + 1)))] (by decide) rfl ?_
    refine g_iconst (v := 0) C d_G_countMost_24 (by decide) ?_
    refine g_istore C d_G_countMost_25 [(5, .int 0), (4, .int 0), (2, .long 0), (0, .ref (ad g)), (1, .int (nI (iL14 + 1)))] (by decide) rfl ?_
    refine g_fewer (lv' := [(0, .ref (ad g)), (1, .int (nI (iL14 + 1))), (2, .long 0), (4, .int 0), (5, .int 0)]) [3, 4, 2, 1, 0] rfl ?_
    refine GW_eq (u2 := wL14s) (lv2 := [(0, .ref (ad g)), (1, .int (nI (iL14 + 1))), (2, .long ((innS am (moS am k mo iL14) (iL14 + 1) 0).1)), (4, .int ((innS am (moS am k mo iL14) (iL14 + 1) 0).2)), (5, .int (nI 0))]) rfl rfl ?_
    refine g_loop k (fun iL15 => True) (fun iL15 => wL14s) (fun iL15 => [(0, .ref (ad g)), (1, .int (nI (iL14 + 1))), (2, .long ((innS am (moS am k mo iL14) (iL14 + 1) iL15).1)), (4, .int ((innS am (moS am k mo iL14) (iL14 + 1) iL15).2)), (5, .int (nI iL15))]) (fun iL15 hiL15 piL15 KL15 => ?_) (fun piL15 => ?_) 0 (by omega) trivial
    · skip
      show GW Z _ _ _ ad (wL14s) _ [(0, .ref (ad g)), (1, .int (nI (iL14 + 1))), (2, .long ((innS am (moS am k mo iL14) (iL14 + 1) iL15).1)), (4, .int ((innS am (moS am k mo iL14) (iL14 + 1) iL15).2)), (5, .int (nI iL15))] _ _ 27 []
      obtain ⟨wL15s, hwL15s⟩ : ∃ z, z = wL14s := ⟨_, rfl⟩
      rw [← hwL15s]
      have hwL15s_0 : wL15s g = some (.inr (3, [.ref (ad (g + 1)), .ref (ad (g + 2)), .ref (ad (g + 3)), .int (nI k)])) := by rw [hwL15s]; exact hwL14s_0
      have hwL15s_1 : wL15s (g + 2) = some (.inl ((X.2 1), 12, .inr (.inl am))) := by rw [hwL15s]; exact hwL14s_1
      have hwL15s_2 : wL15s (g + 3) = some (.inl ((X.2 0), 4096, .inl (moS am k mo iL14))) := by rw [hwL15s]; exact hwL14s_2
      refine g_iload C d_G_countMost_27 4 rfl ?_
      refine g_aload_n C d_G_countMost_29 rfl 0 rfl ?_
      refine g_get g 3 C hwL15s_0 rfl i_G (by decide) (gmem wd_70 rfl) rfl rfl d_G_countMost_30 ?_
      refine g_icmp_ge 79 C d_G_countMost_33 (by decide) (fun c14s15s33 => ?_) (fun c14s15s33 => ?_)
      · exact absurd c14s15s33 (geK (by omega) hiL15)
      refine g_iload_n C d_G_countMost_36 rfl 1 rfl ?_
      refine g_iload C d_G_countMost_37 4 rfl ?_
      refine g_ishr C d_G_countMost_39 ?_
      refine g_iconst (v := 1) C d_G_countMost_40 (by decide) ?_
      refine g_iand C d_G_countMost_41 ?_
      refine g_if_eq 73 C d_G_countMost_42 (by decide) (fun c14s15s42 => ?_) (fun c14s15s42 => ?_)
      · skip
        obtain ⟨x14s15s73, ex14s15s73⟩ : ∃ y : Int32, y = (nI iL15) + 1 := ⟨_, rfl⟩
        refine g_iinc (v := x14s15s73) C d_G_countMost_73 4 rfl (by rw [ex14s15s73]; rfl) [(5, .int x14s15s73), (0, .ref (ad g)), (1, .int (nI (iL14 + 1))), (2, .long ((innS am (moS am k mo iL14) (iL14 + 1) iL15).1)), (4, .int ((innS am (moS am k mo iL14) (iL14 + 1) iL15).2))] (by decide) rfl ?_
        refine g_goto 27 C d_G_countMost_76 (by decide) ?_
        refine g_fewer (lv' := [(0, .ref (ad g)), (1, .int (nI (iL14 + 1))), (2, .long ((innS am (moS am k mo iL14) (iL14 + 1) iL15).1)), (4, .int ((innS am (moS am k mo iL14) (iL14 + 1) iL15).2)), (5, .int x14s15s73)]) [1, 2, 3, 4, 0] rfl ?_
        refine GW_eq (u2 := wL14s) (lv2 := [(0, .ref (ad g)), (1, .int (nI (iL14 + 1))), (2, .long ((innS am (moS am k mo iL14) (iL14 + 1) (iL15 + 1)).1)), (4, .int ((innS am (moS am k mo iL14) (iL14 + 1) (iL15 + 1)).2)), (5, .int (nI (iL15 + 1)))]) ?_ ?_ (KL15 trivial)
        · first | (rw [hwL15s]; done) | (rw [hwL15s]; funext k; simp only [gup]; (repeat' split) <;> first | with_reducible rfl | (exfalso; omega))
        · rw [innS_f ((bit0 (s := iL14 + 1) (i := iL15) (by have := pw12 hk; omega) (by omega)).mp c14s15s42)]; simp only [ex14s15s73, nI_1]
      · skip
        refine g_lload_n C d_G_countMost_45 rfl 2 rfl ?_
        refine g_aload_n C d_G_countMost_46 rfl 0 rfl ?_
        refine g_get g 1 C hwL15s_0 rfl i_G (by decide) (gmem wd_68 rfl) rfl rfl d_G_countMost_47 ?_
        refine g_iload C d_G_countMost_50 4 rfl ?_
        refine g_lald (g + 2) 1 C hwL15s_1 rfl (vp_in_nI (by omega) (by decide)) d_G_countMost_52 ?_
        rw [show Int32.toNatClampNeg (nI iL15) = iL15 from nI_clamp (by omega)]
        refine g_ladd C d_G_countMost_53 ?_
        refine g_topl (fun x14s15s54 ex14s15s54 => ?_)
        refine g_lstore_n C d_G_countMost_54 rfl [(2, .long x14s15s54), (0, .ref (ad g)), (1, .int (nI (iL14 + 1))), (4, .int ((innS am (moS am k mo iL14) (iL14 + 1) iL15).2)), (5, .int (nI iL15))] (by decide) rfl ?_
        refine g_iload C d_G_countMost_55 3 rfl ?_
        refine g_aload_n C d_G_countMost_57 rfl 1 rfl ?_
        refine g_get g 2 C hwL15s_0 rfl i_G (by decide) (gmem wd_69 rfl) rfl rfl d_G_countMost_58 ?_
        refine g_iload_n C d_G_countMost_61 rfl 2 rfl ?_
        refine g_iconst (v := 1) C d_G_countMost_62 (by decide) ?_
        refine g_iload C d_G_countMost_63 4 rfl ?_
        refine g_ishl C d_G_countMost_65 ?_
        refine g_ixor C d_G_countMost_66 ?_
        rw [shl1 iL15 (by omega), nI_xor]
        refine g_iald (g + 3) 0 C hwL15s_2 rfl (vp_in_nI (xor_lt (show iL14 + 1 < 4096 by have := pw12 hk; omega) (show 2 ^ iL15 < 4096 from Nat.pow_lt_pow_right (by decide) (show iL15 < 12 by omega))) (by decide)) d_G_countMost_67 ?_
        rw [show Int32.toNatClampNeg (nI ((iL14 + 1) ^^^ 2 ^ iL15)) = ((iL14 + 1) ^^^ 2 ^ iL15) from nI_clamp (Nat.lt_trans (xor_lt (show iL14 + 1 < 4096 by have := pw12 hk; omega) (show 2 ^ iL15 < 4096 from Nat.pow_lt_pow_right (by decide) (show iL15 < 12 by omega))) (by decide))]
        refine g_mmax C (gmem wd_369 rfl) (gmem wd_370 rfl) (gmem wd_9 rfl) (gmem wd_371 rfl) (Nat.le_of_ble_eq_true rfl) (Nat.le_of_ble_eq_true rfl) (Nat.le_of_ble_eq_true rfl) (Nat.le_of_ble_eq_true rfl) d_G_countMost_68 ?_
        refine g_topi (fun x14s15s71 ex14s15s71 => ?_)
        refine g_istore C d_G_countMost_71 [(4, .int x14s15s71), (2, .long x14s15s54), (0, .ref (ad g)), (1, .int (nI (iL14 + 1))), (5, .int (nI iL15))] (by decide) rfl ?_
        obtain ⟨x14s15s73, ex14s15s73⟩ : ∃ y : Int32, y = (nI iL15) + 1 := ⟨_, rfl⟩
        refine g_iinc (v := x14s15s73) C d_G_countMost_73 4 rfl (by rw [ex14s15s73]; rfl) [(5, .int x14s15s73), (4, .int x14s15s71), (2, .long x14s15s54), (0, .ref (ad g)), (1, .int (nI (iL14 + 1)))] (by decide) rfl ?_
        refine g_goto 27 C d_G_countMost_76 (by decide) ?_
        refine g_fewer (lv' := [(0, .ref (ad g)), (1, .int (nI (iL14 + 1))), (2, .long x14s15s54), (4, .int x14s15s71), (5, .int x14s15s73)]) [3, 4, 2, 1, 0] rfl ?_
        refine GW_eq (u2 := wL14s) (lv2 := [(0, .ref (ad g)), (1, .int (nI (iL14 + 1))), (2, .long ((innS am (moS am k mo iL14) (iL14 + 1) (iL15 + 1)).1)), (4, .int ((innS am (moS am k mo iL14) (iL14 + 1) (iL15 + 1)).2)), (5, .int (nI (iL15 + 1)))]) ?_ ?_ (KL15 trivial)
        · first | (rw [hwL15s]; done) | (rw [hwL15s]; funext k; simp only [gup]; (repeat' split) <;> first | with_reducible rfl | (exfalso; omega))
        · rw [innS_t (mt (bit0 (s := iL14 + 1) (i := iL15) (by have := pw12 hk; omega) (by omega)).mpr c14s15s42)]; simp only [ex14s15s54, ex14s15s71, ex14s15s73, nI_1]
    · skip
      show GW Z _ _ _ ad (wL14s) _ [(0, .ref (ad g)), (1, .int (nI (iL14 + 1))), (2, .long ((innS am (moS am k mo iL14) (iL14 + 1) k).1)), (4, .int ((innS am (moS am k mo iL14) (iL14 + 1) k).2)), (5, .int (nI k))] _ _ 27 []
      obtain ⟨wL15e, hwL15e⟩ : ∃ z, z = wL14s := ⟨_, rfl⟩
      rw [← hwL15e]
      have hwL15e_0 : wL15e g = some (.inr (3, [.ref (ad (g + 1)), .ref (ad (g + 2)), .ref (ad (g + 3)), .int (nI k)])) := by rw [hwL15e]; exact hwL14s_0
      have hwL15e_1 : wL15e (g + 2) = some (.inl ((X.2 1), 12, .inr (.inl am))) := by rw [hwL15e]; exact hwL14s_1
      have hwL15e_2 : wL15e (g + 3) = some (.inl ((X.2 0), 4096, .inl (moS am k mo iL14))) := by rw [hwL15e]; exact hwL14s_2
      refine g_iload C d_G_countMost_27 4 rfl ?_
      refine g_aload_n C d_G_countMost_29 rfl 0 rfl ?_
      refine g_get g 3 C hwL15e_0 rfl i_G (by decide) (gmem wd_70 rfl) rfl rfl d_G_countMost_30 ?_
      refine g_icmp_ge 79 C d_G_countMost_33 (by decide) (fun c14s15e33 => ?_) (fun c14s15e33 => ?_)
      rotate_left
      · exact absurd (Int32.le_refl _) c14s15e33
      refine g_aload_n C d_G_countMost_79 rfl 0 rfl ?_
      refine g_get g 2 C hwL15e_0 rfl i_G (by decide) (gmem wd_69 rfl) rfl rfl d_G_countMost_80 ?_
      refine g_iload_n C d_G_countMost_83 rfl 1 rfl ?_
      refine g_lload_n C d_G_countMost_84 rfl 2 rfl ?_
      refine g_lconst (v := 0) C d_G_countMost_85 (by decide) ?_
      refine g_lcmp C d_G_countMost_86 ?_
      refine g_if_ne 97 C d_G_countMost_87 (by decide) (fun c14s15e87 => ?_) (fun c14s15e87 => ?_)
      · rw [lg_cmp_eq] at c14s15e87
        refine g_iload C d_G_countMost_97 3 rfl ?_
        refine g_topi (fun x14s15e99 ex14s15e99 => ?_)
        refine g_iast (g + 3) 0 C hwL15e_2 rfl (vp_in_nI (by have := pw12 hk; omega) (by decide)) d_G_countMost_99 ?_
        rw [show Int32.toNatClampNeg (nI (iL14 + 1)) = (iL14 + 1) from nI_clamp (by have := pw12 hk; omega)]
        obtain ⟨u14s15e2, hu14s15e2⟩ : ∃ z, z = gup wL15e (g + 3) (.inl ((X.2 0), 4096, .inl (upd (moS am k mo iL14) (iL14 + 1) x14s15e99))) := ⟨_, rfl⟩
        rw [← hu14s15e2]
        have hu14s15e2_0 : u14s15e2 g = some (.inr (3, [.ref (ad (g + 1)), .ref (ad (g + 2)), .ref (ad (g + 3)), .int (nI k)])) := by rw [hu14s15e2, gup_ne (by omega)]; exact hwL15e_0
        have hu14s15e2_1 : u14s15e2 (g + 2) = some (.inl ((X.2 1), 12, .inr (.inl am))) := by rw [hu14s15e2, gup_ne (by omega)]; exact hwL15e_1
        have hu14s15e2_2 : u14s15e2 (g + 3) = some (.inl ((X.2 0), 4096, .inl (upd (moS am k mo iL14) (iL14 + 1) x14s15e99))) := by rw [hu14s15e2]; exact gup_self _ _ _
        obtain ⟨x14s15e100, ex14s15e100⟩ : ∃ y : Int32, y = (nI (iL14 + 1)) + 1 := ⟨_, rfl⟩
        refine g_iinc (v := x14s15e100) C d_G_countMost_100 1 rfl (by rw [ex14s15e100]; rfl) [(1, .int x14s15e100), (0, .ref (ad g)), (2, .long ((innS am (moS am k mo iL14) (iL14 + 1) k).1)), (4, .int ((innS am (moS am k mo iL14) (iL14 + 1) k).2)), (5, .int (nI k))] (by decide) rfl ?_
        refine g_goto 9 C d_G_countMost_103 (by decide) ?_
        refine g_fewer (lv' := [(0, .ref (ad g)), (1, .int x14s15e100)]) [1, 0] rfl ?_
        refine GW_eq (u2 := gup u1 (g + 3) (.inl ((X.2 0), 4096, .inl (moS am k mo (iL14 + 1))))) (lv2 := [(0, .ref (ad g)), (1, .int (nI (iL14 + 1 + 1)))]) ?_ ?_ (KL14 trivial)
        · first | (rw [hu14s15e2, hwL15e, hwL14s]; done) | (rw [hu14s15e2, hwL15e, hwL14s]; simp only [ex14s15e99, ex14s15e100]; done) | (rw [hu14s15e2, hwL15e, hwL14s]; simp only [ex14s15e99, ex14s15e100]; rw [show moS am k mo (iL14 + 1) = upd (moS am k mo iL14) (iL14 + 1) (moV am (moS am k mo iL14) k (iL14 + 1)) from rfl, moV, if_neg c14s15e87]; done) | (rw [hu14s15e2, hwL15e, hwL14s]; simp only [ex14s15e99, ex14s15e100]; rw [show moS am k mo (iL14 + 1) = upd (moS am k mo iL14) (iL14 + 1) (moV am (moS am k mo iL14) k (iL14 + 1)) from rfl, moV, if_neg c14s15e87]; funext k; simp only [gup]; (repeat' split) <;> first | with_reducible rfl | (exfalso; omega))
        · simp only [ex14s15e99, ex14s15e100, nI_1]
      · rw [lg_cmp_eq] at c14s15e87
        refine g_iload C d_G_countMost_90 3 rfl ?_
        refine g_iconst (v := 1) C d_G_countMost_92 (by decide) ?_
        refine g_iadd C d_G_countMost_93 ?_
        refine g_goto 99 C d_G_countMost_94 (by decide) ?_
        refine g_topi (fun x14s15e99 ex14s15e99 => ?_)
        refine g_iast (g + 3) 0 C hwL15e_2 rfl (vp_in_nI (by have := pw12 hk; omega) (by decide)) d_G_countMost_99 ?_
        rw [show Int32.toNatClampNeg (nI (iL14 + 1)) = (iL14 + 1) from nI_clamp (by have := pw12 hk; omega)]
        obtain ⟨u14s15e3, hu14s15e3⟩ : ∃ z, z = gup wL15e (g + 3) (.inl ((X.2 0), 4096, .inl (upd (moS am k mo iL14) (iL14 + 1) x14s15e99))) := ⟨_, rfl⟩
        rw [← hu14s15e3]
        have hu14s15e3_0 : u14s15e3 g = some (.inr (3, [.ref (ad (g + 1)), .ref (ad (g + 2)), .ref (ad (g + 3)), .int (nI k)])) := by rw [hu14s15e3, gup_ne (by omega)]; exact hwL15e_0
        have hu14s15e3_1 : u14s15e3 (g + 2) = some (.inl ((X.2 1), 12, .inr (.inl am))) := by rw [hu14s15e3, gup_ne (by omega)]; exact hwL15e_1
        have hu14s15e3_2 : u14s15e3 (g + 3) = some (.inl ((X.2 0), 4096, .inl (upd (moS am k mo iL14) (iL14 + 1) x14s15e99))) := by rw [hu14s15e3]; exact gup_self _ _ _
        obtain ⟨x14s15e100, ex14s15e100⟩ : ∃ y : Int32, y = (nI (iL14 + 1)) + 1 := ⟨_, rfl⟩
        refine g_iinc (v := x14s15e100) C d_G_countMost_100 1 rfl (by rw [ex14s15e100]; rfl) [(1, .int x14s15e100), (0, .ref (ad g)), (2, .long ((innS am (moS am k mo iL14) (iL14 + 1) k).1)), (4, .int ((innS am (moS am k mo iL14) (iL14 + 1) k).2)), (5, .int (nI k))] (by decide) rfl ?_
        refine g_goto 9 C d_G_countMost_103 (by decide) ?_
        refine g_fewer (lv' := [(0, .ref (ad g)), (1, .int x14s15e100)]) [1, 0] rfl ?_
        refine GW_eq (u2 := gup u1 (g + 3) (.inl ((X.2 0), 4096, .inl (moS am k mo (iL14 + 1))))) (lv2 := [(0, .ref (ad g)), (1, .int (nI (iL14 + 1 + 1)))]) ?_ ?_ (KL14 trivial)
        · first | (rw [hu14s15e3, hwL15e, hwL14s]; done) | (rw [hu14s15e3, hwL15e, hwL14s]; simp only [ex14s15e99, ex14s15e100]; done) | (rw [hu14s15e3, hwL15e, hwL14s]; simp only [ex14s15e99, ex14s15e100]; rw [show moS am k mo (iL14 + 1) = upd (moS am k mo iL14) (iL14 + 1) (moV am (moS am k mo iL14) k (iL14 + 1)) from rfl, moV, if_pos c14s15e87]; done) | (rw [hu14s15e3, hwL15e, hwL14s]; simp only [ex14s15e99, ex14s15e100]; rw [show moS am k mo (iL14 + 1) = upd (moS am k mo iL14) (iL14 + 1) (moV am (moS am k mo iL14) k (iL14 + 1)) from rfl, moV, if_pos c14s15e87]; funext k; simp only [gup]; (repeat' split) <;> first | with_reducible rfl | (exfalso; omega))
        · simp only [ex14s15e99, ex14s15e100, nI_1]
  · skip
    show GW Z _ _ _ ad (gup u1 (g + 3) (.inl ((X.2 0), 4096, .inl (moS am k mo (2 ^ k - 1))))) _ [(0, .ref (ad g)), (1, .int (nI ((2 ^ k - 1) + 1)))] _ _ 9 []
    obtain ⟨wL14e, hwL14e⟩ : ∃ z, z = gup u1 (g + 3) (.inl ((X.2 0), 4096, .inl (moS am k mo (2 ^ k - 1)))) := ⟨_, rfl⟩
    rw [← hwL14e]
    have hwL14e_0 : wL14e g = some (.inr (3, [.ref (ad (g + 1)), .ref (ad (g + 2)), .ref (ad (g + 3)), .int (nI k)])) := by rw [hwL14e, gup_ne (by omega)]; exact hu1_0
    have hwL14e_1 : wL14e (g + 2) = some (.inl ((X.2 1), 12, .inr (.inl am))) := by rw [hwL14e, gup_ne (by omega)]; exact hu1_1
    have hwL14e_2 : wL14e (g + 3) = some (.inl ((X.2 0), 4096, .inl (moS am k mo (2 ^ k - 1)))) := by rw [hwL14e, gup_self]
    have hp : 0 < 2 ^ k := Nat.pow_pos (by decide)
    refine g_iload_n C d_G_countMost_9 rfl 1 rfl ?_
    refine g_iconst (v := 1) C d_G_countMost_10 (by decide) ?_
    refine g_aload_n C d_G_countMost_11 rfl 0 rfl ?_
    refine g_get g 3 C hwL14e_0 rfl i_G (by decide) (gmem wd_70 rfl) rfl rfl d_G_countMost_12 ?_
    refine g_ishl C d_G_countMost_15 ?_
    rw [shl1 k (by omega)]
    refine g_icmp_ge 106 C d_G_countMost_16 (by decide) (fun c14e16 => ?_) (fun c14e16 => ?_)
    rotate_left
    · exact absurd (by rw [nI_leI (by have := pw12 hk; omega) (by have := pw12 hk; omega)]; omega) c14e16
    exact g_vret C hR hret ⟨rfl, (by first | (rw [hwL14e, hu1]; done) | (rw [hwL14e, hu1]; funext k; simp only [gup]; (repeat' split) <;> first | with_reducible rfl | (exfalso; omega))), rfl⟩ d_G_countMost_106
