def innS (am : Nat → Int64) (mo : Nat → Int32) (s : Nat) : Nat → Int64 × Int32
  | 0 => (0, 0)
  | i + 1 => if s.testBit i = false then innS am mo s i else ((innS am mo s i).1 + am i, if (innS am mo s i).2 < mo (s ^^^ 2 ^ i) then mo (s ^^^ 2 ^ i) else (innS am mo s i).2)
def moV (am : Nat → Int64) (mo : Nat → Int32) (k s : Nat) : Int32 := if (innS am mo s k).1 = 0 then (innS am mo s k).2 + 1 else (innS am mo s k).2
def moS (am : Nat → Int64) (k : Nat) (mo : Nat → Int32) : Nat → Nat → Int32
  | 0 => upd mo 0 0
  | j + 1 => upd (moS am k mo j) (j + 1) (moV am (moS am k mo j) k (j + 1))
theorem innS_f {am : Nat → Int64} {mo : Nat → Int32} {s i : Nat} (h : s.testBit i = false) : innS am mo s (i + 1) = innS am mo s i := if_pos h
theorem innS_t {am : Nat → Int64} {mo : Nat → Int32} {s i : Nat} (h : ¬ s.testBit i = false) : innS am mo s (i + 1) = ((innS am mo s i).1 + am i, if (innS am mo s i).2 < mo (s ^^^ 2 ^ i) then mo (s ^^^ 2 ^ i) else (innS am mo s i).2) := if_neg h
set_option maxHeartbeats 4000000 in
set_option maxRecDepth 100000 in
theorem k_G_countMost (l : Launch) (X : gX) (ad : Nat → Nat) (u : gW) (sz : Nat) (g k : Nat) (am : Nat → Int64) (mo : Nat → Int32) (hg : u g = some (.inr (3, [.ref (ad (g + 1)), .ref (ad (g + 2)), .ref (ad (g + 3)), .int (nI k)]))) (hg2 : u (g + 2) = some (.inl ((X.2 1), 12, .inr (.inl am)))) (hg3 : u (g + 3) = some (.inl ((X.2 0), 4096, .inl mo))) (hk : k ≤ 12) : gMet l (EE X) y_G_countMost c_G_countMost 6 none ({ frames := 1, cells := 0, slots := 0, locals := 20 }) [.ref (ad g)] ad u sz (fun v u' sz' => v = none ∧ u' = gup u (g + 3) (.inl ((X.2 0), 4096, .inl (moS am k mo (2 ^ k - 1)))) ∧ sz' = sz) := by
  refine gMet_of "ExpenseClubs$Grouping" rfl (by decide) (Nat.le_of_ble_eq_true rfl) (lv := [(0, .ref (ad g))]) rfl (fun Z hZl C hR hret hname => ?_)
  refine g_aload_n C d_G_countMost_0 rfl 0 rfl ?_
  refine g_get g 2 C hg rfl i_G (by decide) (gmem wd_69 rfl) rfl rfl d_G_countMost_1 ?_
  refine g_iconst (v := 0) C d_G_countMost_4 (by decide) ?_
  refine g_iconst (v := 0) C d_G_countMost_5 (by decide) ?_
  refine g_iast (g + 3) 0 C hg3 rfl (vp_in_nI (n := 0) (by decide) (by decide)) d_G_countMost_6 ?_
  rw [show Int32.toNatClampNeg 0 = 0 from sb_cl0]
  obtain ⟨u1, hu1⟩ : ∃ z, z = gup u (g + 3) (.inl ((X.2 0), 4096, .inl (upd mo 0 0))) := ⟨_, rfl⟩
  rw [← hu1]
  have hu1_0 : u1 g = some (.inr (3, [.ref (ad (g + 1)), .ref (ad (g + 2)), .ref (ad (g + 3)), .int (nI k)])) := by rw [hu1, gup_ne (by omega)]; exact hg
  have hu1_1 : u1 (g + 2) = some (.inl ((X.2 1), 12, .inr (.inl am))) := by rw [hu1, gup_ne (by omega)]; exact hg2
  have hu1_2 : u1 (g + 3) = some (.inl ((X.2 0), 4096, .inl (upd mo 0 0))) := by rw [hu1]; exact gup_self _ _ _
  refine g_iconst (v := 1) C d_G_countMost_7 (by decide) ?_
  refine g_istore_n C d_G_countMost_8 rfl [(1, .int 1), (0, .ref (ad g))] (by decide) rfl ?_
  refine g_fewer (lv' := [(0, .ref (ad g)), (1, .int 1)]) [1, 0] rfl ?_
  refine GW_eq (u2 := gup u1 (g + 3) (.inl ((X.2 0), 4096, .inl (moS am k mo 0)))) (lv2 := [(0, .ref (ad g)), (1, .int (nI (0 + 1)))]) (gup_id hu1_2).symm rfl ?_
  refine g_loop (2 ^ k - 1) (fun iL9 => True) (fun iL9 => gup u1 (g + 3) (.inl ((X.2 0), 4096, .inl (moS am k mo iL9)))) (fun iL9 => [(0, .ref (ad g)), (1, .int (nI (iL9 + 1)))]) (fun iL9 hiL9 piL9 KL9 => ?_) (fun piL9 => ?_) 0 (by omega) trivial
  · skip
    show GW Z _ _ _ ad (gup u1 (g + 3) (.inl ((X.2 0), 4096, .inl (moS am k mo iL9)))) _ [(0, .ref (ad g)), (1, .int (nI (iL9 + 1)))] _ _ 9 []
    obtain ⟨wL9s, hwL9s⟩ : ∃ z, z = gup u1 (g + 3) (.inl ((X.2 0), 4096, .inl (moS am k mo iL9))) := ⟨_, rfl⟩
    rw [← hwL9s]
    have hwL9s_0 : wL9s g = some (.inr (3, [.ref (ad (g + 1)), .ref (ad (g + 2)), .ref (ad (g + 3)), .int (nI k)])) := by rw [hwL9s, gup_ne (by omega)]; exact hu1_0
    have hwL9s_1 : wL9s (g + 2) = some (.inl ((X.2 1), 12, .inr (.inl am))) := by rw [hwL9s, gup_ne (by omega)]; exact hu1_1
    have hwL9s_2 : wL9s (g + 3) = some (.inl ((X.2 0), 4096, .inl (moS am k mo iL9))) := by rw [hwL9s, gup_self]
    refine g_iload_n C d_G_countMost_9 rfl 1 rfl ?_
    refine g_iconst (v := 1) C d_G_countMost_10 (by decide) ?_
    refine g_aload_n C d_G_countMost_11 rfl 0 rfl ?_
    refine g_get g 3 C hwL9s_0 rfl i_G (by decide) (gmem wd_70 rfl) rfl rfl d_G_countMost_12 ?_
    refine g_ishl C d_G_countMost_15 ?_
    rw [shl1 k (by omega)]
    refine g_icmp_ge 106 C d_G_countMost_16 (by decide) (fun c9s16 => ?_) (fun c9s16 => ?_)
    · exact absurd c9s16 (geK (pw12 hk) (by omega))
    refine g_lconst (v := 0) C d_G_countMost_19 (by decide) ?_
    refine g_lstore_n C d_G_countMost_20 rfl [(2, .long 0), (0, .ref (ad g)), (1, .int (nI (iL9 + 1)))] (by decide) rfl ?_
    refine g_iconst (v := 0) C d_G_countMost_21 (by decide) ?_
    refine g_istore C d_G_countMost_22 [(4, .int 0), (2, .long 0), (0, .ref (ad g)), (1, .int (nI (iL9 + 1)))] (by decide) rfl ?_
    refine g_iconst (v := 0) C d_G_countMost_24 (by decide) ?_
    refine g_istore C d_G_countMost_25 [(5, .int 0), (4, .int 0), (2, .long 0), (0, .ref (ad g)), (1, .int (nI (iL9 + 1)))] (by decide) rfl ?_
    refine g_fewer (lv' := [(0, .ref (ad g)), (1, .int (nI (iL9 + 1))), (2, .long 0), (4, .int 0), (5, .int 0)]) [3, 4, 2, 1, 0] rfl ?_
    refine GW_eq (u2 := wL9s) (lv2 := [(0, .ref (ad g)), (1, .int (nI (iL9 + 1))), (2, .long ((innS am (moS am k mo iL9) (iL9 + 1) 0).1)), (4, .int ((innS am (moS am k mo iL9) (iL9 + 1) 0).2)), (5, .int (nI 0))]) rfl rfl ?_
    refine g_loop k (fun iL10 => True) (fun iL10 => wL9s) (fun iL10 => [(0, .ref (ad g)), (1, .int (nI (iL9 + 1))), (2, .long ((innS am (moS am k mo iL9) (iL9 + 1) iL10).1)), (4, .int ((innS am (moS am k mo iL9) (iL9 + 1) iL10).2)), (5, .int (nI iL10))]) (fun iL10 hiL10 piL10 KL10 => ?_) (fun piL10 => ?_) 0 (by omega) trivial
    · skip
      show GW Z _ _ _ ad (wL9s) _ [(0, .ref (ad g)), (1, .int (nI (iL9 + 1))), (2, .long ((innS am (moS am k mo iL9) (iL9 + 1) iL10).1)), (4, .int ((innS am (moS am k mo iL9) (iL9 + 1) iL10).2)), (5, .int (nI iL10))] _ _ 27 []
      obtain ⟨wL10s, hwL10s⟩ : ∃ z, z = wL9s := ⟨_, rfl⟩
      rw [← hwL10s]
      have hwL10s_0 : wL10s g = some (.inr (3, [.ref (ad (g + 1)), .ref (ad (g + 2)), .ref (ad (g + 3)), .int (nI k)])) := by rw [hwL10s]; exact hwL9s_0
      have hwL10s_1 : wL10s (g + 2) = some (.inl ((X.2 1), 12, .inr (.inl am))) := by rw [hwL10s]; exact hwL9s_1
      have hwL10s_2 : wL10s (g + 3) = some (.inl ((X.2 0), 4096, .inl (moS am k mo iL9))) := by rw [hwL10s]; exact hwL9s_2
      refine g_iload C d_G_countMost_27 4 rfl ?_
      refine g_aload_n C d_G_countMost_29 rfl 0 rfl ?_
      refine g_get g 3 C hwL10s_0 rfl i_G (by decide) (gmem wd_70 rfl) rfl rfl d_G_countMost_30 ?_
      refine g_icmp_ge 79 C d_G_countMost_33 (by decide) (fun c9s10s33 => ?_) (fun c9s10s33 => ?_)
      · exact absurd c9s10s33 (geK (by omega) hiL10)
      refine g_iload_n C d_G_countMost_36 rfl 1 rfl ?_
      refine g_iload C d_G_countMost_37 4 rfl ?_
      refine g_ishr C d_G_countMost_39 ?_
      refine g_iconst (v := 1) C d_G_countMost_40 (by decide) ?_
      refine g_iand C d_G_countMost_41 ?_
      refine g_if_eq 73 C d_G_countMost_42 (by decide) (fun c9s10s42 => ?_) (fun c9s10s42 => ?_)
      · skip
        obtain ⟨x9s10s73, ex9s10s73⟩ : ∃ y : Int32, y = (nI iL10) + 1 := ⟨_, rfl⟩
        refine g_iinc (v := x9s10s73) C d_G_countMost_73 4 rfl (by rw [ex9s10s73]; rfl) [(5, .int x9s10s73), (0, .ref (ad g)), (1, .int (nI (iL9 + 1))), (2, .long ((innS am (moS am k mo iL9) (iL9 + 1) iL10).1)), (4, .int ((innS am (moS am k mo iL9) (iL9 + 1) iL10).2))] (by decide) rfl ?_
        refine g_goto 27 C d_G_countMost_76 (by decide) ?_
        refine g_fewer (lv' := [(0, .ref (ad g)), (1, .int (nI (iL9 + 1))), (2, .long ((innS am (moS am k mo iL9) (iL9 + 1) iL10).1)), (4, .int ((innS am (moS am k mo iL9) (iL9 + 1) iL10).2)), (5, .int x9s10s73)]) [1, 2, 3, 4, 0] rfl ?_
        refine GW_eq (u2 := wL9s) (lv2 := [(0, .ref (ad g)), (1, .int (nI (iL9 + 1))), (2, .long ((innS am (moS am k mo iL9) (iL9 + 1) (iL10 + 1)).1)), (4, .int ((innS am (moS am k mo iL9) (iL9 + 1) (iL10 + 1)).2)), (5, .int (nI (iL10 + 1)))]) ?_ ?_ (KL10 trivial)
        · first | (rw [hwL10s]; done) | (rw [hwL10s]; funext k; simp only [gup]; (repeat' split) <;> first | with_reducible rfl | (exfalso; omega))
        · rw [innS_f ((bit0 (s := iL9 + 1) (i := iL10) (by have := pw12 hk; omega) (by omega)).mp c9s10s42)]; simp only [ex9s10s73, nI_1]
      · skip
        refine g_lload_n C d_G_countMost_45 rfl 2 rfl ?_
        refine g_aload_n C d_G_countMost_46 rfl 0 rfl ?_
        refine g_get g 1 C hwL10s_0 rfl i_G (by decide) (gmem wd_68 rfl) rfl rfl d_G_countMost_47 ?_
        refine g_iload C d_G_countMost_50 4 rfl ?_
        refine g_lald (g + 2) 1 C hwL10s_1 rfl (vp_in_nI (by omega) (by decide)) d_G_countMost_52 ?_
        rw [show Int32.toNatClampNeg (nI iL10) = iL10 from nI_clamp (by omega)]
        refine g_ladd C d_G_countMost_53 ?_
        refine g_topl (fun x9s10s54 ex9s10s54 => ?_)
        refine g_lstore_n C d_G_countMost_54 rfl [(2, .long x9s10s54), (0, .ref (ad g)), (1, .int (nI (iL9 + 1))), (4, .int ((innS am (moS am k mo iL9) (iL9 + 1) iL10).2)), (5, .int (nI iL10))] (by decide) rfl ?_
        refine g_iload C d_G_countMost_55 3 rfl ?_
        refine g_aload_n C d_G_countMost_57 rfl 1 rfl ?_
        refine g_get g 2 C hwL10s_0 rfl i_G (by decide) (gmem wd_69 rfl) rfl rfl d_G_countMost_58 ?_
        refine g_iload_n C d_G_countMost_61 rfl 2 rfl ?_
        refine g_iconst (v := 1) C d_G_countMost_62 (by decide) ?_
        refine g_iload C d_G_countMost_63 4 rfl ?_
        refine g_ishl C d_G_countMost_65 ?_
        refine g_ixor C d_G_countMost_66 ?_
        rw [shl1 iL10 (by omega), nI_xor]
        refine g_iald (g + 3) 0 C hwL10s_2 rfl (vp_in_nI (xor_lt (show iL9 + 1 < 4096 by have := pw12 hk; omega) (show 2 ^ iL10 < 4096 from Nat.pow_lt_pow_right (by decide) (show iL10 < 12 by omega))) (by decide)) d_G_countMost_67 ?_
        rw [show Int32.toNatClampNeg (nI ((iL9 + 1) ^^^ 2 ^ iL10)) = ((iL9 + 1) ^^^ 2 ^ iL10) from nI_clamp (Nat.lt_trans (xor_lt (show iL9 + 1 < 4096 by have := pw12 hk; omega) (show 2 ^ iL10 < 4096 from Nat.pow_lt_pow_right (by decide) (show iL10 < 12 by omega))) (by decide))]
        refine g_mmax C (gmem wd_369 rfl) (gmem wd_370 rfl) (gmem wd_9 rfl) (gmem wd_371 rfl) (Nat.le_of_ble_eq_true rfl) (Nat.le_of_ble_eq_true rfl) (Nat.le_of_ble_eq_true rfl) (Nat.le_of_ble_eq_true rfl) d_G_countMost_68 ?_
        refine g_topi (fun x9s10s71 ex9s10s71 => ?_)
        refine g_istore C d_G_countMost_71 [(4, .int x9s10s71), (2, .long x9s10s54), (0, .ref (ad g)), (1, .int (nI (iL9 + 1))), (5, .int (nI iL10))] (by decide) rfl ?_
        obtain ⟨x9s10s73, ex9s10s73⟩ : ∃ y : Int32, y = (nI iL10) + 1 := ⟨_, rfl⟩
        refine g_iinc (v := x9s10s73) C d_G_countMost_73 4 rfl (by rw [ex9s10s73]; rfl) [(5, .int x9s10s73), (4, .int x9s10s71), (2, .long x9s10s54), (0, .ref (ad g)), (1, .int (nI (iL9 + 1)))] (by decide) rfl ?_
        refine g_goto 27 C d_G_countMost_76 (by decide) ?_
        refine g_fewer (lv' := [(0, .ref (ad g)), (1, .int (nI (iL9 + 1))), (2, .long x9s10s54), (4, .int x9s10s71), (5, .int x9s10s73)]) [3, 4, 2, 1, 0] rfl ?_
        refine GW_eq (u2 := wL9s) (lv2 := [(0, .ref (ad g)), (1, .int (nI (iL9 + 1))), (2, .long ((innS am (moS am k mo iL9) (iL9 + 1) (iL10 + 1)).1)), (4, .int ((innS am (moS am k mo iL9) (iL9 + 1) (iL10 + 1)).2)), (5, .int (nI (iL10 + 1)))]) ?_ ?_ (KL10 trivial)
        · first | (rw [hwL10s]; done) | (rw [hwL10s]; funext k; simp only [gup]; (repeat' split) <;> first | with_reducible rfl | (exfalso; omega))
        · rw [innS_t (mt (bit0 (s := iL9 + 1) (i := iL10) (by have := pw12 hk; omega) (by omega)).mpr c9s10s42)]; simp only [ex9s10s54, ex9s10s71, ex9s10s73, nI_1]
    · skip
      show GW Z _ _ _ ad (wL9s) _ [(0, .ref (ad g)), (1, .int (nI (iL9 + 1))), (2, .long ((innS am (moS am k mo iL9) (iL9 + 1) k).1)), (4, .int ((innS am (moS am k mo iL9) (iL9 + 1) k).2)), (5, .int (nI k))] _ _ 27 []
      obtain ⟨wL10e, hwL10e⟩ : ∃ z, z = wL9s := ⟨_, rfl⟩
      rw [← hwL10e]
      have hwL10e_0 : wL10e g = some (.inr (3, [.ref (ad (g + 1)), .ref (ad (g + 2)), .ref (ad (g + 3)), .int (nI k)])) := by rw [hwL10e]; exact hwL9s_0
      have hwL10e_1 : wL10e (g + 2) = some (.inl ((X.2 1), 12, .inr (.inl am))) := by rw [hwL10e]; exact hwL9s_1
      have hwL10e_2 : wL10e (g + 3) = some (.inl ((X.2 0), 4096, .inl (moS am k mo iL9))) := by rw [hwL10e]; exact hwL9s_2
      refine g_iload C d_G_countMost_27 4 rfl ?_
      refine g_aload_n C d_G_countMost_29 rfl 0 rfl ?_
      refine g_get g 3 C hwL10e_0 rfl i_G (by decide) (gmem wd_70 rfl) rfl rfl d_G_countMost_30 ?_
      refine g_icmp_ge 79 C d_G_countMost_33 (by decide) (fun c9s10e33 => ?_) (fun c9s10e33 => ?_)
      rotate_left
      · exact absurd (Int32.le_refl _) c9s10e33
      refine g_aload_n C d_G_countMost_79 rfl 0 rfl ?_
      refine g_get g 2 C hwL10e_0 rfl i_G (by decide) (gmem wd_69 rfl) rfl rfl d_G_countMost_80 ?_
      refine g_iload_n C d_G_countMost_83 rfl 1 rfl ?_
      refine g_lload_n C d_G_countMost_84 rfl 2 rfl ?_
      refine g_lconst (v := 0) C d_G_countMost_85 (by decide) ?_
      refine g_lcmp C d_G_countMost_86 ?_
      refine g_if_ne 97 C d_G_countMost_87 (by decide) (fun c9s10e87 => ?_) (fun c9s10e87 => ?_)
      · rw [lg_cmp_eq] at c9s10e87
        refine g_iload C d_G_countMost_97 3 rfl ?_
        refine g_topi (fun x9s10e99 ex9s10e99 => ?_)
        refine g_iast (g + 3) 0 C hwL10e_2 rfl (vp_in_nI (by have := pw12 hk; omega) (by decide)) d_G_countMost_99 ?_
        rw [show Int32.toNatClampNeg (nI (iL9 + 1)) = (iL9 + 1) from nI_clamp (by have := pw12 hk; omega)]
        obtain ⟨u9s10e2, hu9s10e2⟩ : ∃ z, z = gup wL10e (g + 3) (.inl ((X.2 0), 4096, .inl (upd (moS am k mo iL9) (iL9 + 1) x9s10e99))) := ⟨_, rfl⟩
        rw [← hu9s10e2]
        have hu9s10e2_0 : u9s10e2 g = some (.inr (3, [.ref (ad (g + 1)), .ref (ad (g + 2)), .ref (ad (g + 3)), .int (nI k)])) := by rw [hu9s10e2, gup_ne (by omega)]; exact hwL10e_0
        have hu9s10e2_1 : u9s10e2 (g + 2) = some (.inl ((X.2 1), 12, .inr (.inl am))) := by rw [hu9s10e2, gup_ne (by omega)]; exact hwL10e_1
        have hu9s10e2_2 : u9s10e2 (g + 3) = some (.inl ((X.2 0), 4096, .inl (upd (moS am k mo iL9) (iL9 + 1) x9s10e99))) := by rw [hu9s10e2]; exact gup_self _ _ _
        obtain ⟨x9s10e100, ex9s10e100⟩ : ∃ y : Int32, y = (nI (iL9 + 1)) + 1 := ⟨_, rfl⟩
        refine g_iinc (v := x9s10e100) C d_G_countMost_100 1 rfl (by rw [ex9s10e100]; rfl) [(1, .int x9s10e100), (0, .ref (ad g)), (2, .long ((innS am (moS am k mo iL9) (iL9 + 1) k).1)), (4, .int ((innS am (moS am k mo iL9) (iL9 + 1) k).2)), (5, .int (nI k))] (by decide) rfl ?_
        refine g_goto 9 C d_G_countMost_103 (by decide) ?_
        refine g_fewer (lv' := [(0, .ref (ad g)), (1, .int x9s10e100)]) [1, 0] rfl ?_
        refine GW_eq (u2 := gup u1 (g + 3) (.inl ((X.2 0), 4096, .inl (moS am k mo (iL9 + 1))))) (lv2 := [(0, .ref (ad g)), (1, .int (nI (iL9 + 1 + 1)))]) ?_ ?_ (KL9 trivial)
        · first | (rw [hu9s10e2, hwL10e, hwL9s]; done) | (rw [hu9s10e2, hwL10e, hwL9s]; simp only [ex9s10e99, ex9s10e100]; done) | (rw [hu9s10e2, hwL10e, hwL9s]; simp only [ex9s10e99, ex9s10e100]; rw [show moS am k mo (iL9 + 1) = upd (moS am k mo iL9) (iL9 + 1) (moV am (moS am k mo iL9) k (iL9 + 1)) from rfl, moV, if_neg c9s10e87]; done) | (rw [hu9s10e2, hwL10e, hwL9s]; simp only [ex9s10e99, ex9s10e100]; rw [show moS am k mo (iL9 + 1) = upd (moS am k mo iL9) (iL9 + 1) (moV am (moS am k mo iL9) k (iL9 + 1)) from rfl, moV, if_neg c9s10e87]; funext k; simp only [gup]; (repeat' split) <;> first | with_reducible rfl | (exfalso; omega))
        · simp only [ex9s10e99, ex9s10e100, nI_1]
      · rw [lg_cmp_eq] at c9s10e87
        refine g_iload C d_G_countMost_90 3 rfl ?_
        refine g_iconst (v := 1) C d_G_countMost_92 (by decide) ?_
        refine g_iadd C d_G_countMost_93 ?_
        refine g_goto 99 C d_G_countMost_94 (by decide) ?_
        refine g_topi (fun x9s10e99 ex9s10e99 => ?_)
        refine g_iast (g + 3) 0 C hwL10e_2 rfl (vp_in_nI (by have := pw12 hk; omega) (by decide)) d_G_countMost_99 ?_
        rw [show Int32.toNatClampNeg (nI (iL9 + 1)) = (iL9 + 1) from nI_clamp (by have := pw12 hk; omega)]
        obtain ⟨u9s10e3, hu9s10e3⟩ : ∃ z, z = gup wL10e (g + 3) (.inl ((X.2 0), 4096, .inl (upd (moS am k mo iL9) (iL9 + 1) x9s10e99))) := ⟨_, rfl⟩
        rw [← hu9s10e3]
        have hu9s10e3_0 : u9s10e3 g = some (.inr (3, [.ref (ad (g + 1)), .ref (ad (g + 2)), .ref (ad (g + 3)), .int (nI k)])) := by rw [hu9s10e3, gup_ne (by omega)]; exact hwL10e_0
        have hu9s10e3_1 : u9s10e3 (g + 2) = some (.inl ((X.2 1), 12, .inr (.inl am))) := by rw [hu9s10e3, gup_ne (by omega)]; exact hwL10e_1
        have hu9s10e3_2 : u9s10e3 (g + 3) = some (.inl ((X.2 0), 4096, .inl (upd (moS am k mo iL9) (iL9 + 1) x9s10e99))) := by rw [hu9s10e3]; exact gup_self _ _ _
        obtain ⟨x9s10e100, ex9s10e100⟩ : ∃ y : Int32, y = (nI (iL9 + 1)) + 1 := ⟨_, rfl⟩
        refine g_iinc (v := x9s10e100) C d_G_countMost_100 1 rfl (by rw [ex9s10e100]; rfl) [(1, .int x9s10e100), (0, .ref (ad g)), (2, .long ((innS am (moS am k mo iL9) (iL9 + 1) k).1)), (4, .int ((innS am (moS am k mo iL9) (iL9 + 1) k).2)), (5, .int (nI k))] (by decide) rfl ?_
        refine g_goto 9 C d_G_countMost_103 (by decide) ?_
        refine g_fewer (lv' := [(0, .ref (ad g)), (1, .int x9s10e100)]) [1, 0] rfl ?_
        refine GW_eq (u2 := gup u1 (g + 3) (.inl ((X.2 0), 4096, .inl (moS am k mo (iL9 + 1))))) (lv2 := [(0, .ref (ad g)), (1, .int (nI (iL9 + 1 + 1)))]) ?_ ?_ (KL9 trivial)
        · first | (rw [hu9s10e3, hwL10e, hwL9s]; done) | (rw [hu9s10e3, hwL10e, hwL9s]; simp only [ex9s10e99, ex9s10e100]; done) | (rw [hu9s10e3, hwL10e, hwL9s]; simp only [ex9s10e99, ex9s10e100]; rw [show moS am k mo (iL9 + 1) = upd (moS am k mo iL9) (iL9 + 1) (moV am (moS am k mo iL9) k (iL9 + 1)) from rfl, moV, if_pos c9s10e87]; done) | (rw [hu9s10e3, hwL10e, hwL9s]; simp only [ex9s10e99, ex9s10e100]; rw [show moS am k mo (iL9 + 1) = upd (moS am k mo iL9) (iL9 + 1) (moV am (moS am k mo iL9) k (iL9 + 1)) from rfl, moV, if_pos c9s10e87]; funext k; simp only [gup]; (repeat' split) <;> first | with_reducible rfl | (exfalso; omega))
        · simp only [ex9s10e99, ex9s10e100, nI_1]
  · skip
    show GW Z _ _ _ ad (gup u1 (g + 3) (.inl ((X.2 0), 4096, .inl (moS am k mo (2 ^ k - 1))))) _ [(0, .ref (ad g)), (1, .int (nI ((2 ^ k - 1) + 1)))] _ _ 9 []
    obtain ⟨wL9e, hwL9e⟩ : ∃ z, z = gup u1 (g + 3) (.inl ((X.2 0), 4096, .inl (moS am k mo (2 ^ k - 1)))) := ⟨_, rfl⟩
    rw [← hwL9e]
    have hwL9e_0 : wL9e g = some (.inr (3, [.ref (ad (g + 1)), .ref (ad (g + 2)), .ref (ad (g + 3)), .int (nI k)])) := by rw [hwL9e, gup_ne (by omega)]; exact hu1_0
    have hwL9e_1 : wL9e (g + 2) = some (.inl ((X.2 1), 12, .inr (.inl am))) := by rw [hwL9e, gup_ne (by omega)]; exact hu1_1
    have hwL9e_2 : wL9e (g + 3) = some (.inl ((X.2 0), 4096, .inl (moS am k mo (2 ^ k - 1)))) := by rw [hwL9e, gup_self]
    have hp : 0 < 2 ^ k := Nat.pow_pos (by decide)
    refine g_iload_n C d_G_countMost_9 rfl 1 rfl ?_
    refine g_iconst (v := 1) C d_G_countMost_10 (by decide) ?_
    refine g_aload_n C d_G_countMost_11 rfl 0 rfl ?_
    refine g_get g 3 C hwL9e_0 rfl i_G (by decide) (gmem wd_70 rfl) rfl rfl d_G_countMost_12 ?_
    refine g_ishl C d_G_countMost_15 ?_
    rw [shl1 k (by omega)]
    refine g_icmp_ge 106 C d_G_countMost_16 (by decide) (fun c9e16 => ?_) (fun c9e16 => ?_)
    rotate_left
    · exact absurd (by rw [nI_leI (by have := pw12 hk; omega) (by have := pw12 hk; omega)]; omega) c9e16
    exact g_vret C hR hret ⟨rfl, (by first | (rw [hwL9e, hu1]; done) | (rw [hwL9e, hu1]; funext k; simp only [gup]; (repeat' split) <;> first | with_reducible rfl | (exfalso; omega))), rfl⟩ d_G_countMost_106
