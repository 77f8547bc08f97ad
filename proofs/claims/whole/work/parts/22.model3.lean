theorem geN {b : Int32} {n i : Nat} (h : b = nI n) (hn : n ≤ 4096) (hi : i < n) : ¬ b ≤ nI i := by
  rw [h]; exact fun q => by rw [nI_leI (by omega) (by omega)] at q; omega
theorem leN {b : Int32} {n : Nat} (h : b = nI n) : b ≤ nI n := by rw [h]; exact Int32.le_refl _
theorem in768i {i : Nat} {x : Int32} (hi : i < 64) (hx : vp_in x 12) : vp_in (12 * nI i + x) 768 ∧ (12 * nI i + x).toNatClampNeg = 12 * i + x.toNatClampNeg := by
  have h := in768 (b := nI i) (vp_in_nI hi (by decide)) hx
  rw [nI_clamp (n := i) (by omega)] at h
  exact h
/-- the balance of the model: what was sent, and the bills -/
def balR (cof str : Nat → Int32) (pai sha : Nat → Int64) (c : Int32) (x : Nat) (s0 : Int64) : Nat → Int64
  | 0 => s0
  | b + 1 => balR cof str pai sha c x s0 b + (if cof b = c then (if str b = 0 then pai (12 * b + x) - sha (12 * b + x) else 0) else 0)
def driR (cof str : Nat → Int32) (dri : Nat → Int64) (c : Int32) (x : Nat) : Nat → Int64
  | 0 => 0
  | b + 1 => driR cof str dri c x b + (if cof b = c then (if str b = 0 then dri (12 * b + x) else 0) else 0)
def balM (cl : Int32) (mem cof str : Nat → Int32) (pai sha sen : Nat → Int64) (nb : Nat) (c x : Int32) : Int64 :=
  if memM cl mem c x = true then balR cof str pai sha c x.toNatClampNeg (sen (12 * c.toNatClampNeg + x.toNatClampNeg)) nb else 0
def driM (cl : Int32) (mem cof str : Nat → Int32) (dri : Nat → Int64) (nb : Nat) (c x : Int32) : Int64 :=
  if memM cl mem c x = true then driR cof str dri c x.toNatClampNeg nb else 0
theorem in44 {c : Int32} {i : Nat} (hc : vp_in c 4) (hi : i < 11) : vp_in (11 * c + nI i) 44 ∧ (11 * c + nI i).toNatClampNeg = 11 * c.toNatClampNeg + i := by
  obtain ⟨j, h1, h2, h3⟩ := vp_nat hc (by decide)
  have e : 11 * c + nI i = nI (11 * j + i) := by
    rw [h2, show (11 : Int32) = nI 11 from rfl, pk_mul, nI_add]
  rw [e, h3]
  exact ⟨vp_in_nI (by omega) (by decide), nI_clamp (by omega)⟩
theorem in44x {c i : Int32} (hc : vp_in c 4) (hi : vp_in i 11) : vp_in (11 * c + i) 44 ∧ (11 * c + i).toNatClampNeg = 11 * c.toNatClampNeg + i.toNatClampNeg := by
  obtain ⟨j, h1, h2, h3⟩ := vp_nat hi (by decide)
  rw [h3, h2]
  exact in44 hc h1
def untS (tck : Nat → Int32) (c : Nat) : Nat → Int32
  | 0 => 0
  | i + 1 => untS tck c i + (if tck (11 * c + i) = 0 then 1 else 0)
def isTr (cl : Int32) (ope man : Nat → Int32) (c i : Int32) : Bool := isMb c cl && (!decide (ope c.toNatClampNeg = 0) && (!decide (i < 0) && !decide (man c.toNatClampNeg ≤ i)))
theorem isTr_c {cl : Int32} {ope man : Nat → Int32} {c i : Int32} (h : isTr cl ope man c i = true) (hcl : cl ≤ 4) : vp_in c 4 := in4x (Bool.and_eq_true_iff.mp h).1 hcl
theorem isTr_i {cl : Int32} {ope man : Nat → Int32} {c i : Int32} (h : isTr cl ope man c i = true) (hcl : cl ≤ 4) (hman : ∀ j, j < 4 → ∃ n, n ≤ 11 ∧ man j = nI n) : vp_in i 11 := by
  obtain ⟨j, h1, -, h3⟩ := vp_nat (isTr_c h hcl) (by decide)
  have h2 := (Bool.and_eq_true_iff.mp (Bool.and_eq_true_iff.mp (Bool.and_eq_true_iff.mp h).2).2)
  simp only [Bool.not_eq_true', decide_eq_false_iff_not] at h2
  obtain ⟨n, hn, e⟩ := hman j h1
  rw [h3, e] at h2
  rw [vp_in_iff]
  have g0 := h2.1
  have g1 := h2.2
  rw [Int32.lt_iff_toInt_lt] at g0
  rw [Int32.le_iff_toInt_le, nI_toInt (by omega)] at g1
  have e1 : (0 : Int32).toInt = 0 := by decide
  omega
set_option maxHeartbeats 4000000 in
set_option maxRecDepth 100000 in
theorem k_M_balance (l : Launch) (X : gX) (ad : Nat → Nat) (u : gW) (sz : Nat) (m : Nat) (th cl dr wy ce ra li bi : Int32) (mem cof str : Nat → Int32) (sen pai sha : Nat → Int64) (c x : Int32) (hm : u m = some (mO ad m th cl dr wy ce ra li bi)) (h_mem : u (m + 1) = some (.inl ((X.2 0), 4, .inl mem))) (h_cof : u (m + 9) = some (.inl ((X.2 0), 64, .inl cof))) (h_str : u (m + 11) = some (.inl ((X.2 2), 64, .inl str))) (h_sen : u (m + 15) = some (.inl ((X.2 1), 48, .inr (.inl sen)))) (h_pai : u (m + 13) = some (.inl ((X.2 1), 768, .inr (.inl pai)))) (h_sha : u (m + 12) = some (.inl ((X.2 1), 768, .inr (.inl sha)))) (hcl : cl ≤ 4) (hmem : ∀ j, j < 4 → mem j ≤ 12)(nb : Nat) (hnb : bi = nI nb) (hn64 : nb ≤ 64)  : gMet l (EE X) y_M_balance c_M_balance 6 (some .long) ({ frames := 2, cells := 0, slots := 0, locals := 43 }) [.ref (ad m), .int c, .int x] ad u sz (fun v u' sz' => v = some (.long (balM cl mem cof str pai sha sen nb c x)) ∧ u' = gup u m (mO ad m 0 cl dr wy ce ra li bi) ∧ sz' = sz) := by
  refine gMet_of "ExpenseClubsModel" rfl (by decide) (Nat.le_of_ble_eq_true rfl) (lv := [(0, .ref (ad m)), (1, .int c), (2, .int x)]) rfl (fun Z hZl C hR hret hname => ?_)
  refine g_aload_n C d_M_balance_0 rfl 0 rfl ?_
  refine g_iconst (v := 0) C d_M_balance_1 (by decide) ?_
  refine g_put m 0 C hm rfl i_M t_M t_M_ok n_M (by decide) (gmem wd_518 rfl) rfl rfl rfl rfl (Nat.le_of_ble_eq_true rfl) d_M_balance_2 ?_
  show GW Z _ _ _ ad (gup u m (mO ad m 0 cl dr wy ce ra li bi)) _ _ _ _ _ _
  obtain ⟨u1, hu1⟩ : ∃ z, z = gup u m (mO ad m 0 cl dr wy ce ra li bi) := ⟨_, rfl⟩
  rw [← hu1]
  have hu1_0 : u1 m = some (mO ad m 0 cl dr wy ce ra li bi) := by rw [hu1]; exact gup_self _ _ _
  have hu1_1 : u1 (m + 1) = some (.inl ((X.2 0), 4, .inl mem)) := by rw [hu1, gup_ne (by omega)]; exact h_mem
  have hu1_2 : u1 (m + 9) = some (.inl ((X.2 0), 64, .inl cof)) := by rw [hu1, gup_ne (by omega)]; exact h_cof
  have hu1_3 : u1 (m + 11) = some (.inl ((X.2 2), 64, .inl str)) := by rw [hu1, gup_ne (by omega)]; exact h_str
  have hu1_4 : u1 (m + 15) = some (.inl ((X.2 1), 48, .inr (.inl sen))) := by rw [hu1, gup_ne (by omega)]; exact h_sen
  have hu1_5 : u1 (m + 13) = some (.inl ((X.2 1), 768, .inr (.inl pai))) := by rw [hu1, gup_ne (by omega)]; exact h_pai
  have hu1_6 : u1 (m + 12) = some (.inl ((X.2 1), 768, .inr (.inl sha))) := by rw [hu1, gup_ne (by omega)]; exact h_sha
  refine g_aload_n C d_M_balance_5 rfl 0 rfl ?_
  refine g_iload_n C d_M_balance_6 rfl 1 rfl ?_
  refine g_iload_n C d_M_balance_7 rfl 2 rfl ?_
  refine g_callV 2 C (k_M_isMember _ X ad u1 sz m 0 cl dr wy ce ra li bi mem c x hu1_0 hu1_1 hcl) (gmem wd_638 rfl) (gmem wd_640 rfl) (gmem ws_11 rfl) (gmem wd_4 rfl) (gmem wd_641 rfl) ⟨by decide, by decide, by decide +kernel⟩ ⟨Nat.le_of_ble_eq_true rfl, Nat.le_of_ble_eq_true rfl⟩ hu1_0 rfl rfl rfl (Nat.le_of_ble_eq_true rfl) d_M_balance_8 ⟨Nat.le_of_ble_eq_true rfl, Nat.le_of_ble_eq_true rfl⟩ ?_
  rintro v9 u9 s9 ⟨h9, hu9, hs9⟩; rw [h9, hu9, hs9]; clear h9 hu9 hs9 v9 u9 s9
  show GW Z _ _ _ ad u1 sz [(0, .ref (ad m)), (1, .int c), (2, .int x)] 0 0 11 [.int (bI (memM cl mem c x))]
  refine g_if_ne 16 C d_M_balance_11 (by decide) (fun c11 => ?_) (fun c11 => ?_)
  · skip
    refine g_aload_n C d_M_balance_16 rfl 0 rfl ?_
    refine g_get m 22 C hu1_0 rfl i_M (by decide) (gmem wd_540 rfl) rfl rfl d_M_balance_17 ?_
    refine g_bipush (v := 12) C d_M_balance_20 (by decide) ?_
    refine g_iload_n C d_M_balance_22 rfl 1 rfl ?_
    refine g_imul C d_M_balance_23 ?_
    refine g_iload_n C d_M_balance_24 rfl 2 rfl ?_
    refine g_iadd C d_M_balance_25 ?_
    refine g_lald (m + 15) 1 C hu1_4 rfl (in48 (memM_c (bI_ne0.mp c11) hcl) (memM_x (bI_ne0.mp c11) hmem hcl)).1 d_M_balance_26 ?_
    rw [show Int32.toNatClampNeg ((12 * c) + x) = 12 * c.toNatClampNeg + x.toNatClampNeg from (in48 (memM_c (bI_ne0.mp c11) hcl) (memM_x (bI_ne0.mp c11) hmem hcl)).2]
    refine g_topl (fun x27 ex27 => ?_)
    refine g_lstore_n C d_M_balance_27 rfl [(3, .long x27), (0, .ref (ad m)), (1, .int c), (2, .int x)] (by decide) rfl ?_
    refine g_iconst (v := 0) C d_M_balance_28 (by decide) ?_
    refine g_istore C d_M_balance_29 [(5, .int 0), (3, .long x27), (0, .ref (ad m)), (1, .int c), (2, .int x)] (by decide) rfl ?_
    refine g_fewer (lv' := [(0, .ref (ad m)), (1, .int c), (2, .int x), (3, .long x27), (5, .int 0)]) [2, 3, 4, 1, 0] rfl ?_
    refine GW_eq (u2 := u1) (lv2 := [(0, .ref (ad m)), (1, .int c), (2, .int x), (3, .long (balR cof str pai sha c x.toNatClampNeg (sen (12 * c.toNatClampNeg + x.toNatClampNeg)) 0)), (5, .int (nI 0))]) rfl (by simp only [ex27]; rfl) ?_
    refine g_loop nb (fun iL4 => True) (fun iL4 => u1) (fun iL4 => [(0, .ref (ad m)), (1, .int c), (2, .int x), (3, .long (balR cof str pai sha c x.toNatClampNeg (sen (12 * c.toNatClampNeg + x.toNatClampNeg)) iL4)), (5, .int (nI iL4))]) (fun iL4 hiL4 piL4 KL4 => ?_) (fun piL4 => ?_) 0 (by omega) trivial
    · skip
      show GW Z _ _ _ ad (u1) _ [(0, .ref (ad m)), (1, .int c), (2, .int x), (3, .long (balR cof str pai sha c x.toNatClampNeg (sen (12 * c.toNatClampNeg + x.toNatClampNeg)) iL4)), (5, .int (nI iL4))] _ _ 31 []
      obtain ⟨wL4s, hwL4s⟩ : ∃ z, z = u1 := ⟨_, rfl⟩
      rw [← hwL4s]
      have hwL4s_0 : wL4s m = some (mO ad m 0 cl dr wy ce ra li bi) := by rw [hwL4s]; exact hu1_0
      have hwL4s_1 : wL4s (m + 1) = some (.inl ((X.2 0), 4, .inl mem)) := by rw [hwL4s]; exact hu1_1
      have hwL4s_2 : wL4s (m + 9) = some (.inl ((X.2 0), 64, .inl cof)) := by rw [hwL4s]; exact hu1_2
      have hwL4s_3 : wL4s (m + 11) = some (.inl ((X.2 2), 64, .inl str)) := by rw [hwL4s]; exact hu1_3
      have hwL4s_4 : wL4s (m + 15) = some (.inl ((X.2 1), 48, .inr (.inl sen))) := by rw [hwL4s]; exact hu1_4
      have hwL4s_5 : wL4s (m + 13) = some (.inl ((X.2 1), 768, .inr (.inl pai))) := by rw [hwL4s]; exact hu1_5
      have hwL4s_6 : wL4s (m + 12) = some (.inl ((X.2 1), 768, .inr (.inl sha))) := by rw [hwL4s]; exact hu1_6
      refine g_iload C d_M_balance_31 4 rfl ?_
      refine g_aload_n C d_M_balance_33 rfl 0 rfl ?_
      refine g_get m 15 C hwL4s_0 rfl i_M (by decide) (gmem wd_533 rfl) rfl rfl d_M_balance_34 ?_
      refine g_icmp_ge 99 C d_M_balance_37 (by decide) (fun c4s37 => ?_) (fun c4s37 => ?_)
      · exact absurd c4s37 (geN hnb (by omega) hiL4)
      refine g_lload_n C d_M_balance_40 rfl 3 rfl ?_
      refine g_aload_n C d_M_balance_41 rfl 0 rfl ?_
      refine g_get m 16 C hwL4s_0 rfl i_M (by decide) (gmem wd_534 rfl) rfl rfl d_M_balance_42 ?_
      refine g_iload C d_M_balance_45 4 rfl ?_
      refine g_iald (m + 9) 0 C hwL4s_2 rfl (vp_in_nI (by omega) (by decide)) d_M_balance_47 ?_
      rw [show Int32.toNatClampNeg (nI iL4) = iL4 from nI_clamp (by omega)]
      refine g_iload_n C d_M_balance_48 rfl 1 rfl ?_
      refine g_icmp_ne 90 C d_M_balance_49 (by decide) (fun c4s49 => ?_) (fun c4s49 => ?_)
      · skip
        refine g_lconst (v := 0) C d_M_balance_90 (by decide) ?_
        refine g_ladd C d_M_balance_91 ?_
        refine g_topl (fun x4s92 ex4s92 => ?_)
        refine g_lstore_n C d_M_balance_92 rfl [(3, .long x4s92), (0, .ref (ad m)), (1, .int c), (2, .int x), (5, .int (nI iL4))] (by decide) rfl ?_
        obtain ⟨x4s93, ex4s93⟩ : ∃ y : Int32, y = (nI iL4) + 1 := ⟨_, rfl⟩
        refine g_iinc (v := x4s93) C d_M_balance_93 4 rfl (by rw [ex4s93]; rfl) [(5, .int x4s93), (3, .long x4s92), (0, .ref (ad m)), (1, .int c), (2, .int x)] (by decide) rfl ?_
        refine g_goto 31 C d_M_balance_96 (by decide) ?_
        refine g_fewer (lv' := [(0, .ref (ad m)), (1, .int c), (2, .int x), (3, .long x4s92), (5, .int x4s93)]) [2, 3, 4, 1, 0] rfl ?_
        refine GW_eq (u2 := u1) (lv2 := [(0, .ref (ad m)), (1, .int c), (2, .int x), (3, .long (balR cof str pai sha c x.toNatClampNeg (sen (12 * c.toNatClampNeg + x.toNatClampNeg)) (iL4 + 1))), (5, .int (nI (iL4 + 1)))]) ?_ ?_ (KL4 trivial)
        · first | (rw [hwL4s]; done) | (rw [hwL4s]; funext k; simp only [gup]; (repeat' split) <;> first | with_reducible rfl | (exfalso; omega) | rfl)
        · simp only [ex4s92, ex4s93, nI_1, balR, if_neg c4s49]
      · skip
        refine g_aload_n C d_M_balance_52 rfl 0 rfl ?_
        refine g_get m 18 C hwL4s_0 rfl i_M (by decide) (gmem wd_536 rfl) rfl rfl d_M_balance_53 ?_
        refine g_iload C d_M_balance_56 4 rfl ?_
        refine g_zald (m + 11) 2 C hwL4s_3 rfl (vp_in_nI (by omega) (by decide)) d_M_balance_58 ?_
        rw [show Int32.toNatClampNeg (nI iL4) = iL4 from nI_clamp (by omega)]
        refine g_if_ne 90 C d_M_balance_59 (by decide) (fun c4s59 => ?_) (fun c4s59 => ?_)
        · skip
          refine g_lconst (v := 0) C d_M_balance_90 (by decide) ?_
          refine g_ladd C d_M_balance_91 ?_
          refine g_topl (fun x4s92 ex4s92 => ?_)
          refine g_lstore_n C d_M_balance_92 rfl [(3, .long x4s92), (0, .ref (ad m)), (1, .int c), (2, .int x), (5, .int (nI iL4))] (by decide) rfl ?_
          obtain ⟨x4s93, ex4s93⟩ : ∃ y : Int32, y = (nI iL4) + 1 := ⟨_, rfl⟩
          refine g_iinc (v := x4s93) C d_M_balance_93 4 rfl (by rw [ex4s93]; rfl) [(5, .int x4s93), (3, .long x4s92), (0, .ref (ad m)), (1, .int c), (2, .int x)] (by decide) rfl ?_
          refine g_goto 31 C d_M_balance_96 (by decide) ?_
          refine g_fewer (lv' := [(0, .ref (ad m)), (1, .int c), (2, .int x), (3, .long x4s92), (5, .int x4s93)]) [2, 3, 4, 1, 0] rfl ?_
          refine GW_eq (u2 := u1) (lv2 := [(0, .ref (ad m)), (1, .int c), (2, .int x), (3, .long (balR cof str pai sha c x.toNatClampNeg (sen (12 * c.toNatClampNeg + x.toNatClampNeg)) (iL4 + 1))), (5, .int (nI (iL4 + 1)))]) ?_ ?_ (KL4 trivial)
          · first | (rw [hwL4s]; done) | (rw [hwL4s]; funext k; simp only [gup]; (repeat' split) <;> first | with_reducible rfl | (exfalso; omega) | rfl)
          · simp only [ex4s92, ex4s93, nI_1, balR, if_pos c4s49, if_neg c4s59]
        · skip
          refine g_aload_n C d_M_balance_62 rfl 0 rfl ?_
          refine g_get m 20 C hwL4s_0 rfl i_M (by decide) (gmem wd_538 rfl) rfl rfl d_M_balance_63 ?_
          refine g_bipush (v := 12) C d_M_balance_66 (by decide) ?_
          refine g_iload C d_M_balance_68 4 rfl ?_
          refine g_imul C d_M_balance_70 ?_
          refine g_iload_n C d_M_balance_71 rfl 2 rfl ?_
          refine g_iadd C d_M_balance_72 ?_
          refine g_lald (m + 13) 1 C hwL4s_5 rfl (in768i (i := iL4) (by omega) (memM_x (bI_ne0.mp c11) hmem hcl)).1 d_M_balance_73 ?_
          rw [show Int32.toNatClampNeg ((12 * (nI iL4)) + x) = 12 * iL4 + x.toNatClampNeg from (in768i (i := iL4) (by omega) (memM_x (bI_ne0.mp c11) hmem hcl)).2]
          refine g_aload_n C d_M_balance_74 rfl 0 rfl ?_
          refine g_get m 19 C hwL4s_0 rfl i_M (by decide) (gmem wd_537 rfl) rfl rfl d_M_balance_75 ?_
          refine g_bipush (v := 12) C d_M_balance_78 (by decide) ?_
          refine g_iload C d_M_balance_80 4 rfl ?_
          refine g_imul C d_M_balance_82 ?_
          refine g_iload_n C d_M_balance_83 rfl 2 rfl ?_
          refine g_iadd C d_M_balance_84 ?_
          refine g_lald (m + 12) 1 C hwL4s_6 rfl (in768i (i := iL4) (by omega) (memM_x (bI_ne0.mp c11) hmem hcl)).1 d_M_balance_85 ?_
          rw [show Int32.toNatClampNeg ((12 * (nI iL4)) + x) = 12 * iL4 + x.toNatClampNeg from (in768i (i := iL4) (by omega) (memM_x (bI_ne0.mp c11) hmem hcl)).2]
          refine g_lsub C d_M_balance_86 ?_
          refine g_goto 91 C d_M_balance_87 (by decide) ?_
          refine g_ladd C d_M_balance_91 ?_
          refine g_topl (fun x4s92 ex4s92 => ?_)
          refine g_lstore_n C d_M_balance_92 rfl [(3, .long x4s92), (0, .ref (ad m)), (1, .int c), (2, .int x), (5, .int (nI iL4))] (by decide) rfl ?_
          obtain ⟨x4s93, ex4s93⟩ : ∃ y : Int32, y = (nI iL4) + 1 := ⟨_, rfl⟩
          refine g_iinc (v := x4s93) C d_M_balance_93 4 rfl (by rw [ex4s93]; rfl) [(5, .int x4s93), (3, .long x4s92), (0, .ref (ad m)), (1, .int c), (2, .int x)] (by decide) rfl ?_
          refine g_goto 31 C d_M_balance_96 (by decide) ?_
          refine g_fewer (lv' := [(0, .ref (ad m)), (1, .int c), (2, .int x), (3, .long x4s92), (5, .int x4s93)]) [2, 3, 4, 1, 0] rfl ?_
          refine GW_eq (u2 := u1) (lv2 := [(0, .ref (ad m)), (1, .int c), (2, .int x), (3, .long (balR cof str pai sha c x.toNatClampNeg (sen (12 * c.toNatClampNeg + x.toNatClampNeg)) (iL4 + 1))), (5, .int (nI (iL4 + 1)))]) ?_ ?_ (KL4 trivial)
          · first | (rw [hwL4s]; done) | (rw [hwL4s]; funext k; simp only [gup]; (repeat' split) <;> first | with_reducible rfl | (exfalso; omega) | rfl)
          · simp only [ex4s92, ex4s93, nI_1, balR, if_pos c4s49, if_pos c4s59]
    · skip
      show GW Z _ _ _ ad (u1) _ [(0, .ref (ad m)), (1, .int c), (2, .int x), (3, .long (balR cof str pai sha c x.toNatClampNeg (sen (12 * c.toNatClampNeg + x.toNatClampNeg)) nb)), (5, .int (nI nb))] _ _ 31 []
      obtain ⟨wL4e, hwL4e⟩ : ∃ z, z = u1 := ⟨_, rfl⟩
      rw [← hwL4e]
      have hwL4e_0 : wL4e m = some (mO ad m 0 cl dr wy ce ra li bi) := by rw [hwL4e]; exact hu1_0
      have hwL4e_1 : wL4e (m + 1) = some (.inl ((X.2 0), 4, .inl mem)) := by rw [hwL4e]; exact hu1_1
      have hwL4e_2 : wL4e (m + 9) = some (.inl ((X.2 0), 64, .inl cof)) := by rw [hwL4e]; exact hu1_2
      have hwL4e_3 : wL4e (m + 11) = some (.inl ((X.2 2), 64, .inl str)) := by rw [hwL4e]; exact hu1_3
      have hwL4e_4 : wL4e (m + 15) = some (.inl ((X.2 1), 48, .inr (.inl sen))) := by rw [hwL4e]; exact hu1_4
      have hwL4e_5 : wL4e (m + 13) = some (.inl ((X.2 1), 768, .inr (.inl pai))) := by rw [hwL4e]; exact hu1_5
      have hwL4e_6 : wL4e (m + 12) = some (.inl ((X.2 1), 768, .inr (.inl sha))) := by rw [hwL4e]; exact hu1_6
      refine g_iload C d_M_balance_31 4 rfl ?_
      refine g_aload_n C d_M_balance_33 rfl 0 rfl ?_
      refine g_get m 15 C hwL4e_0 rfl i_M (by decide) (gmem wd_533 rfl) rfl rfl d_M_balance_34 ?_
      refine g_icmp_ge 99 C d_M_balance_37 (by decide) (fun c4e37 => ?_) (fun c4e37 => ?_)
      rotate_left
      · exact absurd (leN hnb) c4e37
      refine g_lload_n C d_M_balance_99 rfl 3 rfl ?_
      exact g_lret C hR hret ⟨by rw [balM, if_pos (bI_ne0.mp c11)], (by first | (rw [hwL4e, hu1]; done) | (rw [hwL4e, hu1]; funext k; simp only [gup]; (repeat' split) <;> first | with_reducible rfl | (exfalso; omega) | rfl)), rfl⟩ d_M_balance_100
  · skip
    refine g_lconst (v := 0) C d_M_balance_14 (by decide) ?_
    exact g_lret C hR hret ⟨by rw [balM, if_neg (by rw [bI_eq0.mp c11]; decide)], (by first | (rw [hu1]; done) | (rw [hu1]; funext k; simp only [gup]; (repeat' split) <;> first | with_reducible rfl | (exfalso; omega) | rfl)), rfl⟩ d_M_balance_15

set_option maxHeartbeats 4000000 in
set_option maxRecDepth 100000 in
theorem k_M_drift (l : Launch) (X : gX) (ad : Nat → Nat) (u : gW) (sz : Nat) (m : Nat) (th cl dr wy ce ra li bi : Int32) (mem cof str : Nat → Int32) (dri : Nat → Int64) (c x : Int32) (hm : u m = some (mO ad m th cl dr wy ce ra li bi)) (h_mem : u (m + 1) = some (.inl ((X.2 0), 4, .inl mem))) (h_cof : u (m + 9) = some (.inl ((X.2 0), 64, .inl cof))) (h_str : u (m + 11) = some (.inl ((X.2 2), 64, .inl str))) (h_dri : u (m + 14) = some (.inl ((X.2 1), 768, .inr (.inl dri)))) (hcl : cl ≤ 4) (hmem : ∀ j, j < 4 → mem j ≤ 12)(nb : Nat) (hnb : bi = nI nb) (hn64 : nb ≤ 64)  : gMet l (EE X) y_M_drift c_M_drift 6 (some .long) ({ frames := 2, cells := 0, slots := 0, locals := 43 }) [.ref (ad m), .int c, .int x] ad u sz (fun v u' sz' => v = some (.long (driM cl mem cof str dri nb c x)) ∧ u' = gup u m (mO ad m 0 cl dr wy ce ra li bi) ∧ sz' = sz) := by
  refine gMet_of "ExpenseClubsModel" rfl (by decide) (Nat.le_of_ble_eq_true rfl) (lv := [(0, .ref (ad m)), (1, .int c), (2, .int x)]) rfl (fun Z hZl C hR hret hname => ?_)
  refine g_aload_n C d_M_drift_0 rfl 0 rfl ?_
  refine g_iconst (v := 0) C d_M_drift_1 (by decide) ?_
  refine g_put m 0 C hm rfl i_M t_M t_M_ok n_M (by decide) (gmem wd_518 rfl) rfl rfl rfl rfl (Nat.le_of_ble_eq_true rfl) d_M_drift_2 ?_
  show GW Z _ _ _ ad (gup u m (mO ad m 0 cl dr wy ce ra li bi)) _ _ _ _ _ _
  obtain ⟨u1, hu1⟩ : ∃ z, z = gup u m (mO ad m 0 cl dr wy ce ra li bi) := ⟨_, rfl⟩
  rw [← hu1]
  have hu1_0 : u1 m = some (mO ad m 0 cl dr wy ce ra li bi) := by rw [hu1]; exact gup_self _ _ _
  have hu1_1 : u1 (m + 1) = some (.inl ((X.2 0), 4, .inl mem)) := by rw [hu1, gup_ne (by omega)]; exact h_mem
  have hu1_2 : u1 (m + 9) = some (.inl ((X.2 0), 64, .inl cof)) := by rw [hu1, gup_ne (by omega)]; exact h_cof
  have hu1_3 : u1 (m + 11) = some (.inl ((X.2 2), 64, .inl str)) := by rw [hu1, gup_ne (by omega)]; exact h_str
  have hu1_4 : u1 (m + 14) = some (.inl ((X.2 1), 768, .inr (.inl dri))) := by rw [hu1, gup_ne (by omega)]; exact h_dri
  refine g_lconst (v := 0) C d_M_drift_5 (by decide) ?_
  refine g_lstore_n C d_M_drift_6 rfl [(3, .long 0), (0, .ref (ad m)), (1, .int c), (2, .int x)] (by decide) rfl ?_
  refine g_iconst (v := 0) C d_M_drift_7 (by decide) ?_
  refine g_istore C d_M_drift_8 [(5, .int 0), (3, .long 0), (0, .ref (ad m)), (1, .int c), (2, .int x)] (by decide) rfl ?_
  by_cases hM : memM cl mem c x = true
  · skip
    refine g_fewer (lv' := [(0, .ref (ad m)), (1, .int c), (2, .int x), (3, .long 0), (5, .int 0)]) [2, 3, 4, 1, 0] rfl ?_
    refine GW_eq (u2 := u1) (lv2 := [(0, .ref (ad m)), (1, .int c), (2, .int x), (3, .long (driR cof str dri c x.toNatClampNeg 0)), (5, .int (nI 0))]) rfl rfl ?_
    refine g_loop nb (fun iL5 => True) (fun iL5 => u1) (fun iL5 => [(0, .ref (ad m)), (1, .int c), (2, .int x), (3, .long (driR cof str dri c x.toNatClampNeg iL5)), (5, .int (nI iL5))]) (fun iL5 hiL5 piL5 KL5 => ?_) (fun piL5 => ?_) 0 (by omega) trivial
    · skip
      show GW Z _ _ _ ad (u1) _ [(0, .ref (ad m)), (1, .int c), (2, .int x), (3, .long (driR cof str dri c x.toNatClampNeg iL5)), (5, .int (nI iL5))] _ _ 10 []
      obtain ⟨wL5s, hwL5s⟩ : ∃ z, z = u1 := ⟨_, rfl⟩
      rw [← hwL5s]
      have hwL5s_0 : wL5s m = some (mO ad m 0 cl dr wy ce ra li bi) := by rw [hwL5s]; exact hu1_0
      have hwL5s_1 : wL5s (m + 1) = some (.inl ((X.2 0), 4, .inl mem)) := by rw [hwL5s]; exact hu1_1
      have hwL5s_2 : wL5s (m + 9) = some (.inl ((X.2 0), 64, .inl cof)) := by rw [hwL5s]; exact hu1_2
      have hwL5s_3 : wL5s (m + 11) = some (.inl ((X.2 2), 64, .inl str)) := by rw [hwL5s]; exact hu1_3
      have hwL5s_4 : wL5s (m + 14) = some (.inl ((X.2 1), 768, .inr (.inl dri))) := by rw [hwL5s]; exact hu1_4
      refine g_iload C d_M_drift_10 4 rfl ?_
      refine g_aload_n C d_M_drift_12 rfl 0 rfl ?_
      refine g_get m 15 C hwL5s_0 rfl i_M (by decide) (gmem wd_533 rfl) rfl rfl d_M_drift_13 ?_
      refine g_icmp_ge 74 C d_M_drift_16 (by decide) (fun c5s16 => ?_) (fun c5s16 => ?_)
      · exact absurd c5s16 (geN hnb (by omega) hiL5)
      refine g_aload_n C d_M_drift_19 rfl 0 rfl ?_
      refine g_iload_n C d_M_drift_20 rfl 1 rfl ?_
      refine g_iload_n C d_M_drift_21 rfl 2 rfl ?_
      refine g_callV 2 C (k_M_isMember _ X ad wL5s sz m 0 cl dr wy ce ra li bi mem c x hwL5s_0 hwL5s_1 hcl) (gmem wd_638 rfl) (gmem wd_640 rfl) (gmem ws_11 rfl) (gmem wd_4 rfl) (gmem wd_641 rfl) ⟨by decide, by decide, by decide +kernel⟩ ⟨Nat.le_of_ble_eq_true rfl, Nat.le_of_ble_eq_true rfl⟩ hwL5s_0 rfl rfl rfl (Nat.le_of_ble_eq_true rfl) d_M_drift_22 ⟨Nat.le_of_ble_eq_true rfl, Nat.le_of_ble_eq_true rfl⟩ ?_
      rintro v9 u9 s9 ⟨h9, hu9, hs9⟩; rw [h9, hu9, hs9]; clear h9 hu9 hs9 v9 u9 s9
      show GW Z _ _ _ ad wL5s sz [(0, .ref (ad m)), (1, .int c), (2, .int x), (3, .long (driR cof str dri c x.toNatClampNeg iL5)), (5, .int (nI iL5))] 0 0 25 [.int (bI (memM cl mem c x))]
      refine g_if_eq 74 C d_M_drift_25 (by decide) (fun c5s25 => ?_) (fun c5s25 => ?_)
      · rw [hM] at c5s25; exact absurd c5s25 (by decide)
      refine g_lload_n C d_M_drift_28 rfl 3 rfl ?_
      refine g_aload_n C d_M_drift_29 rfl 0 rfl ?_
      refine g_get m 16 C hwL5s_0 rfl i_M (by decide) (gmem wd_534 rfl) rfl rfl d_M_drift_30 ?_
      refine g_iload C d_M_drift_33 4 rfl ?_
      refine g_iald (m + 9) 0 C hwL5s_2 rfl (vp_in_nI (by omega) (by decide)) d_M_drift_35 ?_
      rw [show Int32.toNatClampNeg (nI iL5) = iL5 from nI_clamp (by omega)]
      refine g_iload_n C d_M_drift_36 rfl 1 rfl ?_
      refine g_icmp_ne 65 C d_M_drift_37 (by decide) (fun c5s37 => ?_) (fun c5s37 => ?_)
      · skip
        refine g_lconst (v := 0) C d_M_drift_65 (by decide) ?_
        refine g_ladd C d_M_drift_66 ?_
        refine g_topl (fun x5s67 ex5s67 => ?_)
        refine g_lstore_n C d_M_drift_67 rfl [(3, .long x5s67), (0, .ref (ad m)), (1, .int c), (2, .int x), (5, .int (nI iL5))] (by decide) rfl ?_
        obtain ⟨x5s68, ex5s68⟩ : ∃ y : Int32, y = (nI iL5) + 1 := ⟨_, rfl⟩
        refine g_iinc (v := x5s68) C d_M_drift_68 4 rfl (by rw [ex5s68]; rfl) [(5, .int x5s68), (3, .long x5s67), (0, .ref (ad m)), (1, .int c), (2, .int x)] (by decide) rfl ?_
        refine g_goto 10 C d_M_drift_71 (by decide) ?_
        refine g_fewer (lv' := [(0, .ref (ad m)), (1, .int c), (2, .int x), (3, .long x5s67), (5, .int x5s68)]) [2, 3, 4, 1, 0] rfl ?_
        refine GW_eq (u2 := u1) (lv2 := [(0, .ref (ad m)), (1, .int c), (2, .int x), (3, .long (driR cof str dri c x.toNatClampNeg (iL5 + 1))), (5, .int (nI (iL5 + 1)))]) ?_ ?_ (KL5 trivial)
        · first | (rw [hwL5s]; done) | (rw [hwL5s]; funext k; simp only [gup]; (repeat' split) <;> first | with_reducible rfl | (exfalso; omega) | rfl)
        · simp only [ex5s67, ex5s68, nI_1, driR, if_neg c5s37]
      · skip
        refine g_aload_n C d_M_drift_40 rfl 0 rfl ?_
        refine g_get m 18 C hwL5s_0 rfl i_M (by decide) (gmem wd_536 rfl) rfl rfl d_M_drift_41 ?_
        refine g_iload C d_M_drift_44 4 rfl ?_
        refine g_zald (m + 11) 2 C hwL5s_3 rfl (vp_in_nI (by omega) (by decide)) d_M_drift_46 ?_
        rw [show Int32.toNatClampNeg (nI iL5) = iL5 from nI_clamp (by omega)]
        refine g_if_ne 65 C d_M_drift_47 (by decide) (fun c5s47 => ?_) (fun c5s47 => ?_)
        · skip
          refine g_lconst (v := 0) C d_M_drift_65 (by decide) ?_
          refine g_ladd C d_M_drift_66 ?_
          refine g_topl (fun x5s67 ex5s67 => ?_)
          refine g_lstore_n C d_M_drift_67 rfl [(3, .long x5s67), (0, .ref (ad m)), (1, .int c), (2, .int x), (5, .int (nI iL5))] (by decide) rfl ?_
          obtain ⟨x5s68, ex5s68⟩ : ∃ y : Int32, y = (nI iL5) + 1 := ⟨_, rfl⟩
          refine g_iinc (v := x5s68) C d_M_drift_68 4 rfl (by rw [ex5s68]; rfl) [(5, .int x5s68), (3, .long x5s67), (0, .ref (ad m)), (1, .int c), (2, .int x)] (by decide) rfl ?_
          refine g_goto 10 C d_M_drift_71 (by decide) ?_
          refine g_fewer (lv' := [(0, .ref (ad m)), (1, .int c), (2, .int x), (3, .long x5s67), (5, .int x5s68)]) [2, 3, 4, 1, 0] rfl ?_
          refine GW_eq (u2 := u1) (lv2 := [(0, .ref (ad m)), (1, .int c), (2, .int x), (3, .long (driR cof str dri c x.toNatClampNeg (iL5 + 1))), (5, .int (nI (iL5 + 1)))]) ?_ ?_ (KL5 trivial)
          · first | (rw [hwL5s]; done) | (rw [hwL5s]; funext k; simp only [gup]; (repeat' split) <;> first | with_reducible rfl | (exfalso; omega) | rfl)
          · simp only [ex5s67, ex5s68, nI_1, driR, if_pos c5s37, if_neg c5s47]
        · skip
          refine g_aload_n C d_M_drift_50 rfl 0 rfl ?_
          refine g_get m 21 C hwL5s_0 rfl i_M (by decide) (gmem wd_539 rfl) rfl rfl d_M_drift_51 ?_
          refine g_bipush (v := 12) C d_M_drift_54 (by decide) ?_
          refine g_iload C d_M_drift_56 4 rfl ?_
          refine g_imul C d_M_drift_58 ?_
          refine g_iload_n C d_M_drift_59 rfl 2 rfl ?_
          refine g_iadd C d_M_drift_60 ?_
          refine g_lald (m + 14) 1 C hwL5s_4 rfl (in768i (i := iL5) (by omega) (memM_x hM hmem hcl)).1 d_M_drift_61 ?_
          rw [show Int32.toNatClampNeg ((12 * (nI iL5)) + x) = 12 * iL5 + x.toNatClampNeg from (in768i (i := iL5) (by omega) (memM_x hM hmem hcl)).2]
          refine g_goto 66 C d_M_drift_62 (by decide) ?_
          refine g_ladd C d_M_drift_66 ?_
          refine g_topl (fun x5s67 ex5s67 => ?_)
          refine g_lstore_n C d_M_drift_67 rfl [(3, .long x5s67), (0, .ref (ad m)), (1, .int c), (2, .int x), (5, .int (nI iL5))] (by decide) rfl ?_
          obtain ⟨x5s68, ex5s68⟩ : ∃ y : Int32, y = (nI iL5) + 1 := ⟨_, rfl⟩
          refine g_iinc (v := x5s68) C d_M_drift_68 4 rfl (by rw [ex5s68]; rfl) [(5, .int x5s68), (3, .long x5s67), (0, .ref (ad m)), (1, .int c), (2, .int x)] (by decide) rfl ?_
          refine g_goto 10 C d_M_drift_71 (by decide) ?_
          refine g_fewer (lv' := [(0, .ref (ad m)), (1, .int c), (2, .int x), (3, .long x5s67), (5, .int x5s68)]) [2, 3, 4, 1, 0] rfl ?_
          refine GW_eq (u2 := u1) (lv2 := [(0, .ref (ad m)), (1, .int c), (2, .int x), (3, .long (driR cof str dri c x.toNatClampNeg (iL5 + 1))), (5, .int (nI (iL5 + 1)))]) ?_ ?_ (KL5 trivial)
          · first | (rw [hwL5s]; done) | (rw [hwL5s]; funext k; simp only [gup]; (repeat' split) <;> first | with_reducible rfl | (exfalso; omega) | rfl)
          · simp only [ex5s67, ex5s68, nI_1, driR, if_pos c5s37, if_pos c5s47]
    · skip
      show GW Z _ _ _ ad (u1) _ [(0, .ref (ad m)), (1, .int c), (2, .int x), (3, .long (driR cof str dri c x.toNatClampNeg nb)), (5, .int (nI nb))] _ _ 10 []
      obtain ⟨wL5e, hwL5e⟩ : ∃ z, z = u1 := ⟨_, rfl⟩
      rw [← hwL5e]
      have hwL5e_0 : wL5e m = some (mO ad m 0 cl dr wy ce ra li bi) := by rw [hwL5e]; exact hu1_0
      have hwL5e_1 : wL5e (m + 1) = some (.inl ((X.2 0), 4, .inl mem)) := by rw [hwL5e]; exact hu1_1
      have hwL5e_2 : wL5e (m + 9) = some (.inl ((X.2 0), 64, .inl cof)) := by rw [hwL5e]; exact hu1_2
      have hwL5e_3 : wL5e (m + 11) = some (.inl ((X.2 2), 64, .inl str)) := by rw [hwL5e]; exact hu1_3
      have hwL5e_4 : wL5e (m + 14) = some (.inl ((X.2 1), 768, .inr (.inl dri))) := by rw [hwL5e]; exact hu1_4
      refine g_iload C d_M_drift_10 4 rfl ?_
      refine g_aload_n C d_M_drift_12 rfl 0 rfl ?_
      refine g_get m 15 C hwL5e_0 rfl i_M (by decide) (gmem wd_533 rfl) rfl rfl d_M_drift_13 ?_
      refine g_icmp_ge 74 C d_M_drift_16 (by decide) (fun c5e16 => ?_) (fun c5e16 => ?_)
      rotate_left
      · exact absurd (leN hnb) c5e16
      refine g_lload_n C d_M_drift_74 rfl 3 rfl ?_
      exact g_lret C hR hret ⟨by rw [driM, if_pos hM], (by first | (rw [hwL5e, hu1]; done) | (rw [hwL5e, hu1]; funext k; simp only [gup]; (repeat' split) <;> first | with_reducible rfl | (exfalso; omega) | rfl)), rfl⟩ d_M_drift_75
  · skip
    refine g_iload C d_M_drift_10 0 rfl ?_
    refine g_aload_n C d_M_drift_12 rfl 2 rfl ?_
    refine g_get m 15 C hu1_0 rfl i_M (by decide) (gmem wd_533 rfl) rfl rfl d_M_drift_13 ?_
    refine g_icmp_ge 74 C d_M_drift_16 (by decide) (fun cz16 => ?_) (fun cz16 => ?_)
    · skip
      refine g_lload_n C d_M_drift_74 rfl 1 rfl ?_
      exact g_lret C hR hret ⟨by rw [driM, if_neg hM], (by first | (rw [hu1]; done) | (rw [hu1]; funext k; simp only [gup]; (repeat' split) <;> first | with_reducible rfl | (exfalso; omega) | rfl)), rfl⟩ d_M_drift_75
    · skip
      refine g_aload_n C d_M_drift_19 rfl 2 rfl ?_
      refine g_iload_n C d_M_drift_20 rfl 3 rfl ?_
      refine g_iload_n C d_M_drift_21 rfl 4 rfl ?_
      refine g_callV 2 C (k_M_isMember _ X ad u1 sz m 0 cl dr wy ce ra li bi mem c x hu1_0 hu1_1 hcl) (gmem wd_638 rfl) (gmem wd_640 rfl) (gmem ws_11 rfl) (gmem wd_4 rfl) (gmem wd_641 rfl) ⟨by decide, by decide, by decide +kernel⟩ ⟨Nat.le_of_ble_eq_true rfl, Nat.le_of_ble_eq_true rfl⟩ hu1_0 rfl rfl rfl (Nat.le_of_ble_eq_true rfl) d_M_drift_22 ⟨Nat.le_of_ble_eq_true rfl, Nat.le_of_ble_eq_true rfl⟩ ?_
      rintro v9 u9 s9 ⟨h9, hu9, hs9⟩; rw [h9, hu9, hs9]; clear h9 hu9 hs9 v9 u9 s9
      show GW Z _ _ _ ad u1 sz [(5, .int 0), (3, .long 0), (0, .ref (ad m)), (1, .int c), (2, .int x)] 0 0 25 [.int (bI (memM cl mem c x))]
      refine g_if_eq 74 C d_M_drift_25 (by decide) (fun cz25 => ?_) (fun cz25 => ?_)
      rotate_left
      · exact absurd (show bI (memM cl mem c x) = 0 by rw [Bool.not_eq_true _ |>.mp hM]; rfl) cz25
      refine g_lload_n C d_M_drift_74 rfl 1 rfl ?_
      exact g_lret C hR hret ⟨by rw [driM, if_neg hM], (by first | (rw [hu1]; done) | (rw [hu1]; funext k; simp only [gup]; (repeat' split) <;> first | with_reducible rfl | (exfalso; omega) | rfl)), rfl⟩ d_M_drift_75

set_option maxHeartbeats 4000000 in
set_option maxRecDepth 100000 in
theorem k_M_unticked (l : Launch) (X : gX) (ad : Nat → Nat) (u : gW) (sz : Nat) (m : Nat) (th cl dr wy ce ra li bi : Int32) (man tck : Nat → Int32) (c : Int32) (hm : u m = some (mO ad m th cl dr wy ce ra li bi)) (h_man : u (m + 19) = some (.inl ((X.2 0), 4, .inl man))) (h_tck : u (m + 23) = some (.inl ((X.2 2), 44, .inl tck))) (k : Nat) (hc : vp_in c 4) (hk : man c.toNatClampNeg = nI k) (hk11 : k ≤ 11) : gMet l (EE X) y_M_unticked c_M_unticked 4 (some .int) ({ frames := 0, cells := 0, slots := 0, locals := 0 }) [.ref (ad m), .int c] ad u sz (fun v u' sz' => v = some (.int (untS tck c.toNatClampNeg k)) ∧ u' = u ∧ sz' = sz) := by
  refine gMet_of "ExpenseClubsModel" rfl (by decide) (Nat.le_of_ble_eq_true rfl) (lv := [(0, .ref (ad m)), (1, .int c)]) rfl (fun Z hZl C hR hret hname => ?_)
  refine g_iconst (v := 0) C d_M_unticked_0 (by decide) ?_
  refine g_istore_n C d_M_unticked_1 rfl [(2, .int 0), (0, .ref (ad m)), (1, .int c)] (by decide) rfl ?_
  refine g_iconst (v := 0) C d_M_unticked_2 (by decide) ?_
  refine g_istore_n C d_M_unticked_3 rfl [(3, .int 0), (2, .int 0), (0, .ref (ad m)), (1, .int c)] (by decide) rfl ?_
  refine g_fewer (lv' := [(0, .ref (ad m)), (1, .int c), (2, .int 0), (3, .int 0)]) [2, 3, 1, 0] rfl ?_
  refine GW_eq (u2 := u) (lv2 := [(0, .ref (ad m)), (1, .int c), (2, .int (untS tck c.toNatClampNeg 0)), (3, .int (nI 0))]) rfl rfl ?_
  refine g_loop k (fun iL6 => True) (fun iL6 => u) (fun iL6 => [(0, .ref (ad m)), (1, .int c), (2, .int (untS tck c.toNatClampNeg iL6)), (3, .int (nI iL6))]) (fun iL6 hiL6 piL6 KL6 => ?_) (fun piL6 => ?_) 0 (by omega) trivial
  · skip
    show GW Z _ _ _ ad (u) _ [(0, .ref (ad m)), (1, .int c), (2, .int (untS tck c.toNatClampNeg iL6)), (3, .int (nI iL6))] _ _ 4 []
    obtain ⟨wL6s, hwL6s⟩ : ∃ z, z = u := ⟨_, rfl⟩
    rw [← hwL6s]
    have hwL6s_0 : wL6s m = some (mO ad m th cl dr wy ce ra li bi) := by rw [hwL6s]; exact hm
    have hwL6s_1 : wL6s (m + 19) = some (.inl ((X.2 0), 4, .inl man)) := by rw [hwL6s]; exact h_man
    have hwL6s_2 : wL6s (m + 23) = some (.inl ((X.2 2), 44, .inl tck)) := by rw [hwL6s]; exact h_tck
    refine g_iload_n C d_M_unticked_4 rfl 3 rfl ?_
    refine g_aload_n C d_M_unticked_5 rfl 0 rfl ?_
    refine g_get m 26 C hwL6s_0 rfl i_M (by decide) (gmem wd_544 rfl) rfl rfl d_M_unticked_6 ?_
    refine g_iload_n C d_M_unticked_9 rfl 1 rfl ?_
    refine g_iald (m + 19) 0 C hwL6s_1 rfl hc d_M_unticked_10 ?_
    refine g_icmp_ge 42 C d_M_unticked_11 (by decide) (fun c6s11 => ?_) (fun c6s11 => ?_)
    · exact absurd c6s11 (geN hk (by omega) hiL6)
    refine g_iload_n C d_M_unticked_14 rfl 2 rfl ?_
    refine g_aload_n C d_M_unticked_15 rfl 0 rfl ?_
    refine g_get m 30 C hwL6s_0 rfl i_M (by decide) (gmem wd_548 rfl) rfl rfl d_M_unticked_16 ?_
    refine g_bipush (v := 11) C d_M_unticked_19 (by decide) ?_
    refine g_iload_n C d_M_unticked_21 rfl 1 rfl ?_
    refine g_imul C d_M_unticked_22 ?_
    refine g_iload_n C d_M_unticked_23 rfl 3 rfl ?_
    refine g_iadd C d_M_unticked_24 ?_
    refine g_zald (m + 23) 2 C hwL6s_2 rfl (in44 (i := iL6) hc (by omega)).1 d_M_unticked_25 ?_
    rw [show Int32.toNatClampNeg ((11 * c) + (nI iL6)) = 11 * c.toNatClampNeg + iL6 from (in44 (i := iL6) hc (by omega)).2]
    refine g_if_eq 33 C d_M_unticked_26 (by decide) (fun c6s26 => ?_) (fun c6s26 => ?_)
    · skip
      refine g_iconst (v := 1) C d_M_unticked_33 (by decide) ?_
      refine g_iadd C d_M_unticked_34 ?_
      refine g_topi (fun x6s35 ex6s35 => ?_)
      refine g_istore_n C d_M_unticked_35 rfl [(2, .int x6s35), (0, .ref (ad m)), (1, .int c), (3, .int (nI iL6))] (by decide) rfl ?_
      obtain ⟨x6s36, ex6s36⟩ : ∃ y : Int32, y = (nI iL6) + 1 := ⟨_, rfl⟩
      refine g_iinc (v := x6s36) C d_M_unticked_36 3 rfl (by rw [ex6s36]; rfl) [(3, .int x6s36), (2, .int x6s35), (0, .ref (ad m)), (1, .int c)] (by decide) rfl ?_
      refine g_goto 4 C d_M_unticked_39 (by decide) ?_
      refine g_fewer (lv' := [(0, .ref (ad m)), (1, .int c), (2, .int x6s35), (3, .int x6s36)]) [2, 3, 1, 0] rfl ?_
      refine GW_eq (u2 := u) (lv2 := [(0, .ref (ad m)), (1, .int c), (2, .int (untS tck c.toNatClampNeg (iL6 + 1))), (3, .int (nI (iL6 + 1)))]) ?_ ?_ (KL6 trivial)
      · first | (rw [hwL6s]; done) | (rw [hwL6s]; funext k; simp only [gup]; (repeat' split) <;> first | with_reducible rfl | (exfalso; omega) | rfl)
      · simp only [ex6s35, ex6s36, nI_1, untS, if_pos c6s26]
    · skip
      refine g_iconst (v := 0) C d_M_unticked_29 (by decide) ?_
      refine g_goto 34 C d_M_unticked_30 (by decide) ?_
      refine g_iadd C d_M_unticked_34 ?_
      refine g_topi (fun x6s35 ex6s35 => ?_)
      refine g_istore_n C d_M_unticked_35 rfl [(2, .int x6s35), (0, .ref (ad m)), (1, .int c), (3, .int (nI iL6))] (by decide) rfl ?_
      obtain ⟨x6s36, ex6s36⟩ : ∃ y : Int32, y = (nI iL6) + 1 := ⟨_, rfl⟩
      refine g_iinc (v := x6s36) C d_M_unticked_36 3 rfl (by rw [ex6s36]; rfl) [(3, .int x6s36), (2, .int x6s35), (0, .ref (ad m)), (1, .int c)] (by decide) rfl ?_
      refine g_goto 4 C d_M_unticked_39 (by decide) ?_
      refine g_fewer (lv' := [(0, .ref (ad m)), (1, .int c), (2, .int x6s35), (3, .int x6s36)]) [2, 3, 1, 0] rfl ?_
      refine GW_eq (u2 := u) (lv2 := [(0, .ref (ad m)), (1, .int c), (2, .int (untS tck c.toNatClampNeg (iL6 + 1))), (3, .int (nI (iL6 + 1)))]) ?_ ?_ (KL6 trivial)
      · first | (rw [hwL6s]; done) | (rw [hwL6s]; funext k; simp only [gup]; (repeat' split) <;> first | with_reducible rfl | (exfalso; omega) | rfl)
      · simp only [ex6s35, ex6s36, nI_1, untS, if_neg c6s26]
  · skip
    show GW Z _ _ _ ad (u) _ [(0, .ref (ad m)), (1, .int c), (2, .int (untS tck c.toNatClampNeg k)), (3, .int (nI k))] _ _ 4 []
    obtain ⟨wL6e, hwL6e⟩ : ∃ z, z = u := ⟨_, rfl⟩
    rw [← hwL6e]
    have hwL6e_0 : wL6e m = some (mO ad m th cl dr wy ce ra li bi) := by rw [hwL6e]; exact hm
    have hwL6e_1 : wL6e (m + 19) = some (.inl ((X.2 0), 4, .inl man)) := by rw [hwL6e]; exact h_man
    have hwL6e_2 : wL6e (m + 23) = some (.inl ((X.2 2), 44, .inl tck)) := by rw [hwL6e]; exact h_tck
    refine g_iload_n C d_M_unticked_4 rfl 3 rfl ?_
    refine g_aload_n C d_M_unticked_5 rfl 0 rfl ?_
    refine g_get m 26 C hwL6e_0 rfl i_M (by decide) (gmem wd_544 rfl) rfl rfl d_M_unticked_6 ?_
    refine g_iload_n C d_M_unticked_9 rfl 1 rfl ?_
    refine g_iald (m + 19) 0 C hwL6e_1 rfl hc d_M_unticked_10 ?_
    refine g_icmp_ge 42 C d_M_unticked_11 (by decide) (fun c6e11 => ?_) (fun c6e11 => ?_)
    rotate_left
    · exact absurd (leN hk) c6e11
    refine g_iload_n C d_M_unticked_42 rfl 2 rfl ?_
    exact g_iret C hR hret ⟨rfl, (by first | (rw [hwL6e]; done) | (rw [hwL6e]; funext k; simp only [gup]; (repeat' split) <;> first | with_reducible rfl | (exfalso; omega) | rfl)), rfl⟩ d_M_unticked_43

set_option maxHeartbeats 4000000 in
set_option maxRecDepth 100000 in
theorem k_M_isTransfer (l : Launch) (X : gX) (ad : Nat → Nat) (u : gW) (sz : Nat) (m : Nat) (th cl dr wy ce ra li bi : Int32) (ope man : Nat → Int32) (c i : Int32) (hm : u m = some (mO ad m th cl dr wy ce ra li bi)) (h_ope : u (m + 16) = some (.inl ((X.2 2), 4, .inl ope))) (h_man : u (m + 19) = some (.inl ((X.2 0), 4, .inl man))) (hcl : cl ≤ 4) : gMet l (EE X) y_M_isTransfer c_M_isTransfer 3 (some .boolean) ({ frames := 1, cells := 0, slots := 0, locals := 21 }) [.ref (ad m), .int c, .int i] ad u sz (fun v u' sz' => v = some (.int (bI (isTr cl ope man c i))) ∧ u' = u ∧ sz' = sz) := by
  refine gMet_of "ExpenseClubsModel" rfl (by decide) (Nat.le_of_ble_eq_true rfl) (lv := [(0, .ref (ad m)), (1, .int c), (2, .int i)]) rfl (fun Z hZl C hR hret hname => ?_)
  refine g_aload_n C d_M_isTransfer_0 rfl 0 rfl ?_
  refine g_iload_n C d_M_isTransfer_1 rfl 1 rfl ?_
  refine g_callV 1 C (k_M_isClub _ X ad u sz m th cl dr wy ce ra li bi  c hm ) (gmem wd_630 rfl) (gmem wd_632 rfl) (gmem ws_10 rfl) (gmem wd_4 rfl) (gmem wd_633 rfl) ⟨by decide, by decide, by decide +kernel⟩ ⟨Nat.le_of_ble_eq_true rfl, Nat.le_of_ble_eq_true rfl⟩ hm rfl rfl rfl (Nat.le_of_ble_eq_true rfl) d_M_isTransfer_2 ⟨Nat.le_of_ble_eq_true rfl, Nat.le_of_ble_eq_true rfl⟩ ?_
  rintro v9 u9 s9 ⟨h9, hu9, hs9⟩; rw [h9, hu9, hs9]; clear h9 hu9 hs9 v9 u9 s9
  show GW Z _ _ _ ad u sz [(0, .ref (ad m)), (1, .int c), (2, .int i)] 0 0 5 [.int (bI (isMb c cl))]
  refine g_if_eq 35 C d_M_isTransfer_5 (by decide) (fun c5 => ?_) (fun c5 => ?_)
  · skip
    refine g_iconst (v := 0) C d_M_isTransfer_35 (by decide) ?_
    exact g_zret C hR hret rfl ⟨by simp only [isTr, bI_eq0.mp c5, Bool.not_true, Bool.not_false, Bool.and_true, Bool.true_and, Bool.false_and, Bool.and_false, bI_t, bI_f], rfl, rfl⟩ d_M_isTransfer_36
  · skip
    refine g_aload_n C d_M_isTransfer_8 rfl 0 rfl ?_
    refine g_get m 23 C hm rfl i_M (by decide) (gmem wd_541 rfl) rfl rfl d_M_isTransfer_9 ?_
    refine g_iload_n C d_M_isTransfer_12 rfl 1 rfl ?_
    refine g_zald (m + 16) 2 C h_ope rfl (in4x (bI_ne0.mp c5) hcl) d_M_isTransfer_13 ?_
    refine g_if_eq 35 C d_M_isTransfer_14 (by decide) (fun c14 => ?_) (fun c14 => ?_)
    · skip
      refine g_iconst (v := 0) C d_M_isTransfer_35 (by decide) ?_
      exact g_zret C hR hret rfl ⟨by simp only [isTr, bI_ne0.mp c5, decide_eq_true c14, if_pos c14, Bool.not_true, Bool.not_false, Bool.and_true, Bool.true_and, Bool.false_and, Bool.and_false, bI_t, bI_f], rfl, rfl⟩ d_M_isTransfer_36
    · skip
      refine g_iload_n C d_M_isTransfer_17 rfl 2 rfl ?_
      refine g_if_lt 35 C d_M_isTransfer_18 (by decide) (fun c18 => ?_) (fun c18 => ?_)
      · skip
        refine g_iconst (v := 0) C d_M_isTransfer_35 (by decide) ?_
        exact g_zret C hR hret rfl ⟨by simp only [isTr, bI_ne0.mp c5, decide_eq_false c14, if_neg c14, decide_eq_true c18, if_pos c18, Bool.not_true, Bool.not_false, Bool.and_true, Bool.true_and, Bool.false_and, Bool.and_false, bI_t, bI_f], rfl, rfl⟩ d_M_isTransfer_36
      · skip
        refine g_iload_n C d_M_isTransfer_21 rfl 2 rfl ?_
        refine g_aload_n C d_M_isTransfer_22 rfl 0 rfl ?_
        refine g_get m 26 C hm rfl i_M (by decide) (gmem wd_544 rfl) rfl rfl d_M_isTransfer_23 ?_
        refine g_iload_n C d_M_isTransfer_26 rfl 1 rfl ?_
        refine g_iald (m + 19) 0 C h_man rfl (in4x (bI_ne0.mp c5) hcl) d_M_isTransfer_27 ?_
        refine g_icmp_ge 35 C d_M_isTransfer_28 (by decide) (fun c28 => ?_) (fun c28 => ?_)
        · skip
          refine g_iconst (v := 0) C d_M_isTransfer_35 (by decide) ?_
          exact g_zret C hR hret rfl ⟨by simp only [isTr, bI_ne0.mp c5, decide_eq_false c14, if_neg c14, decide_eq_false c18, if_neg c18, decide_eq_true c28, if_pos c28, Bool.not_true, Bool.not_false, Bool.and_true, Bool.true_and, Bool.false_and, Bool.and_false, bI_t, bI_f], rfl, rfl⟩ d_M_isTransfer_36
        · skip
          refine g_iconst (v := 1) C d_M_isTransfer_31 (by decide) ?_
          refine g_goto 36 C d_M_isTransfer_32 (by decide) ?_
          exact g_zret C hR hret rfl ⟨by simp only [isTr, bI_ne0.mp c5, decide_eq_false c14, if_neg c14, decide_eq_false c18, if_neg c18, decide_eq_false c28, if_neg c28, Bool.not_true, Bool.not_false, Bool.and_true, Bool.true_and, Bool.false_and, Bool.and_false, bI_t, bI_f], rfl, rfl⟩ d_M_isTransfer_36
