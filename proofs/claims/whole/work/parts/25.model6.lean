theorem in48i {d : Int32} {i : Nat} (hd : vp_in d 4) (hi : i < 12) : vp_in (12 * d + nI i) 48 ∧ (12 * d + nI i).toNatClampNeg = 12 * d.toNatClampNeg + i := by
  have h := in48 (c := d) (m := nI i) hd (vp_in_nI hi (by decide))
  rw [nI_clamp (n := i) (by omega)] at h
  exact h
def paS (pay : Nat → Int32) : Nat → Int64
  | 0 => 0
  | i + 1 => paS pay i + (pay i).toInt64
def badM (lef pay : Nat → Int32) (hv : Nat → Int64) (d j : Nat) : Prop := ¬ lef (12 * d + j) = 0 ∧ (0 < pay j ∨ ¬ hv j ≤ 0)
def wroR (lef pay : Nat → Int32) (hv hv2 : Nat → Int64) (d : Nat) (wy ce : Int32) (ls : Int64) (r : Int32) : Prop :=
  ((∃ j, j < 12 ∧ badM lef pay hv d j) ∧ r = -4) ∨ ((∀ j, j < 12 → ¬ badM lef pay hv d j) ∧ r = if ¬ paS pay 12 = ce.toInt64 then -5 else if sumL hv2 12 = 0 then -6 else if fitM wy ce (sumL hv2 12) ls = true then 0 else -7)
theorem in64n {bi : Int32} {nb : Nat} (h : bi = nI nb) (hn : nb ≤ 64) (h6 : ¬ bi = 64) : vp_in bi 64 := by
  have h9 : nb ≠ 64 := fun e => h6 (by rw [h, e]; rfl)
  rw [h]; exact vp_in_nI (by omega) (by decide)
/-- twelve places from o on -/
def mapO (f g : Nat → Int64) (o i : Nat) : Nat → Int64 := fun j => if o ≤ j ∧ j < o + i then g (j - o) else f j
theorem mapO_0 (f g : Nat → Int64) (o : Nat) : mapO f g o 0 = f := by
  funext j; simp only [mapO]; rw [if_neg (by omega)]
theorem mapO_s {f g : Nat → Int64} {o i : Nat} {x : Int64} (h : x = g i) : vp_updL (mapO f g o i) (o + i) x = mapO f g o (i + 1) := by
  funext j
  simp only [vp_updL, mapO]
  by_cases h1 : j = o + i
  · subst h1; rw [if_pos rfl, if_pos (by omega), h]; congr 1; omega
  · rw [if_neg h1]
    by_cases h2 : o ≤ j ∧ j < o + i
    · rw [if_pos h2, if_pos (by omega)]
    · rw [if_neg h2, if_neg (by omega)]
theorem mapO_at {f p : Nat → Int64} {o n m : Nat} (h : m < n) : mapO f p o n (o + m) = p m := by
  simp only [mapO]; rw [if_pos (by omega)]; congr 1; omega
theorem mapO_u {f p : Nat → Int64} {o n m : Nat} {x : Int64} (h : m < n) : vp_updL (mapO f p o n) (o + m) x = mapO f (vp_updL p m x) o n := by
  funext j
  simp only [vp_updL, mapO]
  by_cases h1 : j = o + m
  · rw [if_pos h1, if_pos (by omega), if_pos (by omega)]
  · rw [if_neg h1]
    by_cases h2 : o ≤ j ∧ j < o + n
    · rw [if_pos h2, if_pos h2, if_neg (by omega)]
    · rw [if_neg h2, if_neg h2]
theorem handS_froz {w : Nat → Int64} {s0 : Nat} {p0 : Nat → Int64} {w0 : Int64} {k : Nat} (n : Nat) (h : (handS w s0 p0 w0 k).2.1 ≤ 0) (hk : k ≤ n) : handS w s0 p0 w0 n = handS w s0 p0 w0 k := by
  induction n with
  | zero => rw [show k = 0 by omega]
  | succ n ih =>
    by_cases e : k = n + 1
    · rw [e]
    · have h1 := ih (by omega)
      rw [handS_f1 (by rw [h1]; exact h), h1]
theorem i64_le0 {x : Int32} : x.toInt64 ≤ 0 ↔ x ≤ 0 := by
  rw [Int64.le_iff_toInt_le, Int32.le_iff_toInt_le, Int32.toInt_toInt64]
  rfl
theorem atI {nb i : Nat} : nI (12 * nb) + nI i = nI (12 * nb + i) := nI_add _ _
theorem upd_upd (f : Nat → Int32) (i : Nat) (x y : Int32) : upd (upd f i x) i y = upd f i y := by
  funext j; simp only [upd]; split <;> rfl
theorem upd_id {f : Nat → Int32} {i : Nat} {x : Int32} (h : f i = x) : upd f i x = f := by
  funext j; simp only [upd]; split
  · next e => rw [e, h]
  · rfl
set_option maxHeartbeats 4000000 in
set_option maxRecDepth 100000 in
theorem k_M_wrong (l : Launch) (X : gX) (ad : Nat → Nat) (u : gW) (sz : Nat) (m : Nat) (th cl dr wy ce ra li bi : Int32) (ope lef pay wei lic lis : Nat → Int32) (hea : Nat → Int64)  (hm : u m = some (mO ad m th cl dr wy ce ra li bi)) (h_ope : u (m + 16) = some (.inl ((X.2 2), 4, .inl ope))) (h_lef : u (m + 3) = some (.inl ((X.2 2), 48, .inl lef))) (h_pay : u (m + 4) = some (.inl ((X.2 0), 12, .inl pay))) (h_wei : u (m + 5) = some (.inl ((X.2 0), 12, .inl wei))) (h_lic : u (m + 6) = some (.inl ((X.2 0), 16, .inl lic))) (h_lis : u (m + 7) = some (.inl ((X.2 0), 16, .inl lis))) (h_hea : u (m + 8) = some (.inl ((X.2 1), 12, .inr (.inl hea)))) (hdr : ¬ dr = -1 → vp_in dr 4) (L : Nat) (hli : li = nI L) (hL16 : L ≤ 16) (hsz : ∀ k, k < L → ¬ sizS (lis k) 12 = 0) : gMet l (EE X) y_M_wrong c_M_wrong 6 (some .int) ({ frames := 2, cells := 0, slots := 0, locals := 46 }) [.ref (ad m)] ad u sz (fun v u' sz' => ∃ r : Int32, v = some (.int r) ∧ sz' = sz ∧ ((dr = -1 ∧ r = -1 ∧ u' = u) ∨ (¬ dr = -1 ∧ ¬ ope dr.toNatClampNeg = 0 ∧ r = -2 ∧ u' = u) ∨ (¬ dr = -1 ∧ ope dr.toNatClampNeg = 0 ∧ bi = 64 ∧ r = -3 ∧ u' = u) ∨ (¬ dr = -1 ∧ ope dr.toNatClampNeg = 0 ∧ ¬ bi = 64 ∧ wroR lef pay (mapL hea (heaV wy wei lis lic L) 12) (heaV wy wei lis lic L) dr.toNatClampNeg wy ce (linS lic L) r ∧ u' = gup u (m + 8) (.inl ((X.2 1), 12, .inr (.inl (mapL hea (heaV wy wei lis lic L) 12))))))) := by
  refine gMet_of "ExpenseClubsModel" rfl (by decide) (Nat.le_of_ble_eq_true rfl) (lv := [(0, .ref (ad m))]) rfl (fun Z hZl C hR hret hname => ?_)
  refine g_aload_n C d_M_wrong_0 rfl 0 rfl ?_
  refine g_get m 5 C hm rfl i_M (by decide) (gmem wd_523 rfl) rfl rfl d_M_wrong_1 ?_
  refine g_iconst (v := (-1)) C d_M_wrong_4 (by decide) ?_
  refine g_icmp_ne 10 C d_M_wrong_5 (by decide) (fun c5 => ?_) (fun c5 => ?_)
  · skip
    refine g_aload_n C d_M_wrong_10 rfl 0 rfl ?_
    refine g_get m 23 C hm rfl i_M (by decide) (gmem wd_541 rfl) rfl rfl d_M_wrong_11 ?_
    refine g_aload_n C d_M_wrong_14 rfl 0 rfl ?_
    refine g_get m 5 C hm rfl i_M (by decide) (gmem wd_523 rfl) rfl rfl d_M_wrong_15 ?_
    refine g_zald (m + 16) 2 C h_ope rfl (hdr c5) d_M_wrong_18 ?_
    refine g_if_eq 25 C d_M_wrong_19 (by decide) (fun c19 => ?_) (fun c19 => ?_)
    · skip
      refine g_aload_n C d_M_wrong_25 rfl 0 rfl ?_
      refine g_get m 15 C hm rfl i_M (by decide) (gmem wd_533 rfl) rfl rfl d_M_wrong_26 ?_
      refine g_bipush (v := 64) C d_M_wrong_29 (by decide) ?_
      refine g_icmp_ne 37 C d_M_wrong_31 (by decide) (fun c31 => ?_) (fun c31 => ?_)
      · skip
        refine g_aload_n C d_M_wrong_37 rfl 0 rfl ?_
        refine g_callV 0 C (k_M_weighs _ X ad u sz m th cl dr wy ce ra li bi wei lic lis hea  hm h_wei h_lic h_lis h_hea L hli hL16 hsz) (gmem wd_679 rfl) (gmem wd_681 rfl) (gmem ws_14 rfl) (gmem wd_4 rfl) (gmem wd_682 rfl) ⟨by decide, by decide, by decide +kernel⟩ ⟨Nat.le_of_ble_eq_true rfl, Nat.le_of_ble_eq_true rfl⟩ hm rfl rfl rfl (Nat.le_of_ble_eq_true rfl) d_M_wrong_38 ⟨Nat.le_of_ble_eq_true rfl, Nat.le_of_ble_eq_true rfl⟩ ?_
        rintro v9 uw1 s9 ⟨h9, huw1, hs9⟩; rw [h9, hs9]; clear h9 hs9 v9 s9
        have huw1_0 : uw1 m = some (mO ad m th cl dr wy ce ra li bi) := by rw [huw1, gup_ne (by omega)]; exact hm
        have huw1_1 : uw1 (m + 16) = some (.inl ((X.2 2), 4, .inl ope)) := by rw [huw1, gup_ne (by omega)]; exact h_ope
        have huw1_2 : uw1 (m + 3) = some (.inl ((X.2 2), 48, .inl lef)) := by rw [huw1, gup_ne (by omega)]; exact h_lef
        have huw1_3 : uw1 (m + 4) = some (.inl ((X.2 0), 12, .inl pay)) := by rw [huw1, gup_ne (by omega)]; exact h_pay
        have huw1_4 : uw1 (m + 5) = some (.inl ((X.2 0), 12, .inl wei)) := by rw [huw1, gup_ne (by omega)]; exact h_wei
        have huw1_5 : uw1 (m + 6) = some (.inl ((X.2 0), 16, .inl lic)) := by rw [huw1, gup_ne (by omega)]; exact h_lic
        have huw1_6 : uw1 (m + 7) = some (.inl ((X.2 0), 16, .inl lis)) := by rw [huw1, gup_ne (by omega)]; exact h_lis
        have huw1_7 : uw1 (m + 8) = some (.inl ((X.2 1), 12, .inr (.inl (mapL hea (heaV wy wei lis lic L) 12)))) := by rw [huw1, gup_self]
        show GW Z _ _ _ ad uw1 sz [(0, .ref (ad m))] 0 0 41 [.long (sumL (heaV wy wei lis lic L) 12)]
        refine g_topl (fun x41 ex41 => ?_)
        refine g_lstore_n C d_M_wrong_41 rfl [(1, .long x41), (0, .ref (ad m))] (by decide) rfl ?_
        refine g_lconst (v := 0) C d_M_wrong_42 (by decide) ?_
        refine g_lstore_n C d_M_wrong_43 rfl [(3, .long 0), (1, .long x41), (0, .ref (ad m))] (by decide) rfl ?_
        refine g_iconst (v := 0) C d_M_wrong_44 (by decide) ?_
        refine g_istore C d_M_wrong_45 [(5, .int 0), (3, .long 0), (1, .long x41), (0, .ref (ad m))] (by decide) rfl ?_
        refine g_fewer (lv' := [(0, .ref (ad m)), (1, .long x41), (3, .long 0), (5, .int 0)]) [3, 2, 1, 0] rfl ?_
        refine GW_eq (u2 := uw1) (lv2 := [(0, .ref (ad m)), (1, .long (sumL (heaV wy wei lis lic L) 12)), (3, .long (paS pay 0)), (5, .int (nI 0))]) rfl (by simp only [ex41]; rfl) ?_
        refine g_loop 12 (fun iL12 => ∀ j, j < iL12 → ¬ badM lef pay (mapL hea (heaV wy wei lis lic L) 12) dr.toNatClampNeg j) (fun iL12 => uw1) (fun iL12 => [(0, .ref (ad m)), (1, .long (sumL (heaV wy wei lis lic L) 12)), (3, .long (paS pay iL12)), (5, .int (nI iL12))]) (fun iL12 hiL12 piL12 KL12 => ?_) (fun piL12 => ?_) 0 (by omega) lt_0
        · skip
          show GW Z _ _ _ ad (uw1) _ [(0, .ref (ad m)), (1, .long (sumL (heaV wy wei lis lic L) 12)), (3, .long (paS pay iL12)), (5, .int (nI iL12))] _ _ 47 []
          obtain ⟨wL12s, hwL12s⟩ : ∃ z, z = uw1 := ⟨_, rfl⟩
          rw [← hwL12s]
          have hwL12s_0 : wL12s m = some (mO ad m th cl dr wy ce ra li bi) := by rw [hwL12s]; exact huw1_0
          have hwL12s_1 : wL12s (m + 16) = some (.inl ((X.2 2), 4, .inl ope)) := by rw [hwL12s]; exact huw1_1
          have hwL12s_2 : wL12s (m + 3) = some (.inl ((X.2 2), 48, .inl lef)) := by rw [hwL12s]; exact huw1_2
          have hwL12s_3 : wL12s (m + 4) = some (.inl ((X.2 0), 12, .inl pay)) := by rw [hwL12s]; exact huw1_3
          have hwL12s_4 : wL12s (m + 5) = some (.inl ((X.2 0), 12, .inl wei)) := by rw [hwL12s]; exact huw1_4
          have hwL12s_5 : wL12s (m + 6) = some (.inl ((X.2 0), 16, .inl lic)) := by rw [hwL12s]; exact huw1_5
          have hwL12s_6 : wL12s (m + 7) = some (.inl ((X.2 0), 16, .inl lis)) := by rw [hwL12s]; exact huw1_6
          have hwL12s_7 : wL12s (m + 8) = some (.inl ((X.2 1), 12, .inr (.inl (mapL hea (heaV wy wei lis lic L) 12)))) := by rw [hwL12s]; exact huw1_7
          refine g_iload C d_M_wrong_47 3 rfl ?_
          refine g_bipush (v := 12) C d_M_wrong_49 (by decide) ?_
          refine g_icmp_ge 114 C d_M_wrong_51 (by decide) (fun c12s51 => ?_) (fun c12s51 => ?_)
          · exact absurd c12s51 (ge12 hiL12)
          refine g_lload_n C d_M_wrong_54 rfl 2 rfl ?_
          refine g_aload_n C d_M_wrong_55 rfl 0 rfl ?_
          refine g_get m 9 C hwL12s_0 rfl i_M (by decide) (gmem wd_527 rfl) rfl rfl d_M_wrong_56 ?_
          refine g_iload C d_M_wrong_59 3 rfl ?_
          refine g_iald (m + 4) 0 C hwL12s_3 rfl (vp_in_nI (by omega) (by decide)) d_M_wrong_61 ?_
          rw [show Int32.toNatClampNeg (nI iL12) = iL12 from nI_clamp (by omega)]
          refine g_i2l C d_M_wrong_62 ?_
          refine g_ladd C d_M_wrong_63 ?_
          refine g_topl (fun x12s64 ex12s64 => ?_)
          refine g_lstore_n C d_M_wrong_64 rfl [(3, .long x12s64), (0, .ref (ad m)), (1, .long (sumL (heaV wy wei lis lic L) 12)), (5, .int (nI iL12))] (by decide) rfl ?_
          refine g_aload_n C d_M_wrong_65 rfl 1 rfl ?_
          refine g_get m 4 C hwL12s_0 rfl i_M (by decide) (gmem wd_522 rfl) rfl rfl d_M_wrong_66 ?_
          refine g_bipush (v := 12) C d_M_wrong_69 (by decide) ?_
          refine g_aload_n C d_M_wrong_71 rfl 1 rfl ?_
          refine g_get m 5 C hwL12s_0 rfl i_M (by decide) (gmem wd_523 rfl) rfl rfl d_M_wrong_72 ?_
          refine g_imul C d_M_wrong_75 ?_
          refine g_iload C d_M_wrong_76 3 rfl ?_
          refine g_iadd C d_M_wrong_78 ?_
          refine g_zald (m + 3) 2 C hwL12s_2 rfl (in48i (i := iL12) (hdr c5) (by omega)).1 d_M_wrong_79 ?_
          rw [show Int32.toNatClampNeg ((12 * dr) + (nI iL12)) = 12 * dr.toNatClampNeg + iL12 from (in48i (i := iL12) (hdr c5) (by omega)).2]
          refine g_if_eq 108 C d_M_wrong_80 (by decide) (fun c12s80 => ?_) (fun c12s80 => ?_)
          · skip
            obtain ⟨x12s108, ex12s108⟩ : ∃ y : Int32, y = (nI iL12) + 1 := ⟨_, rfl⟩
            refine g_iinc (v := x12s108) C d_M_wrong_108 3 rfl (by rw [ex12s108]; rfl) [(5, .int x12s108), (3, .long x12s64), (0, .ref (ad m)), (1, .long (sumL (heaV wy wei lis lic L) 12))] (by decide) rfl ?_
            refine g_goto 47 C d_M_wrong_111 (by decide) ?_
            refine g_fewer (lv' := [(0, .ref (ad m)), (1, .long (sumL (heaV wy wei lis lic L) 12)), (3, .long x12s64), (5, .int x12s108)]) [2, 3, 1, 0] rfl ?_
            refine GW_eq (u2 := uw1) (lv2 := [(0, .ref (ad m)), (1, .long (sumL (heaV wy wei lis lic L) 12)), (3, .long (paS pay (iL12 + 1))), (5, .int (nI (iL12 + 1)))]) ?_ ?_ (KL12 (lt_s piL12 (fun hB => hB.1 c12s80)))
            · first | (rw [hwL12s]; done) | (rw [hwL12s]; funext k; simp only [gup]; (repeat' split) <;> first | with_reducible rfl | (exfalso; omega))
            · simp only [ex12s64, ex12s108, nI_1, paS]
          · skip
            refine g_aload_n C d_M_wrong_83 rfl 1 rfl ?_
            refine g_get m 9 C hwL12s_0 rfl i_M (by decide) (gmem wd_527 rfl) rfl rfl d_M_wrong_84 ?_
            refine g_iload C d_M_wrong_87 3 rfl ?_
            refine g_iald (m + 4) 0 C hwL12s_3 rfl (vp_in_nI (by omega) (by decide)) d_M_wrong_89 ?_
            rw [show Int32.toNatClampNeg (nI iL12) = iL12 from nI_clamp (by omega)]
            refine g_if_gt 105 C d_M_wrong_90 (by decide) (fun c12s90 => ?_) (fun c12s90 => ?_)
            · skip
              refine g_bipush (v := (-4)) C d_M_wrong_105 (by decide) ?_
              exact g_iret C hR hret ⟨_, rfl, rfl, Or.inr (Or.inr (Or.inr ⟨c5, c19, c31, Or.inl ⟨⟨iL12, hiL12, c12s80, (Or.inl c12s90)⟩, rfl⟩, (by first | (rw [hwL12s, huw1]; done) | (rw [hwL12s, huw1]; funext k; simp only [gup]; (repeat' split) <;> first | with_reducible rfl | (exfalso; omega)))⟩))⟩ d_M_wrong_107
            · skip
              refine g_aload_n C d_M_wrong_93 rfl 1 rfl ?_
              refine g_get m 14 C hwL12s_0 rfl i_M (by decide) (gmem wd_532 rfl) rfl rfl d_M_wrong_94 ?_
              refine g_iload C d_M_wrong_97 3 rfl ?_
              refine g_lald (m + 8) 1 C hwL12s_7 rfl (vp_in_nI (by omega) (by decide)) d_M_wrong_99 ?_
              rw [show Int32.toNatClampNeg (nI iL12) = iL12 from nI_clamp (by omega)]
              refine g_lconst (v := 0) C d_M_wrong_100 (by decide) ?_
              refine g_lcmp C d_M_wrong_101 ?_
              refine g_if_le 108 C d_M_wrong_102 (by decide) (fun c12s102 => ?_) (fun c12s102 => ?_)
              · rw [lg_cmp_le] at c12s102
                obtain ⟨x12s108, ex12s108⟩ : ∃ y : Int32, y = (nI iL12) + 1 := ⟨_, rfl⟩
                refine g_iinc (v := x12s108) C d_M_wrong_108 3 rfl (by rw [ex12s108]; rfl) [(5, .int x12s108), (3, .long x12s64), (0, .ref (ad m)), (1, .long (sumL (heaV wy wei lis lic L) 12))] (by decide) rfl ?_
                refine g_goto 47 C d_M_wrong_111 (by decide) ?_
                refine g_fewer (lv' := [(0, .ref (ad m)), (1, .long (sumL (heaV wy wei lis lic L) 12)), (3, .long x12s64), (5, .int x12s108)]) [2, 3, 1, 0] rfl ?_
                refine GW_eq (u2 := uw1) (lv2 := [(0, .ref (ad m)), (1, .long (sumL (heaV wy wei lis lic L) 12)), (3, .long (paS pay (iL12 + 1))), (5, .int (nI (iL12 + 1)))]) ?_ ?_ (KL12 (lt_s piL12 (fun hB => hB.2.elim c12s90 (fun h9 => h9 c12s102))))
                · first | (rw [hwL12s]; done) | (rw [hwL12s]; funext k; simp only [gup]; (repeat' split) <;> first | with_reducible rfl | (exfalso; omega))
                · simp only [ex12s64, ex12s108, nI_1, paS]
              · rw [lg_cmp_le] at c12s102
                refine g_bipush (v := (-4)) C d_M_wrong_105 (by decide) ?_
                exact g_iret C hR hret ⟨_, rfl, rfl, Or.inr (Or.inr (Or.inr ⟨c5, c19, c31, Or.inl ⟨⟨iL12, hiL12, c12s80, (Or.inr c12s102)⟩, rfl⟩, (by first | (rw [hwL12s, huw1]; done) | (rw [hwL12s, huw1]; funext k; simp only [gup]; (repeat' split) <;> first | with_reducible rfl | (exfalso; omega)))⟩))⟩ d_M_wrong_107
        · skip
          show GW Z _ _ _ ad (uw1) _ [(0, .ref (ad m)), (1, .long (sumL (heaV wy wei lis lic L) 12)), (3, .long (paS pay 12)), (5, .int (nI 12))] _ _ 47 []
          obtain ⟨wL12e, hwL12e⟩ : ∃ z, z = uw1 := ⟨_, rfl⟩
          rw [← hwL12e]
          have hwL12e_0 : wL12e m = some (mO ad m th cl dr wy ce ra li bi) := by rw [hwL12e]; exact huw1_0
          have hwL12e_1 : wL12e (m + 16) = some (.inl ((X.2 2), 4, .inl ope)) := by rw [hwL12e]; exact huw1_1
          have hwL12e_2 : wL12e (m + 3) = some (.inl ((X.2 2), 48, .inl lef)) := by rw [hwL12e]; exact huw1_2
          have hwL12e_3 : wL12e (m + 4) = some (.inl ((X.2 0), 12, .inl pay)) := by rw [hwL12e]; exact huw1_3
          have hwL12e_4 : wL12e (m + 5) = some (.inl ((X.2 0), 12, .inl wei)) := by rw [hwL12e]; exact huw1_4
          have hwL12e_5 : wL12e (m + 6) = some (.inl ((X.2 0), 16, .inl lic)) := by rw [hwL12e]; exact huw1_5
          have hwL12e_6 : wL12e (m + 7) = some (.inl ((X.2 0), 16, .inl lis)) := by rw [hwL12e]; exact huw1_6
          have hwL12e_7 : wL12e (m + 8) = some (.inl ((X.2 1), 12, .inr (.inl (mapL hea (heaV wy wei lis lic L) 12)))) := by rw [hwL12e]; exact huw1_7
          refine g_iload C d_M_wrong_47 3 rfl ?_
          refine g_bipush (v := 12) C d_M_wrong_49 (by decide) ?_
          refine g_icmp_ge 114 C d_M_wrong_51 (by decide) (fun c12e51 => ?_) (fun c12e51 => ?_)
          rotate_left
          · exact absurd (by decide) c12e51
          refine g_lload_n C d_M_wrong_114 rfl 2 rfl ?_
          refine g_aload_n C d_M_wrong_115 rfl 0 rfl ?_
          refine g_get m 7 C hwL12e_0 rfl i_M (by decide) (gmem wd_525 rfl) rfl rfl d_M_wrong_116 ?_
          refine g_i2l C d_M_wrong_119 ?_
          refine g_lcmp C d_M_wrong_120 ?_
          refine g_if_eq 129 C d_M_wrong_121 (by decide) (fun c12e121 => ?_) (fun c12e121 => ?_)
          · rw [lg_cmp_eq] at c12e121
            refine g_lload_n C d_M_wrong_129 rfl 1 rfl ?_
            refine g_lconst (v := 0) C d_M_wrong_130 (by decide) ?_
            refine g_lcmp C d_M_wrong_131 ?_
            refine g_if_ne 140 C d_M_wrong_132 (by decide) (fun c12e132 => ?_) (fun c12e132 => ?_)
            · rw [lg_cmp_eq] at c12e132
              refine g_aload_n C d_M_wrong_140 rfl 0 rfl ?_
              refine g_lload_n C d_M_wrong_141 rfl 1 rfl ?_
              refine g_callV 1 C (k_M_fits _ X ad wL12e sz m th cl dr wy ce ra li bi lic (sumL (heaV wy wei lis lic L) 12) hwL12e_0 hwL12e_5 L hli hL16) (gmem wd_686 rfl) (gmem wd_688 rfl) (gmem ws_15 rfl) (gmem wd_4 rfl) (gmem wd_689 rfl) ⟨by decide, by decide, by decide +kernel⟩ ⟨Nat.le_of_ble_eq_true rfl, Nat.le_of_ble_eq_true rfl⟩ hwL12e_0 rfl rfl rfl (Nat.le_of_ble_eq_true rfl) d_M_wrong_142 ⟨Nat.le_of_ble_eq_true rfl, Nat.le_of_ble_eq_true rfl⟩ ?_
              rintro v9 u9 s9 ⟨h9, hu9, hs9⟩; rw [h9, hu9, hs9]; clear h9 hu9 hs9 v9 u9 s9
              show GW Z _ _ _ ad wL12e sz [(0, .ref (ad m)), (1, .long (sumL (heaV wy wei lis lic L) 12)), (3, .long (paS pay 12)), (5, .int (nI 12))] 0 0 145 [.int (bI (fitM wy ce (sumL (heaV wy wei lis lic L) 12) (linS lic L)))]
              refine g_if_eq 152 C d_M_wrong_145 (by decide) (fun c12e145 => ?_) (fun c12e145 => ?_)
              · skip
                refine g_bipush (v := (-7)) C d_M_wrong_152 (by decide) ?_
                exact g_iret C hR hret ⟨_, rfl, rfl, Or.inr (Or.inr (Or.inr ⟨c5, c19, c31, Or.inr ⟨piL12, by rw [if_neg (not_not_intro c12e121), if_neg c12e132, if_neg (by rw [bI_eq0.mp c12e145]; decide)]⟩, (by first | (rw [hwL12e, huw1]; done) | (rw [hwL12e, huw1]; funext k; simp only [gup]; (repeat' split) <;> first | with_reducible rfl | (exfalso; omega)))⟩))⟩ d_M_wrong_154
              · skip
                refine g_iconst (v := 0) C d_M_wrong_148 (by decide) ?_
                refine g_goto 154 C d_M_wrong_149 (by decide) ?_
                exact g_iret C hR hret ⟨_, rfl, rfl, Or.inr (Or.inr (Or.inr ⟨c5, c19, c31, Or.inr ⟨piL12, by rw [if_neg (not_not_intro c12e121), if_neg c12e132, if_pos (bI_ne0.mp c12e145)]⟩, (by first | (rw [hwL12e, huw1]; done) | (rw [hwL12e, huw1]; funext k; simp only [gup]; (repeat' split) <;> first | with_reducible rfl | (exfalso; omega)))⟩))⟩ d_M_wrong_154
            · rw [lg_cmp_eq] at c12e132
              refine g_bipush (v := (-6)) C d_M_wrong_135 (by decide) ?_
              refine g_goto 154 C d_M_wrong_137 (by decide) ?_
              exact g_iret C hR hret ⟨_, rfl, rfl, Or.inr (Or.inr (Or.inr ⟨c5, c19, c31, Or.inr ⟨piL12, by rw [if_neg (not_not_intro c12e121), if_pos c12e132]⟩, (by first | (rw [hwL12e, huw1]; done) | (rw [hwL12e, huw1]; funext k; simp only [gup]; (repeat' split) <;> first | with_reducible rfl | (exfalso; omega)))⟩))⟩ d_M_wrong_154
          · rw [lg_cmp_eq] at c12e121
            refine g_bipush (v := (-5)) C d_M_wrong_124 (by decide) ?_
            refine g_goto 154 C d_M_wrong_126 (by decide) ?_
            exact g_iret C hR hret ⟨_, rfl, rfl, Or.inr (Or.inr (Or.inr ⟨c5, c19, c31, Or.inr ⟨piL12, by rw [if_pos c12e121]⟩, (by first | (rw [hwL12e, huw1]; done) | (rw [hwL12e, huw1]; funext k; simp only [gup]; (repeat' split) <;> first | with_reducible rfl | (exfalso; omega)))⟩))⟩ d_M_wrong_154
      · skip
        refine g_bipush (v := (-3)) C d_M_wrong_34 (by decide) ?_
        exact g_iret C hR hret ⟨_, rfl, rfl, Or.inr (Or.inr (Or.inl ⟨c5, c19, c31, rfl, rfl⟩))⟩ d_M_wrong_36
    · skip
      refine g_bipush (v := (-2)) C d_M_wrong_22 (by decide) ?_
      exact g_iret C hR hret ⟨_, rfl, rfl, Or.inr (Or.inl ⟨c5, c19, rfl, rfl⟩)⟩ d_M_wrong_24
  · skip
    refine g_iconst (v := (-1)) C d_M_wrong_8 (by decide) ?_
    exact g_iret C hR hret ⟨_, rfl, rfl, Or.inl ⟨c5, rfl, rfl⟩⟩ d_M_wrong_9

set_option maxHeartbeats 4000000 in
set_option maxRecDepth 100000 in
theorem k_M_pay (l : Launch) (X : gX) (ad : Nat → Nat) (u : gW) (sz : Nat) (m : Nat) (th cl dr wy ce ra li bi : Int32) (pay : Nat → Int32) (pai : Nat → Int64) (nb : Nat) (t : Int64) (hm : u m = some (mO ad m th cl dr wy ce ra li bi)) (h_pay : u (m + 4) = some (.inl ((X.2 0), 12, .inl pay))) (h_pai : u (m + 13) = some (.inl ((X.2 1), 768, .inr (.inl pai)))) (hn64 : nb < 64) (hce : ¬ ce.toInt64 = 0) (hend : (handS (fun j => (pay j).toInt64) 0 (fun j => (parS t (pay j).toInt64 ce.toInt64 63).1) (wantS t (fun j => (parS t (pay j).toInt64 ce.toInt64 63).1) 12) 12).2.1 ≤ 0) : gMet l (EE X) y_M_pay c_M_pay 7 none ({ frames := 1, cells := 0, slots := 0, locals := 30 }) [.ref (ad m), .int (nI (12 * nb)), .long t] ad u sz (fun v u' sz' => v = none ∧ u' = gup u (m + 13) (.inl ((X.2 1), 768, .inr (.inl (mapO pai (handS (fun j => (pay j).toInt64) 0 (fun j => (parS t (pay j).toInt64 ce.toInt64 63).1) (wantS t (fun j => (parS t (pay j).toInt64 ce.toInt64 63).1) 12) 12).1 (12 * nb) 12)))) ∧ sz' = sz) := by
  refine gMet_of "ExpenseClubsModel" rfl (by decide) (Nat.le_of_ble_eq_true rfl) (lv := [(0, .ref (ad m)), (1, .int (nI (12 * nb))), (2, .long t)]) rfl (fun Z hZl C hR hret hname => ?_)
  refine g_lload_n C d_M_pay_0 rfl 2 rfl ?_
  refine g_lstore C d_M_pay_1 [(4, .long t), (0, .ref (ad m)), (1, .int (nI (12 * nb))), (2, .long t)] (by decide) rfl ?_
  refine g_iconst (v := 0) C d_M_pay_3 (by decide) ?_
  refine g_istore C d_M_pay_4 [(6, .int 0), (4, .long t), (0, .ref (ad m)), (1, .int (nI (12 * nb))), (2, .long t)] (by decide) rfl ?_
  refine g_fewer (lv' := [(0, .ref (ad m)), (1, .int (nI (12 * nb))), (2, .long t), (4, .long t), (6, .int 0)]) [2, 3, 4, 1, 0] rfl ?_
  refine GW_eq (u2 := gup u (m + 13) (.inl ((X.2 1), 768, .inr (.inl (mapO pai (fun j => (parS t (pay j).toInt64 ce.toInt64 63).1) (12 * nb) 0))))) (lv2 := [(0, .ref (ad m)), (1, .int (nI (12 * nb))), (2, .long t), (4, .long (wantS t (fun j => (parS t (pay j).toInt64 ce.toInt64 63).1) 0)), (6, .int (nI 0))]) (by rw [mapO_0, gup_id h_pai]) rfl ?_
  refine g_loop 12 (fun iL13 => True) (fun iL13 => gup u (m + 13) (.inl ((X.2 1), 768, .inr (.inl (mapO pai (fun j => (parS t (pay j).toInt64 ce.toInt64 63).1) (12 * nb) iL13))))) (fun iL13 => [(0, .ref (ad m)), (1, .int (nI (12 * nb))), (2, .long t), (4, .long (wantS t (fun j => (parS t (pay j).toInt64 ce.toInt64 63).1) iL13)), (6, .int (nI iL13))]) (fun iL13 hiL13 piL13 KL13 => ?_) (fun piL13 => ?_) 0 (by omega) trivial
  · skip
    show GW Z _ _ _ ad (gup u (m + 13) (.inl ((X.2 1), 768, .inr (.inl (mapO pai (fun j => (parS t (pay j).toInt64 ce.toInt64 63).1) (12 * nb) iL13))))) _ [(0, .ref (ad m)), (1, .int (nI (12 * nb))), (2, .long t), (4, .long (wantS t (fun j => (parS t (pay j).toInt64 ce.toInt64 63).1) iL13)), (6, .int (nI iL13))] _ _ 6 []
    obtain ⟨wL13s, hwL13s⟩ : ∃ z, z = gup u (m + 13) (.inl ((X.2 1), 768, .inr (.inl (mapO pai (fun j => (parS t (pay j).toInt64 ce.toInt64 63).1) (12 * nb) iL13)))) := ⟨_, rfl⟩
    rw [← hwL13s]
    have hwL13s_0 : wL13s m = some (mO ad m th cl dr wy ce ra li bi) := by rw [hwL13s, gup_ne (by omega)]; exact hm
    have hwL13s_1 : wL13s (m + 4) = some (.inl ((X.2 0), 12, .inl pay)) := by rw [hwL13s, gup_ne (by omega)]; exact h_pay
    have hwL13s_2 : wL13s (m + 13) = some (.inl ((X.2 1), 768, .inr (.inl (mapO pai (fun j => (parS t (pay j).toInt64 ce.toInt64 63).1) (12 * nb) iL13)))) := by rw [hwL13s, gup_self]
    refine g_iload C d_M_pay_6 4 rfl ?_
    refine g_bipush (v := 12) C d_M_pay_8 (by decide) ?_
    refine g_icmp_ge 59 C d_M_pay_10 (by decide) (fun c13s10 => ?_) (fun c13s10 => ?_)
    · exact absurd c13s10 (ge12 hiL13)
    refine g_aload_n C d_M_pay_13 rfl 0 rfl ?_
    refine g_get m 20 C hwL13s_0 rfl i_M (by decide) (gmem wd_538 rfl) rfl rfl d_M_pay_14 ?_
    refine g_iload_n C d_M_pay_17 rfl 1 rfl ?_
    refine g_iload C d_M_pay_18 4 rfl ?_
    refine g_iadd C d_M_pay_20 ?_
    refine g_lload_n C d_M_pay_21 rfl 2 rfl ?_
    refine g_aload_n C d_M_pay_22 rfl 0 rfl ?_
    refine g_get m 9 C hwL13s_0 rfl i_M (by decide) (gmem wd_527 rfl) rfl rfl d_M_pay_23 ?_
    refine g_iload C d_M_pay_26 4 rfl ?_
    refine g_iald (m + 4) 0 C hwL13s_1 rfl (vp_in_nI (by omega) (by decide)) d_M_pay_28 ?_
    rw [show Int32.toNatClampNeg (nI iL13) = iL13 from nI_clamp (by omega)]
    refine g_i2l C d_M_pay_29 ?_
    refine g_aload_n C d_M_pay_30 rfl 0 rfl ?_
    refine g_get m 7 C hwL13s_0 rfl i_M (by decide) (gmem wd_525 rfl) rfl rfl d_M_pay_31 ?_
    refine g_i2l C d_M_pay_34 ?_
    refine g_callS 3 C (k_M_part _ X ad wL13s sz t (Int32.toInt64 (pay iL13)) (Int32.toInt64 ce) hce) (gmem wd_697 rfl) (gmem wd_698 rfl) (gmem wd_4 rfl) (gmem wd_699 rfl) ⟨by decide, by decide, by decide +kernel⟩ ⟨Nat.le_of_ble_eq_true rfl, Nat.le_of_ble_eq_true rfl⟩ rfl rfl (Nat.le_of_ble_eq_true rfl) d_M_pay_35 ⟨Nat.le_of_ble_eq_true rfl, Nat.le_of_ble_eq_true rfl⟩ ?_
    rintro v9 u9 s9 ⟨h9, hu9, hs9⟩; rw [h9, hu9, hs9]; clear h9 hu9 hs9 v9 u9 s9
    show GW Z _ _ _ ad wL13s sz [(0, .ref (ad m)), (1, .int (nI (12 * nb))), (2, .long t), (4, .long (wantS t (fun j => (parS t (pay j).toInt64 ce.toInt64 63).1) iL13)), (6, .int (nI iL13))] 0 0 38 [.long ((parS t (Int32.toInt64 (pay iL13)) (Int32.toInt64 ce) 63).1), .int ((nI (12 * nb)) + (nI iL13)), .ref (ad (m + 13))]
    refine g_topl (fun x13s38 ex13s38 => ?_)
    refine g_last (m + 13) 1 C hwL13s_2 rfl (by rw [atI]; exact vp_in_nI (by omega) (by decide)) d_M_pay_38 ?_
    rw [show Int32.toNatClampNeg ((nI (12 * nb)) + (nI iL13)) = 12 * nb + iL13 from (by rw [atI]; exact nI_clamp (by omega))]
    obtain ⟨u13s1, hu13s1⟩ : ∃ z, z = gup wL13s (m + 13) (.inl ((X.2 1), 768, .inr (.inl (vp_updL (mapO pai (fun j => (parS t (pay j).toInt64 ce.toInt64 63).1) (12 * nb) iL13) (12 * nb + iL13) x13s38)))) := ⟨_, rfl⟩
    rw [← hu13s1]
    have hu13s1_0 : u13s1 m = some (mO ad m th cl dr wy ce ra li bi) := by rw [hu13s1, gup_ne (by omega)]; exact hwL13s_0
    have hu13s1_1 : u13s1 (m + 4) = some (.inl ((X.2 0), 12, .inl pay)) := by rw [hu13s1, gup_ne (by omega)]; exact hwL13s_1
    have hu13s1_2 : u13s1 (m + 13) = some (.inl ((X.2 1), 768, .inr (.inl (vp_updL (mapO pai (fun j => (parS t (pay j).toInt64 ce.toInt64 63).1) (12 * nb) iL13) (12 * nb + iL13) x13s38)))) := by rw [hu13s1]; exact gup_self _ _ _
    refine g_lload C d_M_pay_39 3 rfl ?_
    refine g_aload_n C d_M_pay_41 rfl 0 rfl ?_
    refine g_get m 20 C hu13s1_0 rfl i_M (by decide) (gmem wd_538 rfl) rfl rfl d_M_pay_42 ?_
    refine g_iload_n C d_M_pay_45 rfl 1 rfl ?_
    refine g_iload C d_M_pay_46 4 rfl ?_
    refine g_iadd C d_M_pay_48 ?_
    refine g_lald (m + 13) 1 C hu13s1_2 rfl (by rw [atI]; exact vp_in_nI (by omega) (by decide)) d_M_pay_49 ?_
    rw [show Int32.toNatClampNeg ((nI (12 * nb)) + (nI iL13)) = 12 * nb + iL13 from (by rw [atI]; exact nI_clamp (by omega))]
    refine g_lsub C d_M_pay_50 ?_
    refine g_topl (fun x13s51 ex13s51 => ?_)
    refine g_lstore C d_M_pay_51 [(4, .long x13s51), (0, .ref (ad m)), (1, .int (nI (12 * nb))), (2, .long t), (6, .int (nI iL13))] (by decide) rfl ?_
    obtain ⟨x13s53, ex13s53⟩ : ∃ y : Int32, y = (nI iL13) + 1 := ⟨_, rfl⟩
    refine g_iinc (v := x13s53) C d_M_pay_53 4 rfl (by rw [ex13s53]; rfl) [(6, .int x13s53), (4, .long x13s51), (0, .ref (ad m)), (1, .int (nI (12 * nb))), (2, .long t)] (by decide) rfl ?_
    refine g_goto 6 C d_M_pay_56 (by decide) ?_
    refine g_fewer (lv' := [(0, .ref (ad m)), (1, .int (nI (12 * nb))), (2, .long t), (4, .long x13s51), (6, .int x13s53)]) [2, 3, 4, 1, 0] rfl ?_
    refine GW_eq (u2 := gup u (m + 13) (.inl ((X.2 1), 768, .inr (.inl (mapO pai (fun j => (parS t (pay j).toInt64 ce.toInt64 63).1) (12 * nb) (iL13 + 1)))))) (lv2 := [(0, .ref (ad m)), (1, .int (nI (12 * nb))), (2, .long t), (4, .long (wantS t (fun j => (parS t (pay j).toInt64 ce.toInt64 63).1) (iL13 + 1))), (6, .int (nI (iL13 + 1)))]) ?_ ?_ (KL13 trivial)
    · first | (rw [hu13s1, hwL13s]; done) | (rw [hu13s1, hwL13s]; simp only [ex13s38, ex13s51, ex13s53]; done) | (rw [hu13s1, hwL13s]; simp only [ex13s38, ex13s51, ex13s53]; rw [mapO_s (f := pai) (g := (fun j => (parS t (pay j).toInt64 ce.toInt64 63).1)) (o := 12 * nb) (i := iL13) (x := (parS t (pay iL13).toInt64 ce.toInt64 63).1) rfl]; done) | (rw [hu13s1, hwL13s]; simp only [ex13s38, ex13s51, ex13s53]; rw [mapO_s (f := pai) (g := (fun j => (parS t (pay j).toInt64 ce.toInt64 63).1)) (o := 12 * nb) (i := iL13) (x := (parS t (pay iL13).toInt64 ce.toInt64 63).1) rfl]; funext k; simp only [gup]; (repeat' split) <;> first | with_reducible rfl | (exfalso; omega))
    · simp only [ex13s38, ex13s51, ex13s53, pk_uLs, nI_1, wantS]
  · skip
    show GW Z _ _ _ ad (gup u (m + 13) (.inl ((X.2 1), 768, .inr (.inl (mapO pai (fun j => (parS t (pay j).toInt64 ce.toInt64 63).1) (12 * nb) 12))))) _ [(0, .ref (ad m)), (1, .int (nI (12 * nb))), (2, .long t), (4, .long (wantS t (fun j => (parS t (pay j).toInt64 ce.toInt64 63).1) 12)), (6, .int (nI 12))] _ _ 6 []
    obtain ⟨wL13e, hwL13e⟩ : ∃ z, z = gup u (m + 13) (.inl ((X.2 1), 768, .inr (.inl (mapO pai (fun j => (parS t (pay j).toInt64 ce.toInt64 63).1) (12 * nb) 12)))) := ⟨_, rfl⟩
    rw [← hwL13e]
    have hwL13e_0 : wL13e m = some (mO ad m th cl dr wy ce ra li bi) := by rw [hwL13e, gup_ne (by omega)]; exact hm
    have hwL13e_1 : wL13e (m + 4) = some (.inl ((X.2 0), 12, .inl pay)) := by rw [hwL13e, gup_ne (by omega)]; exact h_pay
    have hwL13e_2 : wL13e (m + 13) = some (.inl ((X.2 1), 768, .inr (.inl (mapO pai (fun j => (parS t (pay j).toInt64 ce.toInt64 63).1) (12 * nb) 12)))) := by rw [hwL13e, gup_self]
    refine g_iload C d_M_pay_6 4 rfl ?_
    refine g_bipush (v := 12) C d_M_pay_8 (by decide) ?_
    refine g_icmp_ge 59 C d_M_pay_10 (by decide) (fun c13e10 => ?_) (fun c13e10 => ?_)
    rotate_left
    · exact absurd (by decide) c13e10
    refine g_iconst (v := 0) C d_M_pay_59 (by decide) ?_
    refine g_istore C d_M_pay_60 [(6, .int 0), (0, .ref (ad m)), (1, .int (nI (12 * nb))), (2, .long t), (4, .long (wantS t (fun j => (parS t (pay j).toInt64 ce.toInt64 63).1) 12))] (by decide) rfl ?_
    refine g_fewer (lv' := [(0, .ref (ad m)), (1, .int (nI (12 * nb))), (4, .long (wantS t (fun j => (parS t (pay j).toInt64 ce.toInt64 63).1) 12)), (6, .int 0)]) [1, 2, 4, 0] rfl ?_
    refine GW_eq (u2 := gup wL13e (m + 13) (.inl ((X.2 1), 768, .inr (.inl (mapO pai (handS (fun j => (pay j).toInt64) 0 (fun j => (parS t (pay j).toInt64 ce.toInt64 63).1) (wantS t (fun j => (parS t (pay j).toInt64 ce.toInt64 63).1) 12) 0).1 (12 * nb) 12))))) (lv2 := [(0, .ref (ad m)), (1, .int (nI (12 * nb))), (4, .long ((handS (fun j => (pay j).toInt64) 0 (fun j => (parS t (pay j).toInt64 ce.toInt64 63).1) (wantS t (fun j => (parS t (pay j).toInt64 ce.toInt64 63).1) 12) 0).2.1)), (6, .int (nI ((0 + 0) % 12)))]) (gup_id hwL13e_2).symm rfl ?_
    refine g_loop 12 (fun iL14 => True) (fun iL14 => gup wL13e (m + 13) (.inl ((X.2 1), 768, .inr (.inl (mapO pai (handS (fun j => (pay j).toInt64) 0 (fun j => (parS t (pay j).toInt64 ce.toInt64 63).1) (wantS t (fun j => (parS t (pay j).toInt64 ce.toInt64 63).1) 12) iL14).1 (12 * nb) 12))))) (fun iL14 => [(0, .ref (ad m)), (1, .int (nI (12 * nb))), (4, .long ((handS (fun j => (pay j).toInt64) 0 (fun j => (parS t (pay j).toInt64 ce.toInt64 63).1) (wantS t (fun j => (parS t (pay j).toInt64 ce.toInt64 63).1) 12) iL14).2.1)), (6, .int (nI ((0 + iL14) % 12)))]) (fun iL14 hiL14 piL14 KL14 => ?_) (fun piL14 => ?_) 0 (by omega) trivial
    · skip
      show GW Z _ _ _ ad (gup wL13e (m + 13) (.inl ((X.2 1), 768, .inr (.inl (mapO pai (handS (fun j => (pay j).toInt64) 0 (fun j => (parS t (pay j).toInt64 ce.toInt64 63).1) (wantS t (fun j => (parS t (pay j).toInt64 ce.toInt64 63).1) 12) iL14).1 (12 * nb) 12))))) _ [(0, .ref (ad m)), (1, .int (nI (12 * nb))), (4, .long ((handS (fun j => (pay j).toInt64) 0 (fun j => (parS t (pay j).toInt64 ce.toInt64 63).1) (wantS t (fun j => (parS t (pay j).toInt64 ce.toInt64 63).1) 12) iL14).2.1)), (6, .int (nI ((0 + iL14) % 12)))] _ _ 62 []
      obtain ⟨wL14s, hwL14s⟩ : ∃ z, z = gup wL13e (m + 13) (.inl ((X.2 1), 768, .inr (.inl (mapO pai (handS (fun j => (pay j).toInt64) 0 (fun j => (parS t (pay j).toInt64 ce.toInt64 63).1) (wantS t (fun j => (parS t (pay j).toInt64 ce.toInt64 63).1) 12) iL14).1 (12 * nb) 12)))) := ⟨_, rfl⟩
      rw [← hwL14s]
      have hwL14s_0 : wL14s m = some (mO ad m th cl dr wy ce ra li bi) := by rw [hwL14s, gup_ne (by omega)]; exact hwL13e_0
      have hwL14s_1 : wL14s (m + 4) = some (.inl ((X.2 0), 12, .inl pay)) := by rw [hwL14s, gup_ne (by omega)]; exact hwL13e_1
      have hwL14s_2 : wL14s (m + 13) = some (.inl ((X.2 1), 768, .inr (.inl (mapO pai (handS (fun j => (pay j).toInt64) 0 (fun j => (parS t (pay j).toInt64 ce.toInt64 63).1) (wantS t (fun j => (parS t (pay j).toInt64 ce.toInt64 63).1) 12) iL14).1 (12 * nb) 12)))) := by rw [hwL14s, gup_self]
      refine g_lload C d_M_pay_62 2 rfl ?_
      refine g_lconst (v := 0) C d_M_pay_64 (by decide) ?_
      refine g_lcmp C d_M_pay_65 ?_
      refine g_if_le 110 C d_M_pay_66 (by decide) (fun c13e14s66 => ?_) (fun c13e14s66 => ?_)
      · rw [lg_cmp_le] at c13e14s66
        exact g_vret C hR hret ⟨rfl, (by rw [handS_froz 12 c13e14s66 (by omega)]; first | (rw [hwL14s, hwL13e]; done) | (rw [hwL14s, hwL13e]; funext k; simp only [gup]; (repeat' split) <;> first | with_reducible rfl | (exfalso; omega))), rfl⟩ d_M_pay_110
      · rw [lg_cmp_le] at c13e14s66
        refine g_aload_n C d_M_pay_69 rfl 0 rfl ?_
        refine g_get m 9 C hwL14s_0 rfl i_M (by decide) (gmem wd_527 rfl) rfl rfl d_M_pay_70 ?_
        refine g_iload C d_M_pay_73 3 rfl ?_
        refine g_iald (m + 4) 0 C hwL14s_1 rfl (vp_in_nI (by omega) (by decide)) d_M_pay_75 ?_
        rw [show Int32.toNatClampNeg (nI ((0 + iL14) % 12)) = ((0 + iL14) % 12) from nI_clamp (by omega)]
        refine g_if_le 98 C d_M_pay_76 (by decide) (fun c13e14s76 => ?_) (fun c13e14s76 => ?_)
        · skip
          refine g_iload C d_M_pay_98 3 rfl ?_
          refine g_iconst (v := 1) C d_M_pay_100 (by decide) ?_
          refine g_iadd C d_M_pay_101 ?_
          refine g_bipush (v := 12) C d_M_pay_102 (by decide) ?_
          refine g_irem C d_M_pay_104 (by decide) ?_
          rw [show (nI ((0 + iL14) % 12) + 1) - (nI ((0 + iL14) % 12) + 1) / 12 * 12 = nI ((0 + (iL14 + 1)) % 12) from (by rw [nI_1]; exact (rem12 (by omega)).trans (congrArg nI (by omega)))]
          refine g_istore C d_M_pay_105 [(6, .int (nI ((0 + (iL14 + 1)) % 12))), (0, .ref (ad m)), (1, .int (nI (12 * nb))), (4, .long ((handS (fun j => (pay j).toInt64) 0 (fun j => (parS t (pay j).toInt64 ce.toInt64 63).1) (wantS t (fun j => (parS t (pay j).toInt64 ce.toInt64 63).1) 12) iL14).2.1))] (by decide) rfl ?_
          refine g_goto 62 C d_M_pay_107 (by decide) ?_
          refine g_fewer (lv' := [(0, .ref (ad m)), (1, .int (nI (12 * nb))), (4, .long ((handS (fun j => (pay j).toInt64) 0 (fun j => (parS t (pay j).toInt64 ce.toInt64 63).1) (wantS t (fun j => (parS t (pay j).toInt64 ce.toInt64 63).1) 12) iL14).2.1)), (6, .int (nI ((0 + (iL14 + 1)) % 12)))]) [1, 2, 3, 0] rfl ?_
          refine GW_eq (u2 := gup wL13e (m + 13) (.inl ((X.2 1), 768, .inr (.inl (mapO pai (handS (fun j => (pay j).toInt64) 0 (fun j => (parS t (pay j).toInt64 ce.toInt64 63).1) (wantS t (fun j => (parS t (pay j).toInt64 ce.toInt64 63).1) 12) (iL14 + 1)).1 (12 * nb) 12))))) (lv2 := [(0, .ref (ad m)), (1, .int (nI (12 * nb))), (4, .long ((handS (fun j => (pay j).toInt64) 0 (fun j => (parS t (pay j).toInt64 ce.toInt64 63).1) (wantS t (fun j => (parS t (pay j).toInt64 ce.toInt64 63).1) 12) (iL14 + 1)).2.1)), (6, .int (nI ((0 + (iL14 + 1)) % 12)))]) ?_ ?_ (KL14 trivial)
          · first | (rw [hwL14s]; done) | (rw [hwL14s]; rw [handS_f2 (w := (fun j => (pay j).toInt64)) (i64_le0.mpr c13e14s76)]; done) | (rw [hwL14s]; rw [handS_f2 (w := (fun j => (pay j).toInt64)) (i64_le0.mpr c13e14s76)]; simp only [nI_0, mapO_at (show (0 + iL14) % 12 < 12 by omega)]; done) | (rw [hwL14s]; rw [handS_f2 (w := (fun j => (pay j).toInt64)) (i64_le0.mpr c13e14s76)]; simp only [nI_0, mapO_at (show (0 + iL14) % 12 < 12 by omega)]; rw [mapO_u (by omega)]; done) | (rw [hwL14s]; rw [handS_f2 (w := (fun j => (pay j).toInt64)) (i64_le0.mpr c13e14s76)]; simp only [nI_0, mapO_at (show (0 + iL14) % 12 < 12 by omega)]; rw [mapO_u (by omega)]; funext k; simp only [gup]; (repeat' split) <;> first | with_reducible rfl | (exfalso; omega))
          · rw [handS_f2 (w := (fun j => (pay j).toInt64)) (i64_le0.mpr c13e14s76)]; try simp only [nI_0]
        · skip
          refine g_aload_n C d_M_pay_79 rfl 0 rfl ?_
          refine g_get m 20 C hwL14s_0 rfl i_M (by decide) (gmem wd_538 rfl) rfl rfl d_M_pay_80 ?_
          refine g_iload_n C d_M_pay_83 rfl 1 rfl ?_
          refine g_iload C d_M_pay_84 3 rfl ?_
          refine g_iadd C d_M_pay_86 ?_
          refine g_dup2_11 C d_M_pay_87 rfl rfl ?_
          refine g_lald (m + 13) 1 C hwL14s_2 rfl (by rw [atI]; exact vp_in_nI (by omega) (by decide)) d_M_pay_88 ?_
          rw [show Int32.toNatClampNeg ((nI (12 * nb)) + (nI ((0 + iL14) % 12))) = 12 * nb + (0 + iL14) % 12 from (by rw [atI]; exact nI_clamp (by omega))]
          refine g_lconst (v := 1) C d_M_pay_89 (by decide) ?_
          refine g_ladd C d_M_pay_90 ?_
          refine g_topl (fun x13e14s91 ex13e14s91 => ?_)
          refine g_last (m + 13) 1 C hwL14s_2 rfl (by rw [atI]; exact vp_in_nI (by omega) (by decide)) d_M_pay_91 ?_
          rw [show Int32.toNatClampNeg ((nI (12 * nb)) + (nI ((0 + iL14) % 12))) = 12 * nb + (0 + iL14) % 12 from (by rw [atI]; exact nI_clamp (by omega))]
          obtain ⟨u13e14s2, hu13e14s2⟩ : ∃ z, z = gup wL14s (m + 13) (.inl ((X.2 1), 768, .inr (.inl (vp_updL (mapO pai (handS (fun j => (pay j).toInt64) 0 (fun j => (parS t (pay j).toInt64 ce.toInt64 63).1) (wantS t (fun j => (parS t (pay j).toInt64 ce.toInt64 63).1) 12) iL14).1 (12 * nb) 12) (12 * nb + (0 + iL14) % 12) x13e14s91)))) := ⟨_, rfl⟩
          rw [← hu13e14s2]
          have hu13e14s2_0 : u13e14s2 m = some (mO ad m th cl dr wy ce ra li bi) := by rw [hu13e14s2, gup_ne (by omega)]; exact hwL14s_0
          have hu13e14s2_1 : u13e14s2 (m + 4) = some (.inl ((X.2 0), 12, .inl pay)) := by rw [hu13e14s2, gup_ne (by omega)]; exact hwL14s_1
          have hu13e14s2_2 : u13e14s2 (m + 13) = some (.inl ((X.2 1), 768, .inr (.inl (vp_updL (mapO pai (handS (fun j => (pay j).toInt64) 0 (fun j => (parS t (pay j).toInt64 ce.toInt64 63).1) (wantS t (fun j => (parS t (pay j).toInt64 ce.toInt64 63).1) 12) iL14).1 (12 * nb) 12) (12 * nb + (0 + iL14) % 12) x13e14s91)))) := by rw [hu13e14s2]; exact gup_self _ _ _
          refine g_lload C d_M_pay_92 2 rfl ?_
          refine g_lconst (v := 1) C d_M_pay_94 (by decide) ?_
          refine g_lsub C d_M_pay_95 ?_
          refine g_topl (fun x13e14s96 ex13e14s96 => ?_)
          refine g_lstore C d_M_pay_96 [(4, .long x13e14s96), (0, .ref (ad m)), (1, .int (nI (12 * nb))), (6, .int (nI ((0 + iL14) % 12)))] (by decide) rfl ?_
          refine g_iload C d_M_pay_98 3 rfl ?_
          refine g_iconst (v := 1) C d_M_pay_100 (by decide) ?_
          refine g_iadd C d_M_pay_101 ?_
          refine g_bipush (v := 12) C d_M_pay_102 (by decide) ?_
          refine g_irem C d_M_pay_104 (by decide) ?_
          rw [show (nI ((0 + iL14) % 12) + 1) - (nI ((0 + iL14) % 12) + 1) / 12 * 12 = nI ((0 + (iL14 + 1)) % 12) from (by rw [nI_1]; exact (rem12 (by omega)).trans (congrArg nI (by omega)))]
          refine g_istore C d_M_pay_105 [(6, .int (nI ((0 + (iL14 + 1)) % 12))), (4, .long x13e14s96), (0, .ref (ad m)), (1, .int (nI (12 * nb)))] (by decide) rfl ?_
          refine g_goto 62 C d_M_pay_107 (by decide) ?_
          refine g_fewer (lv' := [(0, .ref (ad m)), (1, .int (nI (12 * nb))), (4, .long x13e14s96), (6, .int (nI ((0 + (iL14 + 1)) % 12)))]) [2, 3, 1, 0] rfl ?_
          refine GW_eq (u2 := gup wL13e (m + 13) (.inl ((X.2 1), 768, .inr (.inl (mapO pai (handS (fun j => (pay j).toInt64) 0 (fun j => (parS t (pay j).toInt64 ce.toInt64 63).1) (wantS t (fun j => (parS t (pay j).toInt64 ce.toInt64 63).1) 12) (iL14 + 1)).1 (12 * nb) 12))))) (lv2 := [(0, .ref (ad m)), (1, .int (nI (12 * nb))), (4, .long ((handS (fun j => (pay j).toInt64) 0 (fun j => (parS t (pay j).toInt64 ce.toInt64 63).1) (wantS t (fun j => (parS t (pay j).toInt64 ce.toInt64 63).1) 12) (iL14 + 1)).2.1)), (6, .int (nI ((0 + (iL14 + 1)) % 12)))]) ?_ ?_ (KL14 trivial)
          · first | (rw [hu13e14s2, hwL14s]; done) | (rw [hu13e14s2, hwL14s]; rw [handS_t (w := (fun j => (pay j).toInt64)) c13e14s66 (mt i64_le0.mp c13e14s76)]; done) | (rw [hu13e14s2, hwL14s]; rw [handS_t (w := (fun j => (pay j).toInt64)) c13e14s66 (mt i64_le0.mp c13e14s76)]; simp only [ex13e14s91, ex13e14s96, mapO_at (show (0 + iL14) % 12 < 12 by omega)]; done) | (rw [hu13e14s2, hwL14s]; rw [handS_t (w := (fun j => (pay j).toInt64)) c13e14s66 (mt i64_le0.mp c13e14s76)]; simp only [ex13e14s91, ex13e14s96, mapO_at (show (0 + iL14) % 12 < 12 by omega)]; rw [mapO_u (by omega)]; done) | (rw [hu13e14s2, hwL14s]; rw [handS_t (w := (fun j => (pay j).toInt64)) c13e14s66 (mt i64_le0.mp c13e14s76)]; simp only [ex13e14s91, ex13e14s96, mapO_at (show (0 + iL14) % 12 < 12 by omega)]; rw [mapO_u (by omega)]; funext k; simp only [gup]; (repeat' split) <;> first | with_reducible rfl | (exfalso; omega))
          · rw [handS_t (w := (fun j => (pay j).toInt64)) c13e14s66 (mt i64_le0.mp c13e14s76)]; try simp only [ex13e14s91, ex13e14s96]
    · skip
      show GW Z _ _ _ ad (gup wL13e (m + 13) (.inl ((X.2 1), 768, .inr (.inl (mapO pai (handS (fun j => (pay j).toInt64) 0 (fun j => (parS t (pay j).toInt64 ce.toInt64 63).1) (wantS t (fun j => (parS t (pay j).toInt64 ce.toInt64 63).1) 12) 12).1 (12 * nb) 12))))) _ [(0, .ref (ad m)), (1, .int (nI (12 * nb))), (4, .long ((handS (fun j => (pay j).toInt64) 0 (fun j => (parS t (pay j).toInt64 ce.toInt64 63).1) (wantS t (fun j => (parS t (pay j).toInt64 ce.toInt64 63).1) 12) 12).2.1)), (6, .int (nI ((0 + 12) % 12)))] _ _ 62 []
      obtain ⟨wL14e, hwL14e⟩ : ∃ z, z = gup wL13e (m + 13) (.inl ((X.2 1), 768, .inr (.inl (mapO pai (handS (fun j => (pay j).toInt64) 0 (fun j => (parS t (pay j).toInt64 ce.toInt64 63).1) (wantS t (fun j => (parS t (pay j).toInt64 ce.toInt64 63).1) 12) 12).1 (12 * nb) 12)))) := ⟨_, rfl⟩
      rw [← hwL14e]
      have hwL14e_0 : wL14e m = some (mO ad m th cl dr wy ce ra li bi) := by rw [hwL14e, gup_ne (by omega)]; exact hwL13e_0
      have hwL14e_1 : wL14e (m + 4) = some (.inl ((X.2 0), 12, .inl pay)) := by rw [hwL14e, gup_ne (by omega)]; exact hwL13e_1
      have hwL14e_2 : wL14e (m + 13) = some (.inl ((X.2 1), 768, .inr (.inl (mapO pai (handS (fun j => (pay j).toInt64) 0 (fun j => (parS t (pay j).toInt64 ce.toInt64 63).1) (wantS t (fun j => (parS t (pay j).toInt64 ce.toInt64 63).1) 12) 12).1 (12 * nb) 12)))) := by rw [hwL14e, gup_self]
      refine g_lload C d_M_pay_62 2 rfl ?_
      refine g_lconst (v := 0) C d_M_pay_64 (by decide) ?_
      refine g_lcmp C d_M_pay_65 ?_
      refine g_if_le 110 C d_M_pay_66 (by decide) (fun c13e14e66 => ?_) (fun c13e14e66 => ?_)
      rotate_left
      · rw [lg_cmp_le] at c13e14e66; exact absurd hend c13e14e66
      exact g_vret C hR hret ⟨rfl, (by first | (rw [hwL14e, hwL13e]; done) | (rw [hwL14e, hwL13e]; funext k; simp only [gup]; (repeat' split) <;> first | with_reducible rfl | (exfalso; omega))), rfl⟩ d_M_pay_110

set_option maxHeartbeats 4000000 in
set_option maxRecDepth 100000 in
theorem k_M_share (l : Launch) (X : gX) (ad : Nat → Nat) (u : gW) (sz : Nat) (m : Nat) (th cl dr wy ce ra li bi : Int32) (mar : Nat → Int32) (hea sha : Nat → Int64) (nb s0 : Nat) (t all : Int64) (hm : u m = some (mO ad m th cl dr wy ce ra li bi)) (h_mar : u (m + 2) = some (.inl ((X.2 0), 4, .inl mar))) (h_hea : u (m + 8) = some (.inl ((X.2 1), 12, .inr (.inl hea)))) (h_sha : u (m + 12) = some (.inl ((X.2 1), 768, .inr (.inl sha)))) (hn64 : nb < 64) (hall : ¬ all = 0) (hd : vp_in dr 4) (hs0 : s0 < 12) (hmk : mar dr.toNatClampNeg = nI s0) (hend : (handS hea s0 (fun j => (parS t (hea j) all 63).1) (wantS t (fun j => (parS t (hea j) all 63).1) 12) 12).2.1 ≤ 0) : gMet l (EE X) y_M_share c_M_share 9 none ({ frames := 1, cells := 0, slots := 0, locals := 30 }) [.ref (ad m), .int (nI (12 * nb)), .long t, .long all] ad u sz (fun v u' sz' => v = none ∧ u' = gup (gup u (m + 12) (.inl ((X.2 1), 768, .inr (.inl (mapO sha (handS hea s0 (fun j => (parS t (hea j) all 63).1) (wantS t (fun j => (parS t (hea j) all 63).1) 12) 12).1 (12 * nb) 12))))) (m + 2) (.inl ((X.2 0), 4, .inl (upd mar dr.toNatClampNeg (nI (handS hea s0 (fun j => (parS t (hea j) all 63).1) (wantS t (fun j => (parS t (hea j) all 63).1) 12) 12).2.2)))) ∧ sz' = sz) := by
  refine gMet_of "ExpenseClubsModel" rfl (by decide) (Nat.le_of_ble_eq_true rfl) (lv := [(0, .ref (ad m)), (1, .int (nI (12 * nb))), (2, .long t), (4, .long all)]) rfl (fun Z hZl C hR hret hname => ?_)
  refine g_lload_n C d_M_share_0 rfl 2 rfl ?_
  refine g_lstore C d_M_share_1 [(6, .long t), (0, .ref (ad m)), (1, .int (nI (12 * nb))), (2, .long t), (4, .long all)] (by decide) rfl ?_
  refine g_iconst (v := 0) C d_M_share_3 (by decide) ?_
  refine g_istore C d_M_share_4 [(8, .int 0), (6, .long t), (0, .ref (ad m)), (1, .int (nI (12 * nb))), (2, .long t), (4, .long all)] (by decide) rfl ?_
  refine g_fewer (lv' := [(0, .ref (ad m)), (1, .int (nI (12 * nb))), (2, .long t), (4, .long all), (6, .long t), (8, .int 0)]) [2, 3, 4, 5, 1, 0] rfl ?_
  refine GW_eq (u2 := gup u (m + 12) (.inl ((X.2 1), 768, .inr (.inl (mapO sha (fun j => (parS t (hea j) all 63).1) (12 * nb) 0))))) (lv2 := [(0, .ref (ad m)), (1, .int (nI (12 * nb))), (2, .long t), (4, .long all), (6, .long (wantS t (fun j => (parS t (hea j) all 63).1) 0)), (8, .int (nI 0))]) (by rw [mapO_0, gup_id h_sha]) rfl ?_
  refine g_loop 12 (fun iL15 => True) (fun iL15 => gup u (m + 12) (.inl ((X.2 1), 768, .inr (.inl (mapO sha (fun j => (parS t (hea j) all 63).1) (12 * nb) iL15))))) (fun iL15 => [(0, .ref (ad m)), (1, .int (nI (12 * nb))), (2, .long t), (4, .long all), (6, .long (wantS t (fun j => (parS t (hea j) all 63).1) iL15)), (8, .int (nI iL15))]) (fun iL15 hiL15 piL15 KL15 => ?_) (fun piL15 => ?_) 0 (by omega) trivial
  · skip
    show GW Z _ _ _ ad (gup u (m + 12) (.inl ((X.2 1), 768, .inr (.inl (mapO sha (fun j => (parS t (hea j) all 63).1) (12 * nb) iL15))))) _ [(0, .ref (ad m)), (1, .int (nI (12 * nb))), (2, .long t), (4, .long all), (6, .long (wantS t (fun j => (parS t (hea j) all 63).1) iL15)), (8, .int (nI iL15))] _ _ 6 []
    obtain ⟨wL15s, hwL15s⟩ : ∃ z, z = gup u (m + 12) (.inl ((X.2 1), 768, .inr (.inl (mapO sha (fun j => (parS t (hea j) all 63).1) (12 * nb) iL15)))) := ⟨_, rfl⟩
    rw [← hwL15s]
    have hwL15s_0 : wL15s m = some (mO ad m th cl dr wy ce ra li bi) := by rw [hwL15s, gup_ne (by omega)]; exact hm
    have hwL15s_1 : wL15s (m + 2) = some (.inl ((X.2 0), 4, .inl mar)) := by rw [hwL15s, gup_ne (by omega)]; exact h_mar
    have hwL15s_2 : wL15s (m + 8) = some (.inl ((X.2 1), 12, .inr (.inl hea))) := by rw [hwL15s, gup_ne (by omega)]; exact h_hea
    have hwL15s_3 : wL15s (m + 12) = some (.inl ((X.2 1), 768, .inr (.inl (mapO sha (fun j => (parS t (hea j) all 63).1) (12 * nb) iL15)))) := by rw [hwL15s, gup_self]
    refine g_iload C d_M_share_6 5 rfl ?_
    refine g_bipush (v := 12) C d_M_share_8 (by decide) ?_
    refine g_icmp_ge 55 C d_M_share_10 (by decide) (fun c15s10 => ?_) (fun c15s10 => ?_)
    · exact absurd c15s10 (ge12 hiL15)
    refine g_aload_n C d_M_share_13 rfl 0 rfl ?_
    refine g_get m 19 C hwL15s_0 rfl i_M (by decide) (gmem wd_537 rfl) rfl rfl d_M_share_14 ?_
    refine g_iload_n C d_M_share_17 rfl 1 rfl ?_
    refine g_iload C d_M_share_18 5 rfl ?_
    refine g_iadd C d_M_share_20 ?_
    refine g_lload_n C d_M_share_21 rfl 2 rfl ?_
    refine g_aload_n C d_M_share_22 rfl 0 rfl ?_
    refine g_get m 14 C hwL15s_0 rfl i_M (by decide) (gmem wd_532 rfl) rfl rfl d_M_share_23 ?_
    refine g_iload C d_M_share_26 5 rfl ?_
    refine g_lald (m + 8) 1 C hwL15s_2 rfl (vp_in_nI (by omega) (by decide)) d_M_share_28 ?_
    rw [show Int32.toNatClampNeg (nI iL15) = iL15 from nI_clamp (by omega)]
    refine g_lload C d_M_share_29 3 rfl ?_
    refine g_callS 3 C (k_M_part _ X ad wL15s sz t (hea iL15) all hall) (gmem wd_697 rfl) (gmem wd_698 rfl) (gmem wd_4 rfl) (gmem wd_699 rfl) ⟨by decide, by decide, by decide +kernel⟩ ⟨Nat.le_of_ble_eq_true rfl, Nat.le_of_ble_eq_true rfl⟩ rfl rfl (Nat.le_of_ble_eq_true rfl) d_M_share_31 ⟨Nat.le_of_ble_eq_true rfl, Nat.le_of_ble_eq_true rfl⟩ ?_
    rintro v9 u9 s9 ⟨h9, hu9, hs9⟩; rw [h9, hu9, hs9]; clear h9 hu9 hs9 v9 u9 s9
    show GW Z _ _ _ ad wL15s sz [(0, .ref (ad m)), (1, .int (nI (12 * nb))), (2, .long t), (4, .long all), (6, .long (wantS t (fun j => (parS t (hea j) all 63).1) iL15)), (8, .int (nI iL15))] 0 0 34 [.long ((parS t (hea iL15) all 63).1), .int ((nI (12 * nb)) + (nI iL15)), .ref (ad (m + 12))]
    refine g_topl (fun x15s34 ex15s34 => ?_)
    refine g_last (m + 12) 1 C hwL15s_3 rfl (by rw [atI]; exact vp_in_nI (by omega) (by decide)) d_M_share_34 ?_
    rw [show Int32.toNatClampNeg ((nI (12 * nb)) + (nI iL15)) = 12 * nb + iL15 from (by rw [atI]; exact nI_clamp (by omega))]
    obtain ⟨u15s1, hu15s1⟩ : ∃ z, z = gup wL15s (m + 12) (.inl ((X.2 1), 768, .inr (.inl (vp_updL (mapO sha (fun j => (parS t (hea j) all 63).1) (12 * nb) iL15) (12 * nb + iL15) x15s34)))) := ⟨_, rfl⟩
    rw [← hu15s1]
    have hu15s1_0 : u15s1 m = some (mO ad m th cl dr wy ce ra li bi) := by rw [hu15s1, gup_ne (by omega)]; exact hwL15s_0
    have hu15s1_1 : u15s1 (m + 2) = some (.inl ((X.2 0), 4, .inl mar)) := by rw [hu15s1, gup_ne (by omega)]; exact hwL15s_1
    have hu15s1_2 : u15s1 (m + 8) = some (.inl ((X.2 1), 12, .inr (.inl hea))) := by rw [hu15s1, gup_ne (by omega)]; exact hwL15s_2
    have hu15s1_3 : u15s1 (m + 12) = some (.inl ((X.2 1), 768, .inr (.inl (vp_updL (mapO sha (fun j => (parS t (hea j) all 63).1) (12 * nb) iL15) (12 * nb + iL15) x15s34)))) := by rw [hu15s1]; exact gup_self _ _ _
    refine g_lload C d_M_share_35 4 rfl ?_
    refine g_aload_n C d_M_share_37 rfl 0 rfl ?_
    refine g_get m 19 C hu15s1_0 rfl i_M (by decide) (gmem wd_537 rfl) rfl rfl d_M_share_38 ?_
    refine g_iload_n C d_M_share_41 rfl 1 rfl ?_
    refine g_iload C d_M_share_42 5 rfl ?_
    refine g_iadd C d_M_share_44 ?_
    refine g_lald (m + 12) 1 C hu15s1_3 rfl (by rw [atI]; exact vp_in_nI (by omega) (by decide)) d_M_share_45 ?_
    rw [show Int32.toNatClampNeg ((nI (12 * nb)) + (nI iL15)) = 12 * nb + iL15 from (by rw [atI]; exact nI_clamp (by omega))]
    refine g_lsub C d_M_share_46 ?_
    refine g_topl (fun x15s47 ex15s47 => ?_)
    refine g_lstore C d_M_share_47 [(6, .long x15s47), (0, .ref (ad m)), (1, .int (nI (12 * nb))), (2, .long t), (4, .long all), (8, .int (nI iL15))] (by decide) rfl ?_
    obtain ⟨x15s49, ex15s49⟩ : ∃ y : Int32, y = (nI iL15) + 1 := ⟨_, rfl⟩
    refine g_iinc (v := x15s49) C d_M_share_49 5 rfl (by rw [ex15s49]; rfl) [(8, .int x15s49), (6, .long x15s47), (0, .ref (ad m)), (1, .int (nI (12 * nb))), (2, .long t), (4, .long all)] (by decide) rfl ?_
    refine g_goto 6 C d_M_share_52 (by decide) ?_
    refine g_fewer (lv' := [(0, .ref (ad m)), (1, .int (nI (12 * nb))), (2, .long t), (4, .long all), (6, .long x15s47), (8, .int x15s49)]) [2, 3, 4, 5, 1, 0] rfl ?_
    refine GW_eq (u2 := gup u (m + 12) (.inl ((X.2 1), 768, .inr (.inl (mapO sha (fun j => (parS t (hea j) all 63).1) (12 * nb) (iL15 + 1)))))) (lv2 := [(0, .ref (ad m)), (1, .int (nI (12 * nb))), (2, .long t), (4, .long all), (6, .long (wantS t (fun j => (parS t (hea j) all 63).1) (iL15 + 1))), (8, .int (nI (iL15 + 1)))]) ?_ ?_ (KL15 trivial)
    · first | (rw [hu15s1, hwL15s]; done) | (rw [hu15s1, hwL15s]; simp only [ex15s34, ex15s47, ex15s49]; done) | (rw [hu15s1, hwL15s]; simp only [ex15s34, ex15s47, ex15s49]; rw [mapO_s (f := sha) (g := (fun j => (parS t (hea j) all 63).1)) (o := 12 * nb) (i := iL15) (x := (parS t (hea iL15) all 63).1) rfl]; done) | (rw [hu15s1, hwL15s]; simp only [ex15s34, ex15s47, ex15s49]; rw [mapO_s (f := sha) (g := (fun j => (parS t (hea j) all 63).1)) (o := 12 * nb) (i := iL15) (x := (parS t (hea iL15) all 63).1) rfl]; funext k; simp only [gup]; (repeat' split) <;> first | with_reducible rfl | (exfalso; omega))
    · simp only [ex15s34, ex15s47, ex15s49, pk_uLs, nI_1, wantS]
  · skip
    show GW Z _ _ _ ad (gup u (m + 12) (.inl ((X.2 1), 768, .inr (.inl (mapO sha (fun j => (parS t (hea j) all 63).1) (12 * nb) 12))))) _ [(0, .ref (ad m)), (1, .int (nI (12 * nb))), (2, .long t), (4, .long all), (6, .long (wantS t (fun j => (parS t (hea j) all 63).1) 12)), (8, .int (nI 12))] _ _ 6 []
    obtain ⟨wL15e, hwL15e⟩ : ∃ z, z = gup u (m + 12) (.inl ((X.2 1), 768, .inr (.inl (mapO sha (fun j => (parS t (hea j) all 63).1) (12 * nb) 12)))) := ⟨_, rfl⟩
    rw [← hwL15e]
    have hwL15e_0 : wL15e m = some (mO ad m th cl dr wy ce ra li bi) := by rw [hwL15e, gup_ne (by omega)]; exact hm
    have hwL15e_1 : wL15e (m + 2) = some (.inl ((X.2 0), 4, .inl mar)) := by rw [hwL15e, gup_ne (by omega)]; exact h_mar
    have hwL15e_2 : wL15e (m + 8) = some (.inl ((X.2 1), 12, .inr (.inl hea))) := by rw [hwL15e, gup_ne (by omega)]; exact h_hea
    have hwL15e_3 : wL15e (m + 12) = some (.inl ((X.2 1), 768, .inr (.inl (mapO sha (fun j => (parS t (hea j) all 63).1) (12 * nb) 12)))) := by rw [hwL15e, gup_self]
    refine g_iload C d_M_share_6 5 rfl ?_
    refine g_bipush (v := 12) C d_M_share_8 (by decide) ?_
    refine g_icmp_ge 55 C d_M_share_10 (by decide) (fun c15e10 => ?_) (fun c15e10 => ?_)
    rotate_left
    · exact absurd (by decide) c15e10
    refine g_aload_n C d_M_share_55 rfl 0 rfl ?_
    refine g_get m 3 C hwL15e_0 rfl i_M (by decide) (gmem wd_521 rfl) rfl rfl d_M_share_56 ?_
    refine g_aload_n C d_M_share_59 rfl 0 rfl ?_
    refine g_get m 5 C hwL15e_0 rfl i_M (by decide) (gmem wd_523 rfl) rfl rfl d_M_share_60 ?_
    refine g_iald (m + 2) 0 C hwL15e_1 rfl hd d_M_share_63 ?_
    refine g_topi (fun x15e64 ex15e64 => ?_)
    refine g_istore C d_M_share_64 [(8, .int x15e64), (0, .ref (ad m)), (1, .int (nI (12 * nb))), (2, .long t), (4, .long all), (6, .long (wantS t (fun j => (parS t (hea j) all 63).1) 12))] (by decide) rfl ?_
    refine g_fewer (lv' := [(0, .ref (ad m)), (1, .int (nI (12 * nb))), (6, .long (wantS t (fun j => (parS t (hea j) all 63).1) 12)), (8, .int x15e64)]) [1, 2, 5, 0] rfl ?_
    refine GW_eq (u2 := gup (gup wL15e (m + 12) (.inl ((X.2 1), 768, .inr (.inl (mapO sha (handS hea s0 (fun j => (parS t (hea j) all 63).1) (wantS t (fun j => (parS t (hea j) all 63).1) 12) 0).1 (12 * nb) 12))))) (m + 2) (.inl ((X.2 0), 4, .inl (upd mar dr.toNatClampNeg (nI (handS hea s0 (fun j => (parS t (hea j) all 63).1) (wantS t (fun j => (parS t (hea j) all 63).1) 12) 0).2.2))))) (lv2 := [(0, .ref (ad m)), (1, .int (nI (12 * nb))), (6, .long ((handS hea s0 (fun j => (parS t (hea j) all 63).1) (wantS t (fun j => (parS t (hea j) all 63).1) 12) 0).2.1)), (8, .int (nI ((s0 + 0) % 12)))]) (by rw [gup_id (show wL15e (m + 12) = some (.inl ((X.2 1), 768, .inr (.inl (mapO sha (handS hea s0 (fun j => (parS t (hea j) all 63).1) (wantS t (fun j => (parS t (hea j) all 63).1) 12) 0).1 (12 * nb) 12)))) from hwL15e_3), gup_id (show wL15e (m + 2) = some (.inl ((X.2 0), 4, .inl (upd mar dr.toNatClampNeg (nI (handS hea s0 (fun j => (parS t (hea j) all 63).1) (wantS t (fun j => (parS t (hea j) all 63).1) 12) 0).2.2)))) from (hwL15e_1.trans (congrArg (fun z => some (Sum.inl (X.2 0, 4, Sum.inl z))) (upd_id hmk).symm)))]) (by simp only [ex15e64, hmk, Nat.mod_eq_of_lt hs0, Nat.add_zero]; rfl) ?_
    refine g_loop 12 (fun iL16 => True) (fun iL16 => gup (gup wL15e (m + 12) (.inl ((X.2 1), 768, .inr (.inl (mapO sha (handS hea s0 (fun j => (parS t (hea j) all 63).1) (wantS t (fun j => (parS t (hea j) all 63).1) 12) iL16).1 (12 * nb) 12))))) (m + 2) (.inl ((X.2 0), 4, .inl (upd mar dr.toNatClampNeg (nI (handS hea s0 (fun j => (parS t (hea j) all 63).1) (wantS t (fun j => (parS t (hea j) all 63).1) 12) iL16).2.2))))) (fun iL16 => [(0, .ref (ad m)), (1, .int (nI (12 * nb))), (6, .long ((handS hea s0 (fun j => (parS t (hea j) all 63).1) (wantS t (fun j => (parS t (hea j) all 63).1) 12) iL16).2.1)), (8, .int (nI ((s0 + iL16) % 12)))]) (fun iL16 hiL16 piL16 KL16 => ?_) (fun piL16 => ?_) 0 (by omega) trivial
    · skip
      show GW Z _ _ _ ad (gup (gup wL15e (m + 12) (.inl ((X.2 1), 768, .inr (.inl (mapO sha (handS hea s0 (fun j => (parS t (hea j) all 63).1) (wantS t (fun j => (parS t (hea j) all 63).1) 12) iL16).1 (12 * nb) 12))))) (m + 2) (.inl ((X.2 0), 4, .inl (upd mar dr.toNatClampNeg (nI (handS hea s0 (fun j => (parS t (hea j) all 63).1) (wantS t (fun j => (parS t (hea j) all 63).1) 12) iL16).2.2))))) _ [(0, .ref (ad m)), (1, .int (nI (12 * nb))), (6, .long ((handS hea s0 (fun j => (parS t (hea j) all 63).1) (wantS t (fun j => (parS t (hea j) all 63).1) 12) iL16).2.1)), (8, .int (nI ((s0 + iL16) % 12)))] _ _ 66 []
      obtain ⟨wL16s, hwL16s⟩ : ∃ z, z = gup (gup wL15e (m + 12) (.inl ((X.2 1), 768, .inr (.inl (mapO sha (handS hea s0 (fun j => (parS t (hea j) all 63).1) (wantS t (fun j => (parS t (hea j) all 63).1) 12) iL16).1 (12 * nb) 12))))) (m + 2) (.inl ((X.2 0), 4, .inl (upd mar dr.toNatClampNeg (nI (handS hea s0 (fun j => (parS t (hea j) all 63).1) (wantS t (fun j => (parS t (hea j) all 63).1) 12) iL16).2.2)))) := ⟨_, rfl⟩
      rw [← hwL16s]
      have hwL16s_0 : wL16s m = some (mO ad m th cl dr wy ce ra li bi) := by rw [hwL16s, gup_ne (by omega), gup_ne (by omega)]; exact hwL15e_0
      have hwL16s_1 : wL16s (m + 2) = some (.inl ((X.2 0), 4, .inl (upd mar dr.toNatClampNeg (nI (handS hea s0 (fun j => (parS t (hea j) all 63).1) (wantS t (fun j => (parS t (hea j) all 63).1) 12) iL16).2.2)))) := by rw [hwL16s, gup_self]
      have hwL16s_2 : wL16s (m + 8) = some (.inl ((X.2 1), 12, .inr (.inl hea))) := by rw [hwL16s, gup_ne (by omega), gup_ne (by omega)]; exact hwL15e_2
      have hwL16s_3 : wL16s (m + 12) = some (.inl ((X.2 1), 768, .inr (.inl (mapO sha (handS hea s0 (fun j => (parS t (hea j) all 63).1) (wantS t (fun j => (parS t (hea j) all 63).1) 12) iL16).1 (12 * nb) 12)))) := by rw [hwL16s, gup_ne (by omega), gup_self]
      refine g_lload C d_M_share_66 2 rfl ?_
      refine g_lconst (v := 0) C d_M_share_68 (by decide) ?_
      refine g_lcmp C d_M_share_69 ?_
      refine g_if_le 132 C d_M_share_70 (by decide) (fun c15e16s70 => ?_) (fun c15e16s70 => ?_)
      · rw [lg_cmp_le] at c15e16s70
        exact g_vret C hR hret ⟨rfl, (by rw [handS_froz 12 c15e16s70 (by omega)]; first | (rw [hwL16s, hwL15e]; done) | (rw [hwL16s, hwL15e]; funext k; simp only [gup]; (repeat' split) <;> first | with_reducible rfl | (exfalso; omega))), rfl⟩ d_M_share_132
      · rw [lg_cmp_le] at c15e16s70
        refine g_aload_n C d_M_share_73 rfl 0 rfl ?_
        refine g_get m 14 C hwL16s_0 rfl i_M (by decide) (gmem wd_532 rfl) rfl rfl d_M_share_74 ?_
        refine g_iload C d_M_share_77 3 rfl ?_
        refine g_lald (m + 8) 1 C hwL16s_2 rfl (vp_in_nI (by omega) (by decide)) d_M_share_79 ?_
        rw [show Int32.toNatClampNeg (nI ((s0 + iL16) % 12)) = ((s0 + iL16) % 12) from nI_clamp (by omega)]
        refine g_lconst (v := 0) C d_M_share_80 (by decide) ?_
        refine g_lcmp C d_M_share_81 ?_
        refine g_if_le 120 C d_M_share_82 (by decide) (fun c15e16s82 => ?_) (fun c15e16s82 => ?_)
        · rw [lg_cmp_le] at c15e16s82
          refine g_iload C d_M_share_120 3 rfl ?_
          refine g_iconst (v := 1) C d_M_share_122 (by decide) ?_
          refine g_iadd C d_M_share_123 ?_
          refine g_bipush (v := 12) C d_M_share_124 (by decide) ?_
          refine g_irem C d_M_share_126 (by decide) ?_
          rw [show (nI ((s0 + iL16) % 12) + 1) - (nI ((s0 + iL16) % 12) + 1) / 12 * 12 = nI ((s0 + (iL16 + 1)) % 12) from (by rw [nI_1]; exact (rem12 (by omega)).trans (congrArg nI (by omega)))]
          refine g_istore C d_M_share_127 [(8, .int (nI ((s0 + (iL16 + 1)) % 12))), (0, .ref (ad m)), (1, .int (nI (12 * nb))), (6, .long ((handS hea s0 (fun j => (parS t (hea j) all 63).1) (wantS t (fun j => (parS t (hea j) all 63).1) 12) iL16).2.1))] (by decide) rfl ?_
          refine g_goto 66 C d_M_share_129 (by decide) ?_
          refine g_fewer (lv' := [(0, .ref (ad m)), (1, .int (nI (12 * nb))), (6, .long ((handS hea s0 (fun j => (parS t (hea j) all 63).1) (wantS t (fun j => (parS t (hea j) all 63).1) 12) iL16).2.1)), (8, .int (nI ((s0 + (iL16 + 1)) % 12)))]) [1, 2, 3, 0] rfl ?_
          refine GW_eq (u2 := gup (gup wL15e (m + 12) (.inl ((X.2 1), 768, .inr (.inl (mapO sha (handS hea s0 (fun j => (parS t (hea j) all 63).1) (wantS t (fun j => (parS t (hea j) all 63).1) 12) (iL16 + 1)).1 (12 * nb) 12))))) (m + 2) (.inl ((X.2 0), 4, .inl (upd mar dr.toNatClampNeg (nI (handS hea s0 (fun j => (parS t (hea j) all 63).1) (wantS t (fun j => (parS t (hea j) all 63).1) 12) (iL16 + 1)).2.2))))) (lv2 := [(0, .ref (ad m)), (1, .int (nI (12 * nb))), (6, .long ((handS hea s0 (fun j => (parS t (hea j) all 63).1) (wantS t (fun j => (parS t (hea j) all 63).1) 12) (iL16 + 1)).2.1)), (8, .int (nI ((s0 + (iL16 + 1)) % 12)))]) ?_ ?_ (KL16 trivial)
          · first | (rw [hwL16s]; done) | (rw [hwL16s]; rw [handS_f2 (w := hea) c15e16s82]; done) | (rw [hwL16s]; rw [handS_f2 (w := hea) c15e16s82]; simp only [nI_0, mapO_at (show (s0 + iL16) % 12 < 12 by omega), upd_upd]; done) | (rw [hwL16s]; rw [handS_f2 (w := hea) c15e16s82]; simp only [nI_0, mapO_at (show (s0 + iL16) % 12 < 12 by omega), upd_upd]; rw [mapO_u (by omega)]; done) | (rw [hwL16s]; rw [handS_f2 (w := hea) c15e16s82]; simp only [nI_0, mapO_at (show (s0 + iL16) % 12 < 12 by omega), upd_upd]; rw [mapO_u (by omega)]; funext k; simp only [gup]; (repeat' split) <;> first | with_reducible rfl | (exfalso; omega))
          · rw [handS_f2 (w := hea) c15e16s82]; try simp only [nI_0]
        · rw [lg_cmp_le] at c15e16s82
          refine g_aload_n C d_M_share_85 rfl 0 rfl ?_
          refine g_get m 19 C hwL16s_0 rfl i_M (by decide) (gmem wd_537 rfl) rfl rfl d_M_share_86 ?_
          refine g_iload_n C d_M_share_89 rfl 1 rfl ?_
          refine g_iload C d_M_share_90 3 rfl ?_
          refine g_iadd C d_M_share_92 ?_
          refine g_dup2_11 C d_M_share_93 rfl rfl ?_
          refine g_lald (m + 12) 1 C hwL16s_3 rfl (by rw [atI]; exact vp_in_nI (by omega) (by decide)) d_M_share_94 ?_
          rw [show Int32.toNatClampNeg ((nI (12 * nb)) + (nI ((s0 + iL16) % 12))) = 12 * nb + (s0 + iL16) % 12 from (by rw [atI]; exact nI_clamp (by omega))]
          refine g_lconst (v := 1) C d_M_share_95 (by decide) ?_
          refine g_ladd C d_M_share_96 ?_
          refine g_topl (fun x15e16s97 ex15e16s97 => ?_)
          refine g_last (m + 12) 1 C hwL16s_3 rfl (by rw [atI]; exact vp_in_nI (by omega) (by decide)) d_M_share_97 ?_
          rw [show Int32.toNatClampNeg ((nI (12 * nb)) + (nI ((s0 + iL16) % 12))) = 12 * nb + (s0 + iL16) % 12 from (by rw [atI]; exact nI_clamp (by omega))]
          obtain ⟨u15e16s2, hu15e16s2⟩ : ∃ z, z = gup wL16s (m + 12) (.inl ((X.2 1), 768, .inr (.inl (vp_updL (mapO sha (handS hea s0 (fun j => (parS t (hea j) all 63).1) (wantS t (fun j => (parS t (hea j) all 63).1) 12) iL16).1 (12 * nb) 12) (12 * nb + (s0 + iL16) % 12) x15e16s97)))) := ⟨_, rfl⟩
          rw [← hu15e16s2]
          have hu15e16s2_0 : u15e16s2 m = some (mO ad m th cl dr wy ce ra li bi) := by rw [hu15e16s2, gup_ne (by omega)]; exact hwL16s_0
          have hu15e16s2_1 : u15e16s2 (m + 2) = some (.inl ((X.2 0), 4, .inl (upd mar dr.toNatClampNeg (nI (handS hea s0 (fun j => (parS t (hea j) all 63).1) (wantS t (fun j => (parS t (hea j) all 63).1) 12) iL16).2.2)))) := by rw [hu15e16s2, gup_ne (by omega)]; exact hwL16s_1
          have hu15e16s2_2 : u15e16s2 (m + 8) = some (.inl ((X.2 1), 12, .inr (.inl hea))) := by rw [hu15e16s2, gup_ne (by omega)]; exact hwL16s_2
          have hu15e16s2_3 : u15e16s2 (m + 12) = some (.inl ((X.2 1), 768, .inr (.inl (vp_updL (mapO sha (handS hea s0 (fun j => (parS t (hea j) all 63).1) (wantS t (fun j => (parS t (hea j) all 63).1) 12) iL16).1 (12 * nb) 12) (12 * nb + (s0 + iL16) % 12) x15e16s97)))) := by rw [hu15e16s2]; exact gup_self _ _ _
          refine g_lload C d_M_share_98 2 rfl ?_
          refine g_lconst (v := 1) C d_M_share_100 (by decide) ?_
          refine g_lsub C d_M_share_101 ?_
          refine g_topl (fun x15e16s102 ex15e16s102 => ?_)
          refine g_lstore C d_M_share_102 [(6, .long x15e16s102), (0, .ref (ad m)), (1, .int (nI (12 * nb))), (8, .int (nI ((s0 + iL16) % 12)))] (by decide) rfl ?_
          refine g_aload_n C d_M_share_104 rfl 1 rfl ?_
          refine g_get m 3 C hu15e16s2_0 rfl i_M (by decide) (gmem wd_521 rfl) rfl rfl d_M_share_105 ?_
          refine g_aload_n C d_M_share_108 rfl 1 rfl ?_
          refine g_get m 5 C hu15e16s2_0 rfl i_M (by decide) (gmem wd_523 rfl) rfl rfl d_M_share_109 ?_
          refine g_iload C d_M_share_112 3 rfl ?_
          refine g_iconst (v := 1) C d_M_share_114 (by decide) ?_
          refine g_iadd C d_M_share_115 ?_
          refine g_bipush (v := 12) C d_M_share_116 (by decide) ?_
          refine g_irem C d_M_share_118 (by decide) ?_
          rw [show (nI ((s0 + iL16) % 12) + 1) - (nI ((s0 + iL16) % 12) + 1) / 12 * 12 = nI (((s0 + iL16) % 12 + 1) % 12) from (by rw [nI_1]; exact rem12 (by omega))]
          refine g_iast (m + 2) 0 C hu15e16s2_1 rfl hd d_M_share_119 ?_
          obtain ⟨u15e16s3, hu15e16s3⟩ : ∃ z, z = gup u15e16s2 (m + 2) (.inl ((X.2 0), 4, .inl (upd (upd mar dr.toNatClampNeg (nI (handS hea s0 (fun j => (parS t (hea j) all 63).1) (wantS t (fun j => (parS t (hea j) all 63).1) 12) iL16).2.2)) (Int32.toNatClampNeg dr) (nI (((s0 + iL16) % 12 + 1) % 12))))) := ⟨_, rfl⟩
          rw [← hu15e16s3]
          have hu15e16s3_0 : u15e16s3 m = some (mO ad m th cl dr wy ce ra li bi) := by rw [hu15e16s3, gup_ne (by omega)]; exact hu15e16s2_0
          have hu15e16s3_1 : u15e16s3 (m + 2) = some (.inl ((X.2 0), 4, .inl (upd (upd mar dr.toNatClampNeg (nI (handS hea s0 (fun j => (parS t (hea j) all 63).1) (wantS t (fun j => (parS t (hea j) all 63).1) 12) iL16).2.2)) (Int32.toNatClampNeg dr) (nI (((s0 + iL16) % 12 + 1) % 12))))) := by rw [hu15e16s3]; exact gup_self _ _ _
          have hu15e16s3_2 : u15e16s3 (m + 8) = some (.inl ((X.2 1), 12, .inr (.inl hea))) := by rw [hu15e16s3, gup_ne (by omega)]; exact hu15e16s2_2
          have hu15e16s3_3 : u15e16s3 (m + 12) = some (.inl ((X.2 1), 768, .inr (.inl (vp_updL (mapO sha (handS hea s0 (fun j => (parS t (hea j) all 63).1) (wantS t (fun j => (parS t (hea j) all 63).1) 12) iL16).1 (12 * nb) 12) (12 * nb + (s0 + iL16) % 12) x15e16s97)))) := by rw [hu15e16s3, gup_ne (by omega)]; exact hu15e16s2_3
          refine g_iload C d_M_share_120 3 rfl ?_
          refine g_iconst (v := 1) C d_M_share_122 (by decide) ?_
          refine g_iadd C d_M_share_123 ?_
          refine g_bipush (v := 12) C d_M_share_124 (by decide) ?_
          refine g_irem C d_M_share_126 (by decide) ?_
          rw [show (nI ((s0 + iL16) % 12) + 1) - (nI ((s0 + iL16) % 12) + 1) / 12 * 12 = nI ((s0 + (iL16 + 1)) % 12) from (by rw [nI_1]; exact (rem12 (by omega)).trans (congrArg nI (by omega)))]
          refine g_istore C d_M_share_127 [(8, .int (nI ((s0 + (iL16 + 1)) % 12))), (6, .long x15e16s102), (0, .ref (ad m)), (1, .int (nI (12 * nb)))] (by decide) rfl ?_
          refine g_goto 66 C d_M_share_129 (by decide) ?_
          refine g_fewer (lv' := [(0, .ref (ad m)), (1, .int (nI (12 * nb))), (6, .long x15e16s102), (8, .int (nI ((s0 + (iL16 + 1)) % 12)))]) [2, 3, 1, 0] rfl ?_
          refine GW_eq (u2 := gup (gup wL15e (m + 12) (.inl ((X.2 1), 768, .inr (.inl (mapO sha (handS hea s0 (fun j => (parS t (hea j) all 63).1) (wantS t (fun j => (parS t (hea j) all 63).1) 12) (iL16 + 1)).1 (12 * nb) 12))))) (m + 2) (.inl ((X.2 0), 4, .inl (upd mar dr.toNatClampNeg (nI (handS hea s0 (fun j => (parS t (hea j) all 63).1) (wantS t (fun j => (parS t (hea j) all 63).1) 12) (iL16 + 1)).2.2))))) (lv2 := [(0, .ref (ad m)), (1, .int (nI (12 * nb))), (6, .long ((handS hea s0 (fun j => (parS t (hea j) all 63).1) (wantS t (fun j => (parS t (hea j) all 63).1) 12) (iL16 + 1)).2.1)), (8, .int (nI ((s0 + (iL16 + 1)) % 12)))]) ?_ ?_ (KL16 trivial)
          · first | (rw [hu15e16s3, hu15e16s2, hwL16s]; done) | (rw [hu15e16s3, hu15e16s2, hwL16s]; rw [handS_t (w := hea) c15e16s70 c15e16s82]; done) | (rw [hu15e16s3, hu15e16s2, hwL16s]; rw [handS_t (w := hea) c15e16s70 c15e16s82]; simp only [ex15e16s97, ex15e16s102, mapO_at (show (s0 + iL16) % 12 < 12 by omega), upd_upd]; done) | (rw [hu15e16s3, hu15e16s2, hwL16s]; rw [handS_t (w := hea) c15e16s70 c15e16s82]; simp only [ex15e16s97, ex15e16s102, mapO_at (show (s0 + iL16) % 12 < 12 by omega), upd_upd]; rw [mapO_u (by omega)]; done) | (rw [hu15e16s3, hu15e16s2, hwL16s]; rw [handS_t (w := hea) c15e16s70 c15e16s82]; simp only [ex15e16s97, ex15e16s102, mapO_at (show (s0 + iL16) % 12 < 12 by omega), upd_upd]; rw [mapO_u (by omega)]; funext k; simp only [gup]; (repeat' split) <;> first | with_reducible rfl | (exfalso; omega))
          · rw [handS_t (w := hea) c15e16s70 c15e16s82]; try simp only [ex15e16s97, ex15e16s102]
    · skip
      show GW Z _ _ _ ad (gup (gup wL15e (m + 12) (.inl ((X.2 1), 768, .inr (.inl (mapO sha (handS hea s0 (fun j => (parS t (hea j) all 63).1) (wantS t (fun j => (parS t (hea j) all 63).1) 12) 12).1 (12 * nb) 12))))) (m + 2) (.inl ((X.2 0), 4, .inl (upd mar dr.toNatClampNeg (nI (handS hea s0 (fun j => (parS t (hea j) all 63).1) (wantS t (fun j => (parS t (hea j) all 63).1) 12) 12).2.2))))) _ [(0, .ref (ad m)), (1, .int (nI (12 * nb))), (6, .long ((handS hea s0 (fun j => (parS t (hea j) all 63).1) (wantS t (fun j => (parS t (hea j) all 63).1) 12) 12).2.1)), (8, .int (nI ((s0 + 12) % 12)))] _ _ 66 []
      obtain ⟨wL16e, hwL16e⟩ : ∃ z, z = gup (gup wL15e (m + 12) (.inl ((X.2 1), 768, .inr (.inl (mapO sha (handS hea s0 (fun j => (parS t (hea j) all 63).1) (wantS t (fun j => (parS t (hea j) all 63).1) 12) 12).1 (12 * nb) 12))))) (m + 2) (.inl ((X.2 0), 4, .inl (upd mar dr.toNatClampNeg (nI (handS hea s0 (fun j => (parS t (hea j) all 63).1) (wantS t (fun j => (parS t (hea j) all 63).1) 12) 12).2.2)))) := ⟨_, rfl⟩
      rw [← hwL16e]
      have hwL16e_0 : wL16e m = some (mO ad m th cl dr wy ce ra li bi) := by rw [hwL16e, gup_ne (by omega), gup_ne (by omega)]; exact hwL15e_0
      have hwL16e_1 : wL16e (m + 2) = some (.inl ((X.2 0), 4, .inl (upd mar dr.toNatClampNeg (nI (handS hea s0 (fun j => (parS t (hea j) all 63).1) (wantS t (fun j => (parS t (hea j) all 63).1) 12) 12).2.2)))) := by rw [hwL16e, gup_self]
      have hwL16e_2 : wL16e (m + 8) = some (.inl ((X.2 1), 12, .inr (.inl hea))) := by rw [hwL16e, gup_ne (by omega), gup_ne (by omega)]; exact hwL15e_2
      have hwL16e_3 : wL16e (m + 12) = some (.inl ((X.2 1), 768, .inr (.inl (mapO sha (handS hea s0 (fun j => (parS t (hea j) all 63).1) (wantS t (fun j => (parS t (hea j) all 63).1) 12) 12).1 (12 * nb) 12)))) := by rw [hwL16e, gup_ne (by omega), gup_self]
      refine g_lload C d_M_share_66 2 rfl ?_
      refine g_lconst (v := 0) C d_M_share_68 (by decide) ?_
      refine g_lcmp C d_M_share_69 ?_
      refine g_if_le 132 C d_M_share_70 (by decide) (fun c15e16e70 => ?_) (fun c15e16e70 => ?_)
      rotate_left
      · rw [lg_cmp_le] at c15e16e70; exact absurd hend c15e16e70
      exact g_vret C hR hret ⟨rfl, (by first | (rw [hwL16e, hwL15e]; done) | (rw [hwL16e, hwL15e]; funext k; simp only [gup]; (repeat' split) <;> first | with_reducible rfl | (exfalso; omega))), rfl⟩ d_M_share_132
