def mostW (way : Int32) : Int32 := if way = 1 then 1 else if way = 2 then 1000 else if way = 3 then 100000000 else if way = 4 then 10000 else 0
def shf : Nat → Int32
  | 0 => 40
  | 1 => 20
  | 2 => 0
  | _ => -20
theorem shf_nn {i : Nat} (h : i < 3) : ¬ shf i < 0 := (show ∀ i, i < 3 → ¬ shf i < 0 by decide +kernel) i h
theorem shf_s {i : Nat} (h : i < 3) : shf i + (-20) = shf (i + 1) := (show ∀ i, i < 3 → shf i + (-20) = shf (i + 1) by decide +kernel) i h
def porT (a w : Int64) (i : Nat) (r : Int64) : Int64 := (r <<< (Int32.toInt64 20 &&& 63)) + ((a >>> ((shf i).toInt64 &&& 63)) &&& 1048575) * w
def porS (a w s : Int64) : Nat → Int64 × Int64
  | 0 => (0, 0)
  | i + 1 => (((porS a w s i).1 <<< (Int32.toInt64 20 &&& 63)) + porT a w i (porS a w s i).2 / s, porT a w i (porS a w s i).2 - porT a w i (porS a w s i).2 / s * s)
def por (a w s : Int64) : Int64 := if 0 < s then (porS a w s 3).1 else 0
theorem l_pos_ne {s : Int64} (h : 0 < s) : ¬ s = 0 := by
  intro e; rw [e] at h; exact absurd h (by decide)
def wantS (a : Int64) (g : Nat → Int64) : Nat → Int64
  | 0 => a
  | i + 1 => wantS a g i - g i
def handS (w : Nat → Int64) (s0 : Nat) (p0 : Nat → Int64) (w0 : Int64) : Nat → (Nat → Int64) × Int64 × Nat
  | 0 => (p0, w0, s0)
  | k + 1 => if ¬ (handS w s0 p0 w0 k).2.1 ≤ 0 ∧ ¬ w ((s0 + k) % 12) ≤ 0 then (vp_updL (handS w s0 p0 w0 k).1 ((s0 + k) % 12) ((handS w s0 p0 w0 k).1 ((s0 + k) % 12) + 1), (handS w s0 p0 w0 k).2.1 - 1, ((s0 + k) % 12 + 1) % 12) else handS w s0 p0 w0 k
theorem handS_t {w : Nat → Int64} {s0 : Nat} {p0 : Nat → Int64} {w0 : Int64} {k : Nat} (h1 : ¬ (handS w s0 p0 w0 k).2.1 ≤ 0) (h2 : ¬ w ((s0 + k) % 12) ≤ 0) : handS w s0 p0 w0 (k + 1) = (vp_updL (handS w s0 p0 w0 k).1 ((s0 + k) % 12) ((handS w s0 p0 w0 k).1 ((s0 + k) % 12) + 1), (handS w s0 p0 w0 k).2.1 - 1, ((s0 + k) % 12 + 1) % 12) := if_pos ⟨h1, h2⟩
theorem handS_f1 {w : Nat → Int64} {s0 : Nat} {p0 : Nat → Int64} {w0 : Int64} {k : Nat} (h1 : (handS w s0 p0 w0 k).2.1 ≤ 0) : handS w s0 p0 w0 (k + 1) = handS w s0 p0 w0 k := if_neg (fun h => h.1 h1)
theorem handS_f2 {w : Nat → Int64} {s0 : Nat} {p0 : Nat → Int64} {w0 : Int64} {k : Nat} (h2 : w ((s0 + k) % 12) ≤ 0) : handS w s0 p0 w0 (k + 1) = handS w s0 p0 w0 k := if_neg (fun h => h.2 h2)
theorem rem12 {a : Nat} (h : a < 2 ^ 31) : nI a - nI a / 12 * 12 = nI (a % 12) := pk_rem (d := 12) h (by decide) (by decide)
/-- the cents by weights, and those that are wanting handed out from s0 on -/
def cutG (a : Int64) (w : Nat → Int64) : Nat → Int64 := fun j => por a (w j) (sumL w 12)
def cutS (a : Int64) (w : Nat → Int64) (s0 : Nat) (p : Nat → Int64) : (Nat → Int64) × Int64 × Nat := handS w s0 (mapL p (cutG a w) 12) (wantS a (cutG a w) 12) 12
theorem handS_lt {w : Nat → Int64} {s0 : Nat} {p0 : Nat → Int64} {w0 : Int64} (h : s0 < 12) (k : Nat) : (handS w s0 p0 w0 k).2.2 < 12 := by
  induction k with
  | zero => exact h
  | succ k ih =>
    unfold handS
    split
    · exact Nat.mod_lt _ (by decide)
    · exact ih

set_option maxHeartbeats 4000000 in
set_option maxRecDepth 100000 in
/-- mostWeight -/
theorem k_X_mostWeight (l : Launch) (X : gX) (ad : Nat → Nat) (u : gW) (sz : Nat) (w : Int32)   : gMet l (EE X) y_X_mostWeight c_X_mostWeight 1 (some .int) ({ frames := 0, cells := 0, slots := 0, locals := 0 }) [.int w] ad u sz (fun v u' sz' => v = some (.int (mostW w)) ∧ u' = u ∧ sz' = sz) := by
  refine gMet_of "ExpenseClubs" rfl (by decide) (Nat.le_of_ble_eq_true rfl) (lv := [(0, .int w)]) rfl (fun Z hZl C hR hret hname => ?_)
  refine g_iload_n C d_X_mostWeight_0 rfl 0 rfl ?_
  by_cases c1_1 : w = 1
  · refine g_tableIn (off := 31) 32 C d_X_mostWeight_1 (by rw [c1_1]; decide) (by rw [c1_1]; decide) (by rw [c1_1]; rfl) (by decide) ?_
    refine g_iconst (v := 1) C d_X_mostWeight_32 (by decide) ?_
    exact g_iret C hR hret ⟨by simp_all [mostW], rfl, rfl⟩ d_X_mostWeight_33
  by_cases c1_2 : w = 2
  · refine g_tableIn (off := 33) 34 C d_X_mostWeight_1 (by rw [c1_2]; decide) (by rw [c1_2]; decide) (by rw [c1_2]; rfl) (by decide) ?_
    refine g_sipush (v := 1000) C d_X_mostWeight_34 (by decide) ?_
    exact g_iret C hR hret ⟨by simp_all [mostW], rfl, rfl⟩ d_X_mostWeight_37
  by_cases c1_3 : w = 3
  · refine g_tableIn (off := 37) 38 C d_X_mostWeight_1 (by rw [c1_3]; decide) (by rw [c1_3]; decide) (by rw [c1_3]; rfl) (by decide) ?_
    refine g_ldc C (gmem wd_213 rfl) d_X_mostWeight_38 ?_
    exact g_iret C hR hret ⟨by simp_all [mostW], rfl, rfl⟩ d_X_mostWeight_40
  by_cases c1_4 : w = 4
  · refine g_tableIn (off := 40) 41 C d_X_mostWeight_1 (by rw [c1_4]; decide) (by rw [c1_4]; decide) (by rw [c1_4]; rfl) (by decide) ?_
    refine g_sipush (v := 10000) C d_X_mostWeight_41 (by decide) ?_
    exact g_iret C hR hret ⟨by simp_all [mostW], rfl, rfl⟩ d_X_mostWeight_44
  refine g_tableOut 45 C d_X_mostWeight_1 (by have h0 := lv_neT c1_1 (a := 1) (by decide); have h1 := lv_neT c1_2 (a := 2) (by decide); have h2 := lv_neT c1_3 (a := 3) (by decide); have h3 := lv_neT c1_4 (a := 4) (by decide); omega) (by decide) ?_
  refine g_iconst (v := 0) C d_X_mostWeight_45 (by decide) ?_
  exact g_iret C hR hret ⟨by simp_all [mostW], rfl, rfl⟩ d_X_mostWeight_46

set_option maxHeartbeats 4000000 in
set_option maxRecDepth 100000 in
/-- sumOf -/
theorem k_X_sumOf (l : Launch) (X : gX) (ad : Nat → Nat) (u : gW) (sz : Nat) (n : Nat) (f : Nat → Int64) (hn : u n = some (.inl ((X.2 1), 12, .inr (.inl f))))  : gMet l (EE X) y_X_sumOf c_X_sumOf 4 (some .long) ({ frames := 0, cells := 0, slots := 0, locals := 0 }) [.ref (ad n)] ad u sz (fun v u' sz' => v = some (.long (sumL f 12)) ∧ u' = u ∧ sz' = sz) := by
  refine gMet_of "ExpenseClubs" rfl (by decide) (Nat.le_of_ble_eq_true rfl) (lv := [(0, .ref (ad n))]) rfl (fun Z hZl C hR hret hname => ?_)
  refine g_lconst (v := 0) C d_X_sumOf_0 (by decide) ?_
  refine g_lstore_n C d_X_sumOf_1 rfl [(1, .long 0), (0, .ref (ad n))] (by decide) rfl ?_
  refine g_iconst (v := 0) C d_X_sumOf_2 (by decide) ?_
  refine g_istore_n C d_X_sumOf_3 rfl [(3, .int 0), (1, .long 0), (0, .ref (ad n))] (by decide) rfl ?_
  refine g_fewer (lv' := [(0, .ref (ad n)), (1, .long 0), (3, .int 0)]) [2, 1, 0] rfl ?_
  refine GW_eq (u2 := u) (lv2 := [(0, .ref (ad n)), (1, .long (sumL f 0)), (3, .int (nI 0))]) rfl rfl ?_
  refine g_loop 12 (fun iL2 => True) (fun iL2 => u) (fun iL2 => [(0, .ref (ad n)), (1, .long (sumL f iL2)), (3, .int (nI iL2))]) (fun iL2 hiL2 piL2 KL2 => ?_) (fun piL2 => ?_) 0 (by omega) trivial
  · skip
    show GW Z _ _ _ ad (u) _ [(0, .ref (ad n)), (1, .long (sumL f iL2)), (3, .int (nI iL2))] _ _ 4 []
    obtain ⟨wL2s, hwL2s⟩ : ∃ z, z = u := ⟨_, rfl⟩
    rw [← hwL2s]
    have hwL2s_0 : wL2s n = some (.inl ((X.2 1), 12, .inr (.inl f))) := by rw [hwL2s]; exact hn
    refine g_iload_n C d_X_sumOf_4 rfl 2 rfl ?_
    refine g_bipush (v := 12) C d_X_sumOf_5 (by decide) ?_
    refine g_icmp_ge 22 C d_X_sumOf_7 (by decide) (fun c2s7 => ?_) (fun c2s7 => ?_)
    · exact absurd c2s7 (ge12 hiL2)
    refine g_lload_n C d_X_sumOf_10 rfl 1 rfl ?_
    refine g_aload_n C d_X_sumOf_11 rfl 0 rfl ?_
    refine g_iload_n C d_X_sumOf_12 rfl 2 rfl ?_
    refine g_lald n 1 C hwL2s_0 rfl (vp_in_nI (by omega) (by decide)) d_X_sumOf_13 ?_
    rw [show Int32.toNatClampNeg (nI iL2) = iL2 from nI_clamp (by omega)]
    refine g_ladd C d_X_sumOf_14 ?_
    refine g_topl (fun x2s15 ex2s15 => ?_)
    refine g_lstore_n C d_X_sumOf_15 rfl [(1, .long x2s15), (0, .ref (ad n)), (3, .int (nI iL2))] (by decide) rfl ?_
    obtain ⟨x2s16, ex2s16⟩ : ∃ y : Int32, y = (nI iL2) + 1 := ⟨_, rfl⟩
    refine g_iinc (v := x2s16) C d_X_sumOf_16 2 rfl (by rw [ex2s16]; rfl) [(3, .int x2s16), (1, .long x2s15), (0, .ref (ad n))] (by decide) rfl ?_
    refine g_goto 4 C d_X_sumOf_19 (by decide) ?_
    refine g_fewer (lv' := [(0, .ref (ad n)), (1, .long x2s15), (3, .int x2s16)]) [2, 1, 0] rfl ?_
    refine GW_eq (u2 := u) (lv2 := [(0, .ref (ad n)), (1, .long (sumL f (iL2 + 1))), (3, .int (nI (iL2 + 1)))]) ?_ ?_ (KL2 trivial)
    · first | (rw [hwL2s]; done) | (rw [hwL2s]; funext k; simp only [gup]; (repeat' split) <;> first | with_reducible rfl | (exfalso; omega) | rfl)
    · simp only [ex2s15, ex2s16, nI_1]; rfl
  · skip
    show GW Z _ _ _ ad (u) _ [(0, .ref (ad n)), (1, .long (sumL f 12)), (3, .int (nI 12))] _ _ 4 []
    obtain ⟨wL2e, hwL2e⟩ : ∃ z, z = u := ⟨_, rfl⟩
    rw [← hwL2e]
    have hwL2e_0 : wL2e n = some (.inl ((X.2 1), 12, .inr (.inl f))) := by rw [hwL2e]; exact hn
    refine g_iload_n C d_X_sumOf_4 rfl 2 rfl ?_
    refine g_bipush (v := 12) C d_X_sumOf_5 (by decide) ?_
    refine g_icmp_ge 22 C d_X_sumOf_7 (by decide) (fun c2e7 => ?_) (fun c2e7 => ?_)
    rotate_left
    · exact absurd (by decide) c2e7
    refine g_lload_n C d_X_sumOf_22 rfl 1 rfl ?_
    exact g_lret C hR hret ⟨rfl, (by first | (rw [hwL2e]; done) | (rw [hwL2e]; funext k; simp only [gup]; (repeat' split) <;> first | with_reducible rfl | (exfalso; omega) | rfl)), rfl⟩ d_X_sumOf_23

set_option maxHeartbeats 4000000 in
set_option maxRecDepth 100000 in
/-- portion -/
theorem k_X_portion (l : Launch) (X : gX) (ad : Nat → Nat) (u : gW) (sz : Nat) (a w s : Int64)   : gMet l (EE X) y_X_portion c_X_portion 15 (some .long) ({ frames := 0, cells := 0, slots := 0, locals := 0 }) [.long a, .long w, .long s] ad u sz (fun v u' sz' => v = some (.long (por a w s)) ∧ u' = u ∧ sz' = sz) := by
  refine gMet_of "ExpenseClubs" rfl (by decide) (Nat.le_of_ble_eq_true rfl) (lv := [(0, .long a), (2, .long w), (4, .long s)]) rfl (fun Z hZl C hR hret hname => ?_)
  refine g_lload C d_X_portion_0 2 rfl ?_
  refine g_lconst (v := 0) C d_X_portion_2 (by decide) ?_
  refine g_lcmp C d_X_portion_3 ?_
  refine g_if_gt 9 C d_X_portion_4 (by decide) (fun c4 => ?_) (fun c4 => ?_)
  · rw [lg_cmp_gt] at c4
    refine g_lconst (v := 0) C d_X_portion_9 (by decide) ?_
    refine g_lstore C d_X_portion_10 [(6, .long 0), (0, .long a), (2, .long w), (4, .long s)] (by decide) rfl ?_
    refine g_lconst (v := 0) C d_X_portion_12 (by decide) ?_
    refine g_lstore C d_X_portion_13 [(8, .long 0), (6, .long 0), (0, .long a), (2, .long w), (4, .long s)] (by decide) rfl ?_
    refine g_bipush (v := 40) C d_X_portion_15 (by decide) ?_
    refine g_istore C d_X_portion_17 [(10, .int 40), (8, .long 0), (6, .long 0), (0, .long a), (2, .long w), (4, .long s)] (by decide) rfl ?_
    refine g_fewer (lv' := [(0, .long a), (2, .long w), (4, .long s), (6, .long 0), (8, .long 0), (10, .int 40)]) [3, 4, 5, 2, 1, 0] rfl ?_
    refine GW_eq (u2 := u) (lv2 := [(0, .long a), (2, .long w), (4, .long s), (6, .long ((porS a w s 0).1)), (8, .long ((porS a w s 0).2)), (10, .int (shf 0))]) rfl rfl ?_
    refine g_loop 3 (fun iL3 => True) (fun iL3 => u) (fun iL3 => [(0, .long a), (2, .long w), (4, .long s), (6, .long ((porS a w s iL3).1)), (8, .long ((porS a w s iL3).2)), (10, .int (shf iL3))]) (fun iL3 hiL3 piL3 KL3 => ?_) (fun piL3 => ?_) 0 (by omega) trivial
    · skip
      show GW Z _ _ _ ad (u) _ [(0, .long a), (2, .long w), (4, .long s), (6, .long ((porS a w s iL3).1)), (8, .long ((porS a w s iL3).2)), (10, .int (shf iL3))] _ _ 19 []
      obtain ⟨wL3s, hwL3s⟩ : ∃ z, z = u := ⟨_, rfl⟩
      rw [← hwL3s]
      refine g_iload C d_X_portion_19 5 rfl ?_
      refine g_if_lt 72 C d_X_portion_21 (by decide) (fun c3s21 => ?_) (fun c3s21 => ?_)
      · exact absurd c3s21 (shf_nn hiL3)
      refine g_lload_n C d_X_portion_24 rfl 0 rfl ?_
      refine g_iload C d_X_portion_25 5 rfl ?_
      refine g_lshr C d_X_portion_27 ?_
      refine g_ldc2 C (gmem wd_320 rfl) d_X_portion_28 ?_
      refine g_land C d_X_portion_31 ?_
      refine g_topl (fun x3s32 ex3s32 => ?_)
      refine g_lstore C d_X_portion_32 [(11, .long x3s32), (0, .long a), (2, .long w), (4, .long s), (6, .long ((porS a w s iL3).1)), (8, .long ((porS a w s iL3).2)), (10, .int (shf iL3))] (by decide) rfl ?_
      refine g_lload C d_X_portion_34 5 rfl ?_
      refine g_bipush (v := 20) C d_X_portion_36 (by decide) ?_
      refine g_lshl C d_X_portion_38 ?_
      refine g_lload C d_X_portion_39 0 rfl ?_
      refine g_lload_n C d_X_portion_41 rfl 2 rfl ?_
      refine g_lmul C d_X_portion_42 ?_
      refine g_ladd C d_X_portion_43 ?_
      refine g_topl (fun x3s44 ex3s44 => ?_)
      refine g_lstore C d_X_portion_44 [(13, .long x3s44), (11, .long x3s32), (0, .long a), (2, .long w), (4, .long s), (6, .long ((porS a w s iL3).1)), (8, .long ((porS a w s iL3).2)), (10, .int (shf iL3))] (by decide) rfl ?_
      refine g_lload C d_X_portion_46 5 rfl ?_
      refine g_bipush (v := 20) C d_X_portion_48 (by decide) ?_
      refine g_lshl C d_X_portion_50 ?_
      refine g_lload C d_X_portion_51 0 rfl ?_
      refine g_lload C d_X_portion_53 4 rfl ?_
      refine g_ldiv C d_X_portion_55 (l_pos_ne c4) ?_
      refine g_ladd C d_X_portion_56 ?_
      refine g_topl (fun x3s57 ex3s57 => ?_)
      refine g_lstore C d_X_portion_57 [(6, .long x3s57), (13, .long x3s44), (11, .long x3s32), (0, .long a), (2, .long w), (4, .long s), (8, .long ((porS a w s iL3).2)), (10, .int (shf iL3))] (by decide) rfl ?_
      refine g_lload C d_X_portion_59 1 rfl ?_
      refine g_lload C d_X_portion_61 5 rfl ?_
      refine g_lrem C d_X_portion_63 (l_pos_ne c4) ?_
      refine g_topl (fun x3s64 ex3s64 => ?_)
      refine g_lstore C d_X_portion_64 [(8, .long x3s64), (6, .long x3s57), (13, .long x3s44), (11, .long x3s32), (0, .long a), (2, .long w), (4, .long s), (10, .int (shf iL3))] (by decide) rfl ?_
      obtain ⟨x3s66, ex3s66⟩ : ∃ y : Int32, y = (shf iL3) + (-20) := ⟨_, rfl⟩
      refine g_iinc (v := x3s66) C d_X_portion_66 7 rfl (by rw [ex3s66]; rfl) [(10, .int x3s66), (8, .long x3s64), (6, .long x3s57), (13, .long x3s44), (11, .long x3s32), (0, .long a), (2, .long w), (4, .long s)] (by decide) rfl ?_
      refine g_goto 19 C d_X_portion_69 (by decide) ?_
      refine g_fewer (lv' := [(0, .long a), (2, .long w), (4, .long s), (6, .long x3s57), (8, .long x3s64), (10, .int x3s66)]) [5, 6, 7, 2, 1, 0] rfl ?_
      refine GW_eq (u2 := u) (lv2 := [(0, .long a), (2, .long w), (4, .long s), (6, .long ((porS a w s (iL3 + 1)).1)), (8, .long ((porS a w s (iL3 + 1)).2)), (10, .int (shf (iL3 + 1)))]) ?_ ?_ (KL3 trivial)
      · first | (rw [hwL3s]; done) | (rw [hwL3s]; funext k; simp only [gup]; (repeat' split) <;> first | with_reducible rfl | (exfalso; omega) | rfl)
      · simp only [ex3s32, ex3s44, ex3s57, ex3s64, ex3s66, shf_s hiL3]; rfl
    · skip
      show GW Z _ _ _ ad (u) _ [(0, .long a), (2, .long w), (4, .long s), (6, .long ((porS a w s 3).1)), (8, .long ((porS a w s 3).2)), (10, .int (shf 3))] _ _ 19 []
      obtain ⟨wL3e, hwL3e⟩ : ∃ z, z = u := ⟨_, rfl⟩
      rw [← hwL3e]
      refine g_iload C d_X_portion_19 5 rfl ?_
      refine g_if_lt 72 C d_X_portion_21 (by decide) (fun c3e21 => ?_) (fun c3e21 => ?_)
      rotate_left
      · exact absurd (by decide) c3e21
      refine g_lload C d_X_portion_72 3 rfl ?_
      exact g_lret C hR hret ⟨by simp only [por, if_pos c4], (by first | (rw [hwL3e]; done) | (rw [hwL3e]; funext k; simp only [gup]; (repeat' split) <;> first | with_reducible rfl | (exfalso; omega) | rfl)), rfl⟩ d_X_portion_74
  · rw [lg_cmp_gt] at c4
    refine g_lconst (v := 0) C d_X_portion_7 (by decide) ?_
    exact g_lret C hR hret ⟨by simp only [por, if_neg c4], rfl, rfl⟩ d_X_portion_8

set_option maxHeartbeats 4000000 in
set_option maxRecDepth 100000 in
/-- cut -/
theorem k_X_cut (l : Launch) (X : gX) (ad : Nat → Nat) (u : gW) (sz : Nat) (a : Int64) (n q s0 : Nat) (w p : Nat → Int64) (hn : u n = some (.inl ((X.2 1), 12, .inr (.inl w)))) (hq : u q = some (.inl ((X.2 1), 12, .inr (.inl p)))) (hnq : n ≠ q) (hs0 : s0 < 12) : gMet l (EE X) y_X_cut c_X_cut 12 (some .int) ({ frames := 1, cells := 0, slots := 0, locals := 34 }) [.long a, .ref (ad n), .int (nI s0), .ref (ad q)] ad u sz (fun v u' sz' => v = some (.int (nI (handS w s0 (mapL p (cutG a w) 12) (wantS a (cutG a w) 12) 12).2.2)) ∧ u' = gup u q (.inl ((X.2 1), 12, .inr (.inl ((handS w s0 (mapL p (cutG a w) 12) (wantS a (cutG a w) 12) 12).1)))) ∧ sz' = sz) := by
  refine gMet_of "ExpenseClubs" rfl (by decide) (Nat.le_of_ble_eq_true rfl) (lv := [(0, .long a), (2, .ref (ad n)), (3, .int (nI s0)), (4, .ref (ad q))]) rfl (fun Z hZl C hR hret hname => ?_)
  refine g_aload_n C d_X_cut_0 rfl 1 rfl ?_
  refine g_callS 1 C (k_X_sumOf _ X ad u sz n w hn) (gmem wd_316 rfl) (gmem wd_262 rfl) (gmem wd_1 rfl) (gmem wd_263 rfl) ⟨by decide, by decide, by decide +kernel⟩ ⟨Nat.le_of_ble_eq_true rfl, Nat.le_of_ble_eq_true rfl⟩ rfl rfl (Nat.le_of_ble_eq_true rfl) d_X_cut_1 ⟨Nat.le_of_ble_eq_true rfl, Nat.le_of_ble_eq_true rfl⟩ ?_
  rintro v9 u9 s9 ⟨h9, hu9, hs9⟩; rw [h9, hu9, hs9]; clear h9 hu9 hs9 v9 u9 s9
  show GW Z _ _ _ ad u sz [(0, .long a), (2, .ref (ad n)), (3, .int (nI s0)), (4, .ref (ad q))] 0 0 4 [.long (sumL w 12)]
  refine g_topl (fun x4 ex4 => ?_)
  refine g_lstore C d_X_cut_4 [(5, .long x4), (0, .long a), (2, .ref (ad n)), (3, .int (nI s0)), (4, .ref (ad q))] (by decide) rfl ?_
  refine g_lload_n C d_X_cut_6 rfl 1 rfl ?_
  refine g_lstore C d_X_cut_7 [(7, .long a), (5, .long x4), (0, .long a), (2, .ref (ad n)), (3, .int (nI s0)), (4, .ref (ad q))] (by decide) rfl ?_
  refine g_iconst (v := 0) C d_X_cut_9 (by decide) ?_
  refine g_istore C d_X_cut_10 [(9, .int 0), (7, .long a), (5, .long x4), (0, .long a), (2, .ref (ad n)), (3, .int (nI s0)), (4, .ref (ad q))] (by decide) rfl ?_
  refine g_fewer (lv' := [(0, .long a), (2, .ref (ad n)), (3, .int (nI s0)), (4, .ref (ad q)), (5, .long x4), (7, .long a), (9, .int 0)]) [3, 4, 5, 6, 2, 1, 0] rfl ?_
  refine GW_eq (u2 := gup u q (.inl ((X.2 1), 12, .inr (.inl (mapL p (cutG a w) 0))))) (lv2 := [(0, .long a), (2, .ref (ad n)), (3, .int (nI s0)), (4, .ref (ad q)), (5, .long (sumL w 12)), (7, .long (wantS a (cutG a w) 0)), (9, .int (nI 0))]) (by rw [mapL_0, gup_id hq]) (by simp only [ex4]; rfl) ?_
  refine g_loop 12 (fun iL4 => True) (fun iL4 => gup u q (.inl ((X.2 1), 12, .inr (.inl (mapL p (cutG a w) iL4))))) (fun iL4 => [(0, .long a), (2, .ref (ad n)), (3, .int (nI s0)), (4, .ref (ad q)), (5, .long (sumL w 12)), (7, .long (wantS a (cutG a w) iL4)), (9, .int (nI iL4))]) (fun iL4 hiL4 piL4 KL4 => ?_) (fun piL4 => ?_) 0 (by omega) trivial
  · skip
    show GW Z _ _ _ ad (gup u q (.inl ((X.2 1), 12, .inr (.inl (mapL p (cutG a w) iL4))))) _ [(0, .long a), (2, .ref (ad n)), (3, .int (nI s0)), (4, .ref (ad q)), (5, .long (sumL w 12)), (7, .long (wantS a (cutG a w) iL4)), (9, .int (nI iL4))] _ _ 12 []
    obtain ⟨wL4s, hwL4s⟩ : ∃ z, z = gup u q (.inl ((X.2 1), 12, .inr (.inl (mapL p (cutG a w) iL4)))) := ⟨_, rfl⟩
    rw [← hwL4s]
    have hwL4s_0 : wL4s n = some (.inl ((X.2 1), 12, .inr (.inl w))) := by rw [hwL4s, gup_ne (by omega)]; exact hn
    have hwL4s_1 : wL4s q = some (.inl ((X.2 1), 12, .inr (.inl (mapL p (cutG a w) iL4)))) := by rw [hwL4s, gup_self]
    refine g_iload C d_X_cut_12 6 rfl ?_
    refine g_bipush (v := 12) C d_X_cut_14 (by decide) ?_
    refine g_icmp_ge 50 C d_X_cut_16 (by decide) (fun c4s16 => ?_) (fun c4s16 => ?_)
    · exact absurd c4s16 (ge12 hiL4)
    refine g_aload C d_X_cut_19 3 rfl ?_
    refine g_iload C d_X_cut_21 6 rfl ?_
    refine g_lload_n C d_X_cut_23 rfl 0 rfl ?_
    refine g_aload_n C d_X_cut_24 rfl 1 rfl ?_
    refine g_iload C d_X_cut_25 6 rfl ?_
    refine g_lald n 1 C hwL4s_0 rfl (vp_in_nI (by omega) (by decide)) d_X_cut_27 ?_
    rw [show Int32.toNatClampNeg (nI iL4) = iL4 from nI_clamp (by omega)]
    refine g_lload C d_X_cut_28 4 rfl ?_
    refine g_callS 3 C (k_X_portion _ X ad wL4s sz a (w iL4) (sumL w 12)) (gmem wd_317 rfl) (gmem wd_318 rfl) (gmem wd_1 rfl) (gmem wd_319 rfl) ⟨by decide, by decide, by decide +kernel⟩ ⟨Nat.le_of_ble_eq_true rfl, Nat.le_of_ble_eq_true rfl⟩ rfl rfl (Nat.le_of_ble_eq_true rfl) d_X_cut_30 ⟨Nat.le_of_ble_eq_true rfl, Nat.le_of_ble_eq_true rfl⟩ ?_
    rintro v9 u9 s9 ⟨h9, hu9, hs9⟩; rw [h9, hu9, hs9]; clear h9 hu9 hs9 v9 u9 s9
    show GW Z _ _ _ ad wL4s sz [(0, .long a), (2, .ref (ad n)), (3, .int (nI s0)), (4, .ref (ad q)), (5, .long (sumL w 12)), (7, .long (wantS a (cutG a w) iL4)), (9, .int (nI iL4))] 0 0 33 [.long (por a (w iL4) (sumL w 12)), .int (nI iL4), .ref (ad q)]
    refine g_topl (fun x4s33 ex4s33 => ?_)
    refine g_last q 1 C hwL4s_1 rfl (vp_in_nI (by omega) (by decide)) d_X_cut_33 ?_
    rw [show Int32.toNatClampNeg (nI iL4) = iL4 from nI_clamp (by omega)]
    obtain ⟨u4s1, hu4s1⟩ : ∃ z, z = gup wL4s q (.inl ((X.2 1), 12, .inr (.inl (vp_updL (mapL p (cutG a w) iL4) iL4 x4s33)))) := ⟨_, rfl⟩
    rw [← hu4s1]
    have hu4s1_0 : u4s1 n = some (.inl ((X.2 1), 12, .inr (.inl w))) := by rw [hu4s1, gup_ne (by omega)]; exact hwL4s_0
    have hu4s1_1 : u4s1 q = some (.inl ((X.2 1), 12, .inr (.inl (vp_updL (mapL p (cutG a w) iL4) iL4 x4s33)))) := by rw [hu4s1]; exact gup_self _ _ _
    refine g_lload C d_X_cut_34 5 rfl ?_
    refine g_aload C d_X_cut_36 3 rfl ?_
    refine g_iload C d_X_cut_38 6 rfl ?_
    refine g_lald q 1 C hu4s1_1 rfl (vp_in_nI (by omega) (by decide)) d_X_cut_40 ?_
    rw [show Int32.toNatClampNeg (nI iL4) = iL4 from nI_clamp (by omega)]
    refine g_lsub C d_X_cut_41 ?_
    refine g_topl (fun x4s42 ex4s42 => ?_)
    refine g_lstore C d_X_cut_42 [(7, .long x4s42), (0, .long a), (2, .ref (ad n)), (3, .int (nI s0)), (4, .ref (ad q)), (5, .long (sumL w 12)), (9, .int (nI iL4))] (by decide) rfl ?_
    obtain ⟨x4s44, ex4s44⟩ : ∃ y : Int32, y = (nI iL4) + 1 := ⟨_, rfl⟩
    refine g_iinc (v := x4s44) C d_X_cut_44 6 rfl (by rw [ex4s44]; rfl) [(9, .int x4s44), (7, .long x4s42), (0, .long a), (2, .ref (ad n)), (3, .int (nI s0)), (4, .ref (ad q)), (5, .long (sumL w 12))] (by decide) rfl ?_
    refine g_goto 12 C d_X_cut_47 (by decide) ?_
    refine g_fewer (lv' := [(0, .long a), (2, .ref (ad n)), (3, .int (nI s0)), (4, .ref (ad q)), (5, .long (sumL w 12)), (7, .long x4s42), (9, .int x4s44)]) [2, 3, 4, 5, 6, 1, 0] rfl ?_
    refine GW_eq (u2 := gup u q (.inl ((X.2 1), 12, .inr (.inl (mapL p (cutG a w) (iL4 + 1)))))) (lv2 := [(0, .long a), (2, .ref (ad n)), (3, .int (nI s0)), (4, .ref (ad q)), (5, .long (sumL w 12)), (7, .long (wantS a (cutG a w) (iL4 + 1))), (9, .int (nI (iL4 + 1)))]) ?_ ?_ (KL4 trivial)
    · first | (rw [hu4s1, hwL4s]; done) | (rw [hu4s1, hwL4s]; simp only [ex4s33, ex4s42, ex4s44]; done) | (rw [hu4s1, hwL4s]; simp only [ex4s33, ex4s42, ex4s44]; rw [mapL_s (x := por a (w iL4) (sumL w 12)) (g := cutG a w) rfl]; done) | (rw [hu4s1, hwL4s]; simp only [ex4s33, ex4s42, ex4s44]; rw [mapL_s (x := por a (w iL4) (sumL w 12)) (g := cutG a w) rfl]; funext k; simp only [gup]; (repeat' split) <;> first | with_reducible rfl | (exfalso; omega) | rfl)
    · simp only [ex4s33, ex4s42, ex4s44, pk_uLs, nI_1]; rfl
  · skip
    show GW Z _ _ _ ad (gup u q (.inl ((X.2 1), 12, .inr (.inl (mapL p (cutG a w) 12))))) _ [(0, .long a), (2, .ref (ad n)), (3, .int (nI s0)), (4, .ref (ad q)), (5, .long (sumL w 12)), (7, .long (wantS a (cutG a w) 12)), (9, .int (nI 12))] _ _ 12 []
    obtain ⟨wL4e, hwL4e⟩ : ∃ z, z = gup u q (.inl ((X.2 1), 12, .inr (.inl (mapL p (cutG a w) 12)))) := ⟨_, rfl⟩
    rw [← hwL4e]
    have hwL4e_0 : wL4e n = some (.inl ((X.2 1), 12, .inr (.inl w))) := by rw [hwL4e, gup_ne (by omega)]; exact hn
    have hwL4e_1 : wL4e q = some (.inl ((X.2 1), 12, .inr (.inl (mapL p (cutG a w) 12)))) := by rw [hwL4e, gup_self]
    refine g_iload C d_X_cut_12 6 rfl ?_
    refine g_bipush (v := 12) C d_X_cut_14 (by decide) ?_
    refine g_icmp_ge 50 C d_X_cut_16 (by decide) (fun c4e16 => ?_) (fun c4e16 => ?_)
    rotate_left
    · exact absurd (by decide) c4e16
    refine g_iload_n C d_X_cut_50 rfl 2 rfl ?_
    refine g_istore C d_X_cut_51 [(9, .int (nI s0)), (0, .long a), (2, .ref (ad n)), (3, .int (nI s0)), (4, .ref (ad q)), (5, .long (sumL w 12)), (7, .long (wantS a (cutG a w) 12))] (by decide) rfl ?_
    refine g_iconst (v := 0) C d_X_cut_53 (by decide) ?_
    refine g_istore C d_X_cut_54 [(10, .int 0), (9, .int (nI s0)), (0, .long a), (2, .ref (ad n)), (3, .int (nI s0)), (4, .ref (ad q)), (5, .long (sumL w 12)), (7, .long (wantS a (cutG a w) 12))] (by decide) rfl ?_
    refine g_fewer (lv' := [(2, .ref (ad n)), (3, .int (nI s0)), (4, .ref (ad q)), (7, .long (wantS a (cutG a w) 12)), (9, .int (nI s0)), (10, .int 0)]) [3, 4, 5, 7, 1, 0] rfl ?_
    refine GW_eq (u2 := gup wL4e q (.inl ((X.2 1), 12, .inr (.inl ((handS w s0 (mapL p (cutG a w) 12) (wantS a (cutG a w) 12) 0).1))))) (lv2 := [(2, .ref (ad n)), (3, .int (nI s0)), (4, .ref (ad q)), (7, .long ((handS w s0 (mapL p (cutG a w) 12) (wantS a (cutG a w) 12) 0).2.1)), (9, .int (nI (handS w s0 (mapL p (cutG a w) 12) (wantS a (cutG a w) 12) 0).2.2)), (10, .int (nI 0))]) (gup_id hwL4e_1).symm rfl ?_
    refine g_loop 12 (fun iL5 => True) (fun iL5 => gup wL4e q (.inl ((X.2 1), 12, .inr (.inl ((handS w s0 (mapL p (cutG a w) 12) (wantS a (cutG a w) 12) iL5).1))))) (fun iL5 => [(2, .ref (ad n)), (3, .int (nI s0)), (4, .ref (ad q)), (7, .long ((handS w s0 (mapL p (cutG a w) 12) (wantS a (cutG a w) 12) iL5).2.1)), (9, .int (nI (handS w s0 (mapL p (cutG a w) 12) (wantS a (cutG a w) 12) iL5).2.2)), (10, .int (nI iL5))]) (fun iL5 hiL5 piL5 KL5 => ?_) (fun piL5 => ?_) 0 (by omega) trivial
    · skip
      show GW Z _ _ _ ad (gup wL4e q (.inl ((X.2 1), 12, .inr (.inl ((handS w s0 (mapL p (cutG a w) 12) (wantS a (cutG a w) 12) iL5).1))))) _ [(2, .ref (ad n)), (3, .int (nI s0)), (4, .ref (ad q)), (7, .long ((handS w s0 (mapL p (cutG a w) 12) (wantS a (cutG a w) 12) iL5).2.1)), (9, .int (nI (handS w s0 (mapL p (cutG a w) 12) (wantS a (cutG a w) 12) iL5).2.2)), (10, .int (nI iL5))] _ _ 56 []
      obtain ⟨wL5s, hwL5s⟩ : ∃ z, z = gup wL4e q (.inl ((X.2 1), 12, .inr (.inl ((handS w s0 (mapL p (cutG a w) 12) (wantS a (cutG a w) 12) iL5).1)))) := ⟨_, rfl⟩
      rw [← hwL5s]
      have hwL5s_0 : wL5s n = some (.inl ((X.2 1), 12, .inr (.inl w))) := by rw [hwL5s, gup_ne (by omega)]; exact hwL4e_0
      have hwL5s_1 : wL5s q = some (.inl ((X.2 1), 12, .inr (.inl ((handS w s0 (mapL p (cutG a w) 12) (wantS a (cutG a w) 12) iL5).1)))) := by rw [hwL5s, gup_self]
      refine g_iload C d_X_cut_56 5 rfl ?_
      refine g_bipush (v := 12) C d_X_cut_58 (by decide) ?_
      refine g_icmp_ge 118 C d_X_cut_60 (by decide) (fun c4e5s60 => ?_) (fun c4e5s60 => ?_)
      · exact absurd c4e5s60 (ge12 hiL5)
      refine g_iload_n C d_X_cut_63 rfl 1 rfl ?_
      refine g_iload C d_X_cut_64 5 rfl ?_
      refine g_iadd C d_X_cut_66 ?_
      refine g_bipush (v := 12) C d_X_cut_67 (by decide) ?_
      refine g_irem C d_X_cut_69 (by decide) ?_
      rw [show (nI s0 + nI iL5) - (nI s0 + nI iL5) / 12 * 12 = nI ((s0 + iL5) % 12) from (by rw [nI_add]; exact rem12 (by omega))]
      refine g_istore C d_X_cut_70 [(11, .int (nI ((s0 + iL5) % 12))), (2, .ref (ad n)), (3, .int (nI s0)), (4, .ref (ad q)), (7, .long ((handS w s0 (mapL p (cutG a w) 12) (wantS a (cutG a w) 12) iL5).2.1)), (9, .int (nI (handS w s0 (mapL p (cutG a w) 12) (wantS a (cutG a w) 12) iL5).2.2)), (10, .int (nI iL5))] (by decide) rfl ?_
      refine g_lload C d_X_cut_72 4 rfl ?_
      refine g_lconst (v := 0) C d_X_cut_74 (by decide) ?_
      refine g_lcmp C d_X_cut_75 ?_
      refine g_if_le 112 C d_X_cut_76 (by decide) (fun c4e5s76 => ?_) (fun c4e5s76 => ?_)
      · rw [lg_cmp_le] at c4e5s76
        obtain ⟨x4e5s112, ex4e5s112⟩ : ∃ y : Int32, y = (nI iL5) + 1 := ⟨_, rfl⟩
        refine g_iinc (v := x4e5s112) C d_X_cut_112 6 rfl (by rw [ex4e5s112]; rfl) [(10, .int x4e5s112), (11, .int (nI ((s0 + iL5) % 12))), (2, .ref (ad n)), (3, .int (nI s0)), (4, .ref (ad q)), (7, .long ((handS w s0 (mapL p (cutG a w) 12) (wantS a (cutG a w) 12) iL5).2.1)), (9, .int (nI (handS w s0 (mapL p (cutG a w) 12) (wantS a (cutG a w) 12) iL5).2.2))] (by decide) rfl ?_
        refine g_goto 56 C d_X_cut_115 (by decide) ?_
        refine g_fewer (lv' := [(2, .ref (ad n)), (3, .int (nI s0)), (4, .ref (ad q)), (7, .long ((handS w s0 (mapL p (cutG a w) 12) (wantS a (cutG a w) 12) iL5).2.1)), (9, .int (nI (handS w s0 (mapL p (cutG a w) 12) (wantS a (cutG a w) 12) iL5).2.2)), (10, .int x4e5s112)]) [2, 3, 4, 5, 6, 0] rfl ?_
        refine GW_eq (u2 := gup wL4e q (.inl ((X.2 1), 12, .inr (.inl ((handS w s0 (mapL p (cutG a w) 12) (wantS a (cutG a w) 12) (iL5 + 1)).1))))) (lv2 := [(2, .ref (ad n)), (3, .int (nI s0)), (4, .ref (ad q)), (7, .long ((handS w s0 (mapL p (cutG a w) 12) (wantS a (cutG a w) 12) (iL5 + 1)).2.1)), (9, .int (nI (handS w s0 (mapL p (cutG a w) 12) (wantS a (cutG a w) 12) (iL5 + 1)).2.2)), (10, .int (nI (iL5 + 1)))]) ?_ ?_ (KL5 trivial)
        · first | (rw [hwL5s]; done) | (rw [hwL5s]; rw [handS_f1 c4e5s76]; done) | (rw [hwL5s]; rw [handS_f1 c4e5s76]; funext k; simp only [gup]; (repeat' split) <;> first | with_reducible rfl | (exfalso; omega) | rfl)
        · rw [handS_f1 c4e5s76]; simp only [ex4e5s112, nI_1]
      · rw [lg_cmp_le] at c4e5s76
        refine g_aload_n C d_X_cut_79 rfl 1 rfl ?_
        refine g_iload C d_X_cut_80 0 rfl ?_
        refine g_lald n 1 C hwL5s_0 rfl (vp_in_nI (by omega) (by decide)) d_X_cut_82 ?_
        rw [show Int32.toNatClampNeg (nI ((s0 + iL5) % 12)) = ((s0 + iL5) % 12) from nI_clamp (by omega)]
        refine g_lconst (v := 0) C d_X_cut_83 (by decide) ?_
        refine g_lcmp C d_X_cut_84 ?_
        refine g_if_le 112 C d_X_cut_85 (by decide) (fun c4e5s85 => ?_) (fun c4e5s85 => ?_)
        · rw [lg_cmp_le] at c4e5s85
          obtain ⟨x4e5s112, ex4e5s112⟩ : ∃ y : Int32, y = (nI iL5) + 1 := ⟨_, rfl⟩
          refine g_iinc (v := x4e5s112) C d_X_cut_112 6 rfl (by rw [ex4e5s112]; rfl) [(10, .int x4e5s112), (11, .int (nI ((s0 + iL5) % 12))), (2, .ref (ad n)), (3, .int (nI s0)), (4, .ref (ad q)), (7, .long ((handS w s0 (mapL p (cutG a w) 12) (wantS a (cutG a w) 12) iL5).2.1)), (9, .int (nI (handS w s0 (mapL p (cutG a w) 12) (wantS a (cutG a w) 12) iL5).2.2))] (by decide) rfl ?_
          refine g_goto 56 C d_X_cut_115 (by decide) ?_
          refine g_fewer (lv' := [(2, .ref (ad n)), (3, .int (nI s0)), (4, .ref (ad q)), (7, .long ((handS w s0 (mapL p (cutG a w) 12) (wantS a (cutG a w) 12) iL5).2.1)), (9, .int (nI (handS w s0 (mapL p (cutG a w) 12) (wantS a (cutG a w) 12) iL5).2.2)), (10, .int x4e5s112)]) [2, 3, 4, 5, 6, 0] rfl ?_
          refine GW_eq (u2 := gup wL4e q (.inl ((X.2 1), 12, .inr (.inl ((handS w s0 (mapL p (cutG a w) 12) (wantS a (cutG a w) 12) (iL5 + 1)).1))))) (lv2 := [(2, .ref (ad n)), (3, .int (nI s0)), (4, .ref (ad q)), (7, .long ((handS w s0 (mapL p (cutG a w) 12) (wantS a (cutG a w) 12) (iL5 + 1)).2.1)), (9, .int (nI (handS w s0 (mapL p (cutG a w) 12) (wantS a (cutG a w) 12) (iL5 + 1)).2.2)), (10, .int (nI (iL5 + 1)))]) ?_ ?_ (KL5 trivial)
          · first | (rw [hwL5s]; done) | (rw [hwL5s]; rw [handS_f2 c4e5s85]; done) | (rw [hwL5s]; rw [handS_f2 c4e5s85]; simp only [ex4e5s112]; done) | (rw [hwL5s]; rw [handS_f2 c4e5s85]; simp only [ex4e5s112]; funext k; simp only [gup]; (repeat' split) <;> first | with_reducible rfl | (exfalso; omega) | rfl)
          · rw [handS_f2 c4e5s85]; simp only [ex4e5s112, nI_1]
        · rw [lg_cmp_le] at c4e5s85
          refine g_aload C d_X_cut_88 3 rfl ?_
          refine g_iload C d_X_cut_90 0 rfl ?_
          refine g_dup2_11 C d_X_cut_92 rfl rfl ?_
          refine g_lald q 1 C hwL5s_1 rfl (vp_in_nI (by omega) (by decide)) d_X_cut_93 ?_
          rw [show Int32.toNatClampNeg (nI ((s0 + iL5) % 12)) = ((s0 + iL5) % 12) from nI_clamp (by omega)]
          refine g_lconst (v := 1) C d_X_cut_94 (by decide) ?_
          refine g_ladd C d_X_cut_95 ?_
          refine g_topl (fun x4e5s96 ex4e5s96 => ?_)
          refine g_last q 1 C hwL5s_1 rfl (vp_in_nI (by omega) (by decide)) d_X_cut_96 ?_
          rw [show Int32.toNatClampNeg (nI ((s0 + iL5) % 12)) = ((s0 + iL5) % 12) from nI_clamp (by omega)]
          obtain ⟨u4e5s2, hu4e5s2⟩ : ∃ z, z = gup wL5s q (.inl ((X.2 1), 12, .inr (.inl (vp_updL ((handS w s0 (mapL p (cutG a w) 12) (wantS a (cutG a w) 12) iL5).1) ((s0 + iL5) % 12) x4e5s96)))) := ⟨_, rfl⟩
          rw [← hu4e5s2]
          have hu4e5s2_0 : u4e5s2 n = some (.inl ((X.2 1), 12, .inr (.inl w))) := by rw [hu4e5s2, gup_ne (by omega)]; exact hwL5s_0
          have hu4e5s2_1 : u4e5s2 q = some (.inl ((X.2 1), 12, .inr (.inl (vp_updL ((handS w s0 (mapL p (cutG a w) 12) (wantS a (cutG a w) 12) iL5).1) ((s0 + iL5) % 12) x4e5s96)))) := by rw [hu4e5s2]; exact gup_self _ _ _
          refine g_lload C d_X_cut_97 4 rfl ?_
          refine g_lconst (v := 1) C d_X_cut_99 (by decide) ?_
          refine g_lsub C d_X_cut_100 ?_
          refine g_topl (fun x4e5s101 ex4e5s101 => ?_)
          refine g_lstore C d_X_cut_101 [(7, .long x4e5s101), (11, .int (nI ((s0 + iL5) % 12))), (2, .ref (ad n)), (3, .int (nI s0)), (4, .ref (ad q)), (9, .int (nI (handS w s0 (mapL p (cutG a w) 12) (wantS a (cutG a w) 12) iL5).2.2)), (10, .int (nI iL5))] (by decide) rfl ?_
          refine g_iload C d_X_cut_103 1 rfl ?_
          refine g_iconst (v := 1) C d_X_cut_105 (by decide) ?_
          refine g_iadd C d_X_cut_106 ?_
          refine g_bipush (v := 12) C d_X_cut_107 (by decide) ?_
          refine g_irem C d_X_cut_109 (by decide) ?_
          rw [show ((nI ((s0 + iL5) % 12)) + 1) - ((nI ((s0 + iL5) % 12)) + 1) / 12 * 12 = nI (((s0 + iL5) % 12 + 1) % 12) from (by rw [nI_1]; exact rem12 (by omega))]
          refine g_istore C d_X_cut_110 [(9, .int (nI (((s0 + iL5) % 12 + 1) % 12))), (7, .long x4e5s101), (11, .int (nI ((s0 + iL5) % 12))), (2, .ref (ad n)), (3, .int (nI s0)), (4, .ref (ad q)), (10, .int (nI iL5))] (by decide) rfl ?_
          obtain ⟨x4e5s112, ex4e5s112⟩ : ∃ y : Int32, y = (nI iL5) + 1 := ⟨_, rfl⟩
          refine g_iinc (v := x4e5s112) C d_X_cut_112 6 rfl (by rw [ex4e5s112]; rfl) [(10, .int x4e5s112), (9, .int (nI (((s0 + iL5) % 12 + 1) % 12))), (7, .long x4e5s101), (11, .int (nI ((s0 + iL5) % 12))), (2, .ref (ad n)), (3, .int (nI s0)), (4, .ref (ad q))] (by decide) rfl ?_
          refine g_goto 56 C d_X_cut_115 (by decide) ?_
          refine g_fewer (lv' := [(2, .ref (ad n)), (3, .int (nI s0)), (4, .ref (ad q)), (7, .long x4e5s101), (9, .int (nI (((s0 + iL5) % 12 + 1) % 12))), (10, .int x4e5s112)]) [4, 5, 6, 2, 1, 0] rfl ?_
          refine GW_eq (u2 := gup wL4e q (.inl ((X.2 1), 12, .inr (.inl ((handS w s0 (mapL p (cutG a w) 12) (wantS a (cutG a w) 12) (iL5 + 1)).1))))) (lv2 := [(2, .ref (ad n)), (3, .int (nI s0)), (4, .ref (ad q)), (7, .long ((handS w s0 (mapL p (cutG a w) 12) (wantS a (cutG a w) 12) (iL5 + 1)).2.1)), (9, .int (nI (handS w s0 (mapL p (cutG a w) 12) (wantS a (cutG a w) 12) (iL5 + 1)).2.2)), (10, .int (nI (iL5 + 1)))]) ?_ ?_ (KL5 trivial)
          · first | (rw [hu4e5s2, hwL5s]; done) | (rw [hu4e5s2, hwL5s]; rw [handS_t c4e5s76 c4e5s85]; done) | (rw [hu4e5s2, hwL5s]; rw [handS_t c4e5s76 c4e5s85]; simp only [ex4e5s96, ex4e5s101, ex4e5s112]; done) | (rw [hu4e5s2, hwL5s]; rw [handS_t c4e5s76 c4e5s85]; simp only [ex4e5s96, ex4e5s101, ex4e5s112]; funext k; simp only [gup]; (repeat' split) <;> first | with_reducible rfl | (exfalso; omega) | rfl)
          · rw [handS_t c4e5s76 c4e5s85]; simp only [ex4e5s96, ex4e5s101, ex4e5s112, nI_1]
    · skip
      show GW Z _ _ _ ad (gup wL4e q (.inl ((X.2 1), 12, .inr (.inl ((handS w s0 (mapL p (cutG a w) 12) (wantS a (cutG a w) 12) 12).1))))) _ [(2, .ref (ad n)), (3, .int (nI s0)), (4, .ref (ad q)), (7, .long ((handS w s0 (mapL p (cutG a w) 12) (wantS a (cutG a w) 12) 12).2.1)), (9, .int (nI (handS w s0 (mapL p (cutG a w) 12) (wantS a (cutG a w) 12) 12).2.2)), (10, .int (nI 12))] _ _ 56 []
      obtain ⟨wL5e, hwL5e⟩ : ∃ z, z = gup wL4e q (.inl ((X.2 1), 12, .inr (.inl ((handS w s0 (mapL p (cutG a w) 12) (wantS a (cutG a w) 12) 12).1)))) := ⟨_, rfl⟩
      rw [← hwL5e]
      have hwL5e_0 : wL5e n = some (.inl ((X.2 1), 12, .inr (.inl w))) := by rw [hwL5e, gup_ne (by omega)]; exact hwL4e_0
      have hwL5e_1 : wL5e q = some (.inl ((X.2 1), 12, .inr (.inl ((handS w s0 (mapL p (cutG a w) 12) (wantS a (cutG a w) 12) 12).1)))) := by rw [hwL5e, gup_self]
      refine g_iload C d_X_cut_56 5 rfl ?_
      refine g_bipush (v := 12) C d_X_cut_58 (by decide) ?_
      refine g_icmp_ge 118 C d_X_cut_60 (by decide) (fun c4e5e60 => ?_) (fun c4e5e60 => ?_)
      rotate_left
      · exact absurd (by decide) c4e5e60
      refine g_iload C d_X_cut_118 4 rfl ?_
      exact g_iret C hR hret ⟨rfl, (by rw [hwL5e, hwL4e, gup_gup]), rfl⟩ d_X_cut_120
