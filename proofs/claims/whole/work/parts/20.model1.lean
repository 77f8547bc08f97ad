def mO (ad : Nat → Nat) (m : Nat) (th cl dr wy ce ra li bi : Int32) : va_E := .inr (6, [.int th, .int cl, .ref (ad (m + 1)), .ref (ad (m + 2)), .ref (ad (m + 3)), .int dr, .int wy, .int ce, .int ra, .ref (ad (m + 4)), .ref (ad (m + 5)), .int li, .ref (ad (m + 6)), .ref (ad (m + 7)), .ref (ad (m + 8)), .int bi, .ref (ad (m + 9)), .ref (ad (m + 10)), .ref (ad (m + 11)), .ref (ad (m + 12)), .ref (ad (m + 13)), .ref (ad (m + 14)), .ref (ad (m + 15)), .ref (ad (m + 16)), .ref (ad (m + 17)), .ref (ad (m + 18)), .ref (ad (m + 19)), .ref (ad (m + 20)), .ref (ad (m + 21)), .ref (ad (m + 22)), .ref (ad (m + 23)), .ref (ad (m + 24)), .ref (ad (m + 25))])
theorem in4x {x cl : Int32} (h : isMb x cl = true) (hc : cl ≤ 4) : vp_in x 4 := by
  simp only [isMb, Bool.and_eq_true, Bool.not_eq_true', decide_eq_false_iff_not] at h
  rw [vp_in_iff]
  have h0 := h.1
  have h1 := h.2
  rw [Int32.lt_iff_toInt_lt] at h0
  rw [Int32.le_iff_toInt_le] at h1 hc
  have e1 : (0 : Int32).toInt = 0 := by decide
  have e2 : (4 : Int32).toInt = 4 := by decide
  omega
theorem in12m {x k : Int32} (h : isMb x k = true) (hc : k ≤ 12) : vp_in x 12 := by
  simp only [isMb, Bool.and_eq_true, Bool.not_eq_true', decide_eq_false_iff_not] at h
  rw [vp_in_iff]
  have h0 := h.1
  have h1 := h.2
  rw [Int32.lt_iff_toInt_lt] at h0
  rw [Int32.le_iff_toInt_le] at h1 hc
  have e1 : (0 : Int32).toInt = 0 := by decide
  have e2 : (12 : Int32).toInt = 12 := by decide
  omega
theorem vp_nat {x : Int32} {n : Nat} (h : vp_in x n) (hn : n < 2 ^ 31) : ∃ j, j < n ∧ x = nI j ∧ x.toNatClampNeg = j := by
  obtain ⟨j, h1, h2⟩ := vp_in_of h hn
  exact ⟨j, h1, h2, by rw [h2]; exact nI_clamp (by omega)⟩
/-- the place 12 c + m -/
theorem in48 {c m : Int32} (hc : vp_in c 4) (hm : vp_in m 12) : vp_in (12 * c + m) 48 ∧ (12 * c + m).toNatClampNeg = 12 * c.toNatClampNeg + m.toNatClampNeg := by
  obtain ⟨i, h1, h2, h3⟩ := vp_nat hc (by decide)
  obtain ⟨j, g1, g2, g3⟩ := vp_nat hm (by decide)
  have e : 12 * c + m = nI (12 * i + j) := by
    rw [h2, g2, show (12 : Int32) = nI 12 from rfl, pk_mul, nI_add]
  rw [e, h3, g3]
  exact ⟨vp_in_nI (by omega) (by decide), nI_clamp (by omega)⟩
def memM (cl : Int32) (mem : Nat → Int32) (c x : Int32) : Bool := isMb c cl && (!decide (x < 0) && !decide (mem c.toNatClampNeg ≤ x))
def staM (cl dr : Int32) (mem lef : Nat → Int32) (x : Int32) : Bool := !decide (dr = -1) && (memM cl mem dr x && decide (lef (12 * dr.toNatClampNeg + x.toNatClampNeg) = 0))
def withM (v lo hi : Int32) : Bool := !decide (v < lo) && !decide (hi < v)
set_option maxHeartbeats 4000000 in
set_option maxRecDepth 100000 in
theorem k_M_isClub (l : Launch) (X : gX) (ad : Nat → Nat) (u : gW) (sz : Nat) (m : Nat) (th cl dr wy ce ra li bi : Int32) (c : Int32) (hm : u m = some (mO ad m th cl dr wy ce ra li bi))  : gMet l (EE X) y_M_isClub c_M_isClub 2 (some .boolean) ({ frames := 0, cells := 0, slots := 0, locals := 0 }) [.ref (ad m), .int c] ad u sz (fun v u' sz' => v = some (.int (bI (isMb c cl))) ∧ u' = u ∧ sz' = sz) := by
  refine gMet_of "ExpenseClubsModel" rfl (by decide) (Nat.le_of_ble_eq_true rfl) (lv := [(0, .ref (ad m)), (1, .int c)]) rfl (fun Z hZl C hR hret hname => ?_)
  refine g_iload_n C d_M_isClub_0 rfl 1 rfl ?_
  refine g_if_lt 16 C d_M_isClub_1 (by decide) (fun c1 => ?_) (fun c1 => ?_)
  · skip
    refine g_iconst (v := 0) C d_M_isClub_16 (by decide) ?_
    exact g_zret C hR hret rfl ⟨by simp only [isMb, decide_eq_true c1, if_pos c1, Bool.not_true, Bool.not_false, Bool.and_true, Bool.true_and, Bool.false_and, Bool.and_false, bI_t, bI_f], rfl, rfl⟩ d_M_isClub_17
  · skip
    refine g_iload_n C d_M_isClub_4 rfl 1 rfl ?_
    refine g_aload_n C d_M_isClub_5 rfl 0 rfl ?_
    refine g_get m 1 C hm rfl i_M (by decide) (gmem wd_519 rfl) rfl rfl d_M_isClub_6 ?_
    refine g_icmp_ge 16 C d_M_isClub_9 (by decide) (fun c9 => ?_) (fun c9 => ?_)
    · skip
      refine g_iconst (v := 0) C d_M_isClub_16 (by decide) ?_
      exact g_zret C hR hret rfl ⟨by simp only [isMb, decide_eq_false c1, if_neg c1, decide_eq_true c9, if_pos c9, Bool.not_true, Bool.not_false, Bool.and_true, Bool.true_and, Bool.false_and, Bool.and_false, bI_t, bI_f], rfl, rfl⟩ d_M_isClub_17
    · skip
      refine g_iconst (v := 1) C d_M_isClub_12 (by decide) ?_
      refine g_goto 17 C d_M_isClub_13 (by decide) ?_
      exact g_zret C hR hret rfl ⟨by simp only [isMb, decide_eq_false c1, if_neg c1, decide_eq_false c9, if_neg c9, Bool.not_true, Bool.not_false, Bool.and_true, Bool.true_and, Bool.false_and, Bool.and_false, bI_t, bI_f], rfl, rfl⟩ d_M_isClub_17

set_option maxHeartbeats 4000000 in
set_option maxRecDepth 100000 in
theorem k_M_isMember (l : Launch) (X : gX) (ad : Nat → Nat) (u : gW) (sz : Nat) (m : Nat) (th cl dr wy ce ra li bi : Int32) (mem : Nat → Int32) (c x : Int32) (hm : u m = some (mO ad m th cl dr wy ce ra li bi)) (h_mem : u (m + 1) = some (.inl ((X.2 0), 4, .inl mem))) (hcl : cl ≤ 4) : gMet l (EE X) y_M_isMember c_M_isMember 3 (some .boolean) ({ frames := 1, cells := 0, slots := 0, locals := 21 }) [.ref (ad m), .int c, .int x] ad u sz (fun v u' sz' => v = some (.int (bI (memM cl mem c x))) ∧ u' = u ∧ sz' = sz) := by
  refine gMet_of "ExpenseClubsModel" rfl (by decide) (Nat.le_of_ble_eq_true rfl) (lv := [(0, .ref (ad m)), (1, .int c), (2, .int x)]) rfl (fun Z hZl C hR hret hname => ?_)
  refine g_aload_n C d_M_isMember_0 rfl 0 rfl ?_
  refine g_iload_n C d_M_isMember_1 rfl 1 rfl ?_
  refine g_callV 1 C (k_M_isClub _ X ad u sz m th cl dr wy ce ra li bi  c hm ) (gmem wd_630 rfl) (gmem wd_632 rfl) (gmem ws_10 rfl) (gmem wd_4 rfl) (gmem wd_633 rfl) ⟨by decide, by decide, by decide +kernel⟩ ⟨Nat.le_of_ble_eq_true rfl, Nat.le_of_ble_eq_true rfl⟩ hm rfl rfl rfl (Nat.le_of_ble_eq_true rfl) d_M_isMember_2 ⟨Nat.le_of_ble_eq_true rfl, Nat.le_of_ble_eq_true rfl⟩ ?_
  rintro v9 u9 s9 ⟨h9, hu9, hs9⟩; rw [h9, hu9, hs9]; clear h9 hu9 hs9 v9 u9 s9
  show GW Z _ _ _ ad u sz [(0, .ref (ad m)), (1, .int c), (2, .int x)] 0 0 5 [.int (bI (isMb c cl))]
  refine g_if_eq 26 C d_M_isMember_5 (by decide) (fun c5 => ?_) (fun c5 => ?_)
  · skip
    refine g_iconst (v := 0) C d_M_isMember_26 (by decide) ?_
    exact g_zret C hR hret rfl ⟨by simp only [memM, bI_eq0.mp c5, Bool.not_true, Bool.not_false, Bool.and_true, Bool.true_and, Bool.false_and, Bool.and_false, bI_t, bI_f], rfl, rfl⟩ d_M_isMember_27
  · skip
    refine g_iload_n C d_M_isMember_8 rfl 2 rfl ?_
    refine g_if_lt 26 C d_M_isMember_9 (by decide) (fun c9 => ?_) (fun c9 => ?_)
    · skip
      refine g_iconst (v := 0) C d_M_isMember_26 (by decide) ?_
      exact g_zret C hR hret rfl ⟨by simp only [memM, bI_ne0.mp c5, decide_eq_true c9, if_pos c9, Bool.not_true, Bool.not_false, Bool.and_true, Bool.true_and, Bool.false_and, Bool.and_false, bI_t, bI_f], rfl, rfl⟩ d_M_isMember_27
    · skip
      refine g_iload_n C d_M_isMember_12 rfl 2 rfl ?_
      refine g_aload_n C d_M_isMember_13 rfl 0 rfl ?_
      refine g_get m 2 C hm rfl i_M (by decide) (gmem wd_520 rfl) rfl rfl d_M_isMember_14 ?_
      refine g_iload_n C d_M_isMember_17 rfl 1 rfl ?_
      refine g_iald (m + 1) 0 C h_mem rfl (in4x (bI_ne0.mp c5) hcl) d_M_isMember_18 ?_
      refine g_icmp_ge 26 C d_M_isMember_19 (by decide) (fun c19 => ?_) (fun c19 => ?_)
      · skip
        refine g_iconst (v := 0) C d_M_isMember_26 (by decide) ?_
        exact g_zret C hR hret rfl ⟨by simp only [memM, bI_ne0.mp c5, decide_eq_false c9, if_neg c9, decide_eq_true c19, if_pos c19, Bool.not_true, Bool.not_false, Bool.and_true, Bool.true_and, Bool.false_and, Bool.and_false, bI_t, bI_f], rfl, rfl⟩ d_M_isMember_27
      · skip
        refine g_iconst (v := 1) C d_M_isMember_22 (by decide) ?_
        refine g_goto 27 C d_M_isMember_23 (by decide) ?_
        exact g_zret C hR hret rfl ⟨by simp only [memM, bI_ne0.mp c5, decide_eq_false c9, if_neg c9, decide_eq_false c19, if_neg c19, Bool.not_true, Bool.not_false, Bool.and_true, Bool.true_and, Bool.false_and, Bool.and_false, bI_t, bI_f], rfl, rfl⟩ d_M_isMember_27

set_option maxHeartbeats 4000000 in
set_option maxRecDepth 100000 in
theorem k_M_within (l : Launch) (X : gX) (ad : Nat → Nat) (u : gW) (sz : Nat) (v0 lo hi : Int32)   : gMet l (EE X) y_M_within c_M_within 3 (some .boolean) ({ frames := 0, cells := 0, slots := 0, locals := 0 }) [.int v0, .int lo, .int hi] ad u sz (fun v u' sz' => v = some (.int (bI (withM v0 lo hi))) ∧ u' = u ∧ sz' = sz) := by
  refine gMet_of "ExpenseClubsModel" rfl (by decide) (Nat.le_of_ble_eq_true rfl) (lv := [(0, .int v0), (1, .int lo), (2, .int hi)]) rfl (fun Z hZl C hR hret hname => ?_)
  refine g_iload_n C d_M_within_0 rfl 0 rfl ?_
  refine g_iload_n C d_M_within_1 rfl 1 rfl ?_
  refine g_icmp_lt 14 C d_M_within_2 (by decide) (fun c2 => ?_) (fun c2 => ?_)
  · skip
    refine g_iconst (v := 0) C d_M_within_14 (by decide) ?_
    exact g_zret C hR hret rfl ⟨by simp only [withM, decide_eq_true c2, if_pos c2, Bool.not_true, Bool.not_false, Bool.and_true, Bool.true_and, Bool.false_and, Bool.and_false, bI_t, bI_f], rfl, rfl⟩ d_M_within_15
  · skip
    refine g_iload_n C d_M_within_5 rfl 0 rfl ?_
    refine g_iload_n C d_M_within_6 rfl 2 rfl ?_
    refine g_icmp_gt 14 C d_M_within_7 (by decide) (fun c7 => ?_) (fun c7 => ?_)
    · skip
      refine g_iconst (v := 0) C d_M_within_14 (by decide) ?_
      exact g_zret C hR hret rfl ⟨by simp only [withM, decide_eq_false c2, if_neg c2, decide_eq_true c7, if_pos c7, Bool.not_true, Bool.not_false, Bool.and_true, Bool.true_and, Bool.false_and, Bool.and_false, bI_t, bI_f], rfl, rfl⟩ d_M_within_15
    · skip
      refine g_iconst (v := 1) C d_M_within_10 (by decide) ?_
      refine g_goto 15 C d_M_within_11 (by decide) ?_
      exact g_zret C hR hret rfl ⟨by simp only [withM, decide_eq_false c2, if_neg c2, decide_eq_false c7, if_neg c7, Bool.not_true, Bool.not_false, Bool.and_true, Bool.true_and, Bool.false_and, Bool.and_false, bI_t, bI_f], rfl, rfl⟩ d_M_within_15

def parB (a b : Int64) (i : Nat) (r : Int64) : Int64 := 2 * r + (if ¬ (a >>> ((nI (62 - i)).toInt64 &&& 63)) &&& 1 = 1 then 0 else b)
def parS (a b c : Int64) : Nat → Int64 × Int64
  | 0 => (0, 0)
  | i + 1 => (2 * (parS a b c i).1 + parB a b i (parS a b c i).2 / c, parB a b i (parS a b c i).2 - parB a b i (parS a b c i).2 / c * c)
def kIx : Nat → Int32 := fun i => nI 62 - nI i
theorem kIx_nn {i : Nat} (h : i < 63) : ¬ kIx i < 0 := (show ∀ i, i < 63 → ¬ kIx i < 0 by decide +kernel) i h
theorem kIx_s {i : Nat} (h : i < 63) : kIx i + (-1) = kIx (i + 1) := (show ∀ i, i < 63 → kIx i + (-1) = kIx (i + 1) by decide +kernel) i h
theorem kIx_e {i : Nat} (h : i < 63) : kIx i = nI (62 - i) := (show ∀ i, i < 63 → kIx i = nI (62 - i) by decide +kernel) i h
set_option maxHeartbeats 4000000 in
set_option maxRecDepth 100000 in
theorem k_M_part (l : Launch) (X : gX) (ad : Nat → Nat) (u : gW) (sz : Nat) (a b c : Int64)  (hc : ¬ c = 0) : gMet l (EE X) y_M_part c_M_part 11 (some .long) ({ frames := 0, cells := 0, slots := 0, locals := 0 }) [.long a, .long b, .long c] ad u sz (fun v u' sz' => v = some (.long ((parS a b c 63).1)) ∧ u' = u ∧ sz' = sz) := by
  refine gMet_of "ExpenseClubsModel" rfl (by decide) (Nat.le_of_ble_eq_true rfl) (lv := [(0, .long a), (2, .long b), (4, .long c)]) rfl (fun Z hZl C hR hret hname => ?_)
  refine g_lconst (v := 0) C d_M_part_0 (by decide) ?_
  refine g_lstore C d_M_part_1 [(6, .long 0), (0, .long a), (2, .long b), (4, .long c)] (by decide) rfl ?_
  refine g_lconst (v := 0) C d_M_part_3 (by decide) ?_
  refine g_lstore C d_M_part_4 [(8, .long 0), (6, .long 0), (0, .long a), (2, .long b), (4, .long c)] (by decide) rfl ?_
  refine g_bipush (v := 62) C d_M_part_6 (by decide) ?_
  refine g_istore C d_M_part_8 [(10, .int 62), (8, .long 0), (6, .long 0), (0, .long a), (2, .long b), (4, .long c)] (by decide) rfl ?_
  refine g_fewer (lv' := [(0, .long a), (2, .long b), (4, .long c), (6, .long 0), (8, .long 0), (10, .int 62)]) [3, 4, 5, 2, 1, 0] rfl ?_
  refine GW_eq (u2 := u) (lv2 := [(0, .long a), (2, .long b), (4, .long c), (6, .long ((parS a b c 0).1)), (8, .long ((parS a b c 0).2)), (10, .int (kIx 0))]) rfl rfl ?_
  refine g_loop 63 (fun iL1 => True) (fun iL1 => u) (fun iL1 => [(0, .long a), (2, .long b), (4, .long c), (6, .long ((parS a b c iL1).1)), (8, .long ((parS a b c iL1).2)), (10, .int (kIx iL1))]) (fun iL1 hiL1 piL1 KL1 => ?_) (fun piL1 => ?_) 0 (by omega) trivial
  · skip
    show GW Z _ _ _ ad (u) _ [(0, .long a), (2, .long b), (4, .long c), (6, .long ((parS a b c iL1).1)), (8, .long ((parS a b c iL1).2)), (10, .int (kIx iL1))] _ _ 10 []
    obtain ⟨wL1s, hwL1s⟩ : ∃ z, z = u := ⟨_, rfl⟩
    rw [← hwL1s]
    refine g_iload C d_M_part_10 5 rfl ?_
    refine g_if_lt 67 C d_M_part_12 (by decide) (fun c1s12 => ?_) (fun c1s12 => ?_)
    · exact absurd c1s12 (kIx_nn hiL1)
    refine g_ldc2 C (gmem wd_700 rfl) d_M_part_15 ?_
    refine g_lload C d_M_part_18 4 rfl ?_
    refine g_lmul C d_M_part_20 ?_
    refine g_lload_n C d_M_part_21 rfl 0 rfl ?_
    refine g_iload C d_M_part_22 5 rfl ?_
    refine g_lshr C d_M_part_24 ?_
    refine g_lconst (v := 1) C d_M_part_25 (by decide) ?_
    refine g_land C d_M_part_26 ?_
    refine g_lconst (v := 1) C d_M_part_27 (by decide) ?_
    refine g_lcmp C d_M_part_28 ?_
    refine g_if_ne 36 C d_M_part_29 (by decide) (fun c1s29 => ?_) (fun c1s29 => ?_)
    · rw [lg_cmp_eq] at c1s29
      refine g_lconst (v := 0) C d_M_part_36 (by decide) ?_
      refine g_ladd C d_M_part_37 ?_
      refine g_topl (fun x1s38 ex1s38 => ?_)
      refine g_lstore C d_M_part_38 [(8, .long x1s38), (0, .long a), (2, .long b), (4, .long c), (6, .long ((parS a b c iL1).1)), (10, .int (kIx iL1))] (by decide) rfl ?_
      refine g_ldc2 C (gmem wd_700 rfl) d_M_part_40 ?_
      refine g_lload C d_M_part_43 4 rfl ?_
      refine g_lmul C d_M_part_45 ?_
      refine g_lload C d_M_part_46 0 rfl ?_
      refine g_lload C d_M_part_48 3 rfl ?_
      refine g_ldiv C d_M_part_50 hc ?_
      refine g_ladd C d_M_part_51 ?_
      refine g_topl (fun x1s52 ex1s52 => ?_)
      refine g_lstore C d_M_part_52 [(6, .long x1s52), (8, .long x1s38), (0, .long a), (2, .long b), (4, .long c), (10, .int (kIx iL1))] (by decide) rfl ?_
      refine g_lload C d_M_part_54 1 rfl ?_
      refine g_lload C d_M_part_56 4 rfl ?_
      refine g_lrem C d_M_part_58 hc ?_
      refine g_topl (fun x1s59 ex1s59 => ?_)
      refine g_lstore C d_M_part_59 [(8, .long x1s59), (6, .long x1s52), (0, .long a), (2, .long b), (4, .long c), (10, .int (kIx iL1))] (by decide) rfl ?_
      obtain ⟨x1s61, ex1s61⟩ : ∃ y : Int32, y = (kIx iL1) + (-1) := ⟨_, rfl⟩
      refine g_iinc (v := x1s61) C d_M_part_61 5 rfl (by rw [ex1s61]; rfl) [(10, .int x1s61), (8, .long x1s59), (6, .long x1s52), (0, .long a), (2, .long b), (4, .long c)] (by decide) rfl ?_
      refine g_goto 10 C d_M_part_64 (by decide) ?_
      refine g_fewer (lv' := [(0, .long a), (2, .long b), (4, .long c), (6, .long x1s52), (8, .long x1s59), (10, .int x1s61)]) [3, 4, 5, 2, 1, 0] rfl ?_
      refine GW_eq (u2 := u) (lv2 := [(0, .long a), (2, .long b), (4, .long c), (6, .long ((parS a b c (iL1 + 1)).1)), (8, .long ((parS a b c (iL1 + 1)).2)), (10, .int (kIx (iL1 + 1)))]) ?_ ?_ (KL1 trivial)
      · first | (rw [hwL1s]; done) | (rw [hwL1s]; funext k; simp only [gup]; (repeat' split) <;> first | with_reducible rfl | (exfalso; omega) | rfl)
      · rw [kIx_e hiL1] at c1s29; simp only [ex1s38, ex1s52, ex1s59, ex1s61, kIx_s hiL1, parS, parB, if_pos c1s29]
    · rw [lg_cmp_eq] at c1s29
      refine g_lload_n C d_M_part_32 rfl 1 rfl ?_
      refine g_goto 37 C d_M_part_33 (by decide) ?_
      refine g_ladd C d_M_part_37 ?_
      refine g_topl (fun x1s38 ex1s38 => ?_)
      refine g_lstore C d_M_part_38 [(8, .long x1s38), (0, .long a), (2, .long b), (4, .long c), (6, .long ((parS a b c iL1).1)), (10, .int (kIx iL1))] (by decide) rfl ?_
      refine g_ldc2 C (gmem wd_700 rfl) d_M_part_40 ?_
      refine g_lload C d_M_part_43 4 rfl ?_
      refine g_lmul C d_M_part_45 ?_
      refine g_lload C d_M_part_46 0 rfl ?_
      refine g_lload C d_M_part_48 3 rfl ?_
      refine g_ldiv C d_M_part_50 hc ?_
      refine g_ladd C d_M_part_51 ?_
      refine g_topl (fun x1s52 ex1s52 => ?_)
      refine g_lstore C d_M_part_52 [(6, .long x1s52), (8, .long x1s38), (0, .long a), (2, .long b), (4, .long c), (10, .int (kIx iL1))] (by decide) rfl ?_
      refine g_lload C d_M_part_54 1 rfl ?_
      refine g_lload C d_M_part_56 4 rfl ?_
      refine g_lrem C d_M_part_58 hc ?_
      refine g_topl (fun x1s59 ex1s59 => ?_)
      refine g_lstore C d_M_part_59 [(8, .long x1s59), (6, .long x1s52), (0, .long a), (2, .long b), (4, .long c), (10, .int (kIx iL1))] (by decide) rfl ?_
      obtain ⟨x1s61, ex1s61⟩ : ∃ y : Int32, y = (kIx iL1) + (-1) := ⟨_, rfl⟩
      refine g_iinc (v := x1s61) C d_M_part_61 5 rfl (by rw [ex1s61]; rfl) [(10, .int x1s61), (8, .long x1s59), (6, .long x1s52), (0, .long a), (2, .long b), (4, .long c)] (by decide) rfl ?_
      refine g_goto 10 C d_M_part_64 (by decide) ?_
      refine g_fewer (lv' := [(0, .long a), (2, .long b), (4, .long c), (6, .long x1s52), (8, .long x1s59), (10, .int x1s61)]) [3, 4, 5, 2, 1, 0] rfl ?_
      refine GW_eq (u2 := u) (lv2 := [(0, .long a), (2, .long b), (4, .long c), (6, .long ((parS a b c (iL1 + 1)).1)), (8, .long ((parS a b c (iL1 + 1)).2)), (10, .int (kIx (iL1 + 1)))]) ?_ ?_ (KL1 trivial)
      · first | (rw [hwL1s]; done) | (rw [hwL1s]; funext k; simp only [gup]; (repeat' split) <;> first | with_reducible rfl | (exfalso; omega) | rfl)
      · rw [kIx_e hiL1] at c1s29; simp only [ex1s38, ex1s52, ex1s59, ex1s61, kIx_s hiL1, parS, parB, if_neg (not_not_intro c1s29)]
  · skip
    show GW Z _ _ _ ad (u) _ [(0, .long a), (2, .long b), (4, .long c), (6, .long ((parS a b c 63).1)), (8, .long ((parS a b c 63).2)), (10, .int (kIx 63))] _ _ 10 []
    obtain ⟨wL1e, hwL1e⟩ : ∃ z, z = u := ⟨_, rfl⟩
    rw [← hwL1e]
    refine g_iload C d_M_part_10 5 rfl ?_
    refine g_if_lt 67 C d_M_part_12 (by decide) (fun c1e12 => ?_) (fun c1e12 => ?_)
    rotate_left
    · exact absurd (by decide) c1e12
    refine g_lload C d_M_part_67 3 rfl ?_
    exact g_lret C hR hret ⟨rfl, (by first | (rw [hwL1e]; done) | (rw [hwL1e]; funext k; simp only [gup]; (repeat' split) <;> first | with_reducible rfl | (exfalso; omega) | rfl)), rfl⟩ d_M_part_69

def sizS (s : Int32) : Nat → Int32
  | 0 => 0
  | i + 1 => sizS s i + ((s >>> (nI i &&& 31)) &&& 1)
set_option maxHeartbeats 4000000 in
set_option maxRecDepth 100000 in
theorem k_M_size (l : Launch) (X : gX) (ad : Nat → Nat) (u : gW) (sz : Nat) (x : Int32)   : gMet l (EE X) y_M_size c_M_size 3 (some .int) ({ frames := 0, cells := 0, slots := 0, locals := 0 }) [.int x] ad u sz (fun v u' sz' => v = some (.int (sizS x 12)) ∧ u' = u ∧ sz' = sz) := by
  refine gMet_of "ExpenseClubsModel" rfl (by decide) (Nat.le_of_ble_eq_true rfl) (lv := [(0, .int x)]) rfl (fun Z hZl C hR hret hname => ?_)
  refine g_iconst (v := 0) C d_M_size_0 (by decide) ?_
  refine g_istore_n C d_M_size_1 rfl [(1, .int 0), (0, .int x)] (by decide) rfl ?_
  refine g_iconst (v := 0) C d_M_size_2 (by decide) ?_
  refine g_istore_n C d_M_size_3 rfl [(2, .int 0), (1, .int 0), (0, .int x)] (by decide) rfl ?_
  refine g_fewer (lv' := [(0, .int x), (1, .int 0), (2, .int 0)]) [2, 1, 0] rfl ?_
  refine GW_eq (u2 := u) (lv2 := [(0, .int x), (1, .int (sizS x 0)), (2, .int (nI 0))]) rfl rfl ?_
  refine g_loop 12 (fun iL2 => True) (fun iL2 => u) (fun iL2 => [(0, .int x), (1, .int (sizS x iL2)), (2, .int (nI iL2))]) (fun iL2 hiL2 piL2 KL2 => ?_) (fun piL2 => ?_) 0 (by omega) trivial
  · skip
    show GW Z _ _ _ ad (u) _ [(0, .int x), (1, .int (sizS x iL2)), (2, .int (nI iL2))] _ _ 4 []
    obtain ⟨wL2s, hwL2s⟩ : ∃ z, z = u := ⟨_, rfl⟩
    rw [← hwL2s]
    refine g_iload_n C d_M_size_4 rfl 2 rfl ?_
    refine g_bipush (v := 12) C d_M_size_5 (by decide) ?_
    refine g_icmp_ge 24 C d_M_size_7 (by decide) (fun c2s7 => ?_) (fun c2s7 => ?_)
    · exact absurd c2s7 (ge12 hiL2)
    refine g_iload_n C d_M_size_10 rfl 1 rfl ?_
    refine g_iload_n C d_M_size_11 rfl 0 rfl ?_
    refine g_iload_n C d_M_size_12 rfl 2 rfl ?_
    refine g_ishr C d_M_size_13 ?_
    refine g_iconst (v := 1) C d_M_size_14 (by decide) ?_
    refine g_iand C d_M_size_15 ?_
    refine g_iadd C d_M_size_16 ?_
    refine g_topi (fun x2s17 ex2s17 => ?_)
    refine g_istore_n C d_M_size_17 rfl [(1, .int x2s17), (0, .int x), (2, .int (nI iL2))] (by decide) rfl ?_
    obtain ⟨x2s18, ex2s18⟩ : ∃ y : Int32, y = (nI iL2) + 1 := ⟨_, rfl⟩
    refine g_iinc (v := x2s18) C d_M_size_18 2 rfl (by rw [ex2s18]; rfl) [(2, .int x2s18), (1, .int x2s17), (0, .int x)] (by decide) rfl ?_
    refine g_goto 4 C d_M_size_21 (by decide) ?_
    refine g_fewer (lv' := [(0, .int x), (1, .int x2s17), (2, .int x2s18)]) [2, 1, 0] rfl ?_
    refine GW_eq (u2 := u) (lv2 := [(0, .int x), (1, .int (sizS x (iL2 + 1))), (2, .int (nI (iL2 + 1)))]) ?_ ?_ (KL2 trivial)
    · first | (rw [hwL2s]; done) | (rw [hwL2s]; funext k; simp only [gup]; (repeat' split) <;> first | with_reducible rfl | (exfalso; omega) | rfl)
    · simp only [ex2s17, ex2s18, nI_1]; rfl
  · skip
    show GW Z _ _ _ ad (u) _ [(0, .int x), (1, .int (sizS x 12)), (2, .int (nI 12))] _ _ 4 []
    obtain ⟨wL2e, hwL2e⟩ : ∃ z, z = u := ⟨_, rfl⟩
    rw [← hwL2e]
    refine g_iload_n C d_M_size_4 rfl 2 rfl ?_
    refine g_bipush (v := 12) C d_M_size_5 (by decide) ?_
    refine g_icmp_ge 24 C d_M_size_7 (by decide) (fun c2e7 => ?_) (fun c2e7 => ?_)
    rotate_left
    · exact absurd (by decide) c2e7
    refine g_iload_n C d_M_size_24 rfl 1 rfl ?_
    exact g_iret C hR hret ⟨rfl, (by first | (rw [hwL2e]; done) | (rw [hwL2e]; funext k; simp only [gup]; (repeat' split) <;> first | with_reducible rfl | (exfalso; omega) | rfl)), rfl⟩ d_M_size_25

set_option maxHeartbeats 4000000 in
set_option maxRecDepth 100000 in
theorem k_M_club (l : Launch) (X : gX) (ad : Nat → Nat) (u : gW) (sz : Nat) (m : Nat) (th cl dr wy ce ra li bi : Int32)  (hm : u m = some (mO ad m th cl dr wy ce ra li bi))  : gMet l (EE X) y_M_club c_M_club 1 (some .int) ({ frames := 0, cells := 0, slots := 0, locals := 0 }) [.ref (ad m)] ad u sz (fun v u' sz' => sz' = sz ∧ ((¬ cl = 4 ∧ v = some (.int (cl + 1 - 1)) ∧ u' = gup u m (mO ad m 0 (cl + 1) dr wy ce ra li bi)) ∨ (cl = 4 ∧ v = some (.int (-1)) ∧ u' = gup u m (mO ad m 0 cl dr wy ce ra li bi)))) := by
  refine gMet_of "ExpenseClubsModel" rfl (by decide) (Nat.le_of_ble_eq_true rfl) (lv := [(0, .ref (ad m))]) rfl (fun Z hZl C hR hret hname => ?_)
  refine g_aload_n C d_M_club_0 rfl 0 rfl ?_
  refine g_iconst (v := 0) C d_M_club_1 (by decide) ?_
  refine g_put m 0 C hm rfl i_M t_M t_M_ok n_M (by decide) (gmem wd_518 rfl) rfl rfl rfl rfl (Nat.le_of_ble_eq_true rfl) d_M_club_2 ?_
  show GW Z _ _ _ ad (gup u m (mO ad m 0 cl dr wy ce ra li bi)) _ _ _ _ _ _
  obtain ⟨u1, hu1⟩ : ∃ z, z = gup u m (mO ad m 0 cl dr wy ce ra li bi) := ⟨_, rfl⟩
  rw [← hu1]
  have hu1_0 : u1 m = some (mO ad m 0 cl dr wy ce ra li bi) := by rw [hu1]; exact gup_self _ _ _
  refine g_aload_n C d_M_club_5 rfl 0 rfl ?_
  refine g_get m 1 C hu1_0 rfl i_M (by decide) (gmem wd_519 rfl) rfl rfl d_M_club_6 ?_
  refine g_iconst (v := 4) C d_M_club_9 (by decide) ?_
  refine g_icmp_ne 15 C d_M_club_10 (by decide) (fun c10 => ?_) (fun c10 => ?_)
  · skip
    refine g_aload_n C d_M_club_15 rfl 0 rfl ?_
    refine g_dup C d_M_club_16 rfl ?_
    refine g_get m 1 C hu1_0 rfl i_M (by decide) (gmem wd_519 rfl) rfl rfl d_M_club_17 ?_
    refine g_iconst (v := 1) C d_M_club_20 (by decide) ?_
    refine g_iadd C d_M_club_21 ?_
    refine g_topi (fun x22 ex22 => ?_)
    refine g_put m 1 C hu1_0 rfl i_M t_M t_M_ok n_M (by decide) (gmem wd_519 rfl) rfl rfl rfl rfl (Nat.le_of_ble_eq_true rfl) d_M_club_22 ?_
    show GW Z _ _ _ ad (gup u1 m (mO ad m 0 x22 dr wy ce ra li bi)) _ _ _ _ _ _
    obtain ⟨u2, hu2⟩ : ∃ z, z = gup u1 m (mO ad m 0 x22 dr wy ce ra li bi) := ⟨_, rfl⟩
    rw [← hu2]
    have hu2_0 : u2 m = some (mO ad m 0 x22 dr wy ce ra li bi) := by rw [hu2]; exact gup_self _ _ _
    refine g_aload_n C d_M_club_25 rfl 0 rfl ?_
    refine g_get m 1 C hu2_0 rfl i_M (by decide) (gmem wd_519 rfl) rfl rfl d_M_club_26 ?_
    refine g_iconst (v := 1) C d_M_club_29 (by decide) ?_
    refine g_isub C d_M_club_30 ?_
    exact g_iret C hR hret ⟨rfl, Or.inl ⟨c10, by simp only [ex22], (by first | (rw [hu2, hu1]; done) | (rw [hu2, hu1]; simp only [ex22]; done) | (rw [hu2, hu1]; simp only [ex22]; funext k; simp only [gup]; (repeat' split) <;> first | with_reducible rfl | (exfalso; omega) | rfl))⟩⟩ d_M_club_31
  · skip
    refine g_iconst (v := (-1)) C d_M_club_13 (by decide) ?_
    exact g_iret C hR hret ⟨rfl, Or.inr ⟨c10, rfl, (by first | (rw [hu1]; done) | (rw [hu1]; funext k; simp only [gup]; (repeat' split) <;> first | with_reducible rfl | (exfalso; omega) | rfl))⟩⟩ d_M_club_14

set_option maxHeartbeats 4000000 in
set_option maxRecDepth 100000 in
theorem k_M_member (l : Launch) (X : gX) (ad : Nat → Nat) (u : gW) (sz : Nat) (m : Nat) (th cl dr wy ce ra li bi : Int32) (mem : Nat → Int32) (c : Int32) (hm : u m = some (mO ad m th cl dr wy ce ra li bi)) (h_mem : u (m + 1) = some (.inl ((X.2 0), 4, .inl mem))) (hcl : cl ≤ 4) : gMet l (EE X) y_M_member c_M_member 2 (some .int) ({ frames := 1, cells := 0, slots := 0, locals := 21 }) [.ref (ad m), .int c] ad u sz (fun v u' sz' => sz' = sz ∧ (((isMb c cl = true ∧ ¬ mem c.toNatClampNeg = 12) ∧ v = some (.int (mem c.toNatClampNeg + 1 - 1)) ∧ u' = gup (gup u m (mO ad m 0 cl dr wy ce ra li bi)) (m + 1) (.inl ((X.2 0), 4, .inl (upd mem c.toNatClampNeg (mem c.toNatClampNeg + 1))))) ∨ (¬ (isMb c cl = true ∧ ¬ mem c.toNatClampNeg = 12) ∧ v = some (.int (-1)) ∧ u' = gup u m (mO ad m 0 cl dr wy ce ra li bi)))) := by
  refine gMet_of "ExpenseClubsModel" rfl (by decide) (Nat.le_of_ble_eq_true rfl) (lv := [(0, .ref (ad m)), (1, .int c)]) rfl (fun Z hZl C hR hret hname => ?_)
  refine g_aload_n C d_M_member_0 rfl 0 rfl ?_
  refine g_iconst (v := 0) C d_M_member_1 (by decide) ?_
  refine g_put m 0 C hm rfl i_M t_M t_M_ok n_M (by decide) (gmem wd_518 rfl) rfl rfl rfl rfl (Nat.le_of_ble_eq_true rfl) d_M_member_2 ?_
  show GW Z _ _ _ ad (gup u m (mO ad m 0 cl dr wy ce ra li bi)) _ _ _ _ _ _
  obtain ⟨u1, hu1⟩ : ∃ z, z = gup u m (mO ad m 0 cl dr wy ce ra li bi) := ⟨_, rfl⟩
  rw [← hu1]
  have hu1_0 : u1 m = some (mO ad m 0 cl dr wy ce ra li bi) := by rw [hu1]; exact gup_self _ _ _
  have hu1_1 : u1 (m + 1) = some (.inl ((X.2 0), 4, .inl mem)) := by rw [hu1, gup_ne (by omega)]; exact h_mem
  refine g_aload_n C d_M_member_5 rfl 0 rfl ?_
  refine g_iload_n C d_M_member_6 rfl 1 rfl ?_
  refine g_callV 1 C (k_M_isClub _ X ad u1 sz m 0 cl dr wy ce ra li bi  c hu1_0 ) (gmem wd_630 rfl) (gmem wd_632 rfl) (gmem ws_10 rfl) (gmem wd_4 rfl) (gmem wd_633 rfl) ⟨by decide, by decide, by decide +kernel⟩ ⟨Nat.le_of_ble_eq_true rfl, Nat.le_of_ble_eq_true rfl⟩ hu1_0 rfl rfl rfl (Nat.le_of_ble_eq_true rfl) d_M_member_7 ⟨Nat.le_of_ble_eq_true rfl, Nat.le_of_ble_eq_true rfl⟩ ?_
  rintro v9 u9 s9 ⟨h9, hu9, hs9⟩; rw [h9, hu9, hs9]; clear h9 hu9 hs9 v9 u9 s9
  show GW Z _ _ _ ad u1 sz [(0, .ref (ad m)), (1, .int c)] 0 0 10 [.int (bI (isMb c cl))]
  refine g_if_eq 24 C d_M_member_10 (by decide) (fun c10 => ?_) (fun c10 => ?_)
  · skip
    refine g_iconst (v := (-1)) C d_M_member_24 (by decide) ?_
    exact g_iret C hR hret ⟨rfl, Or.inr ⟨by simp_all [bI_eq0], rfl, (by first | (rw [hu1]; done) | (rw [hu1]; funext k; simp only [gup]; (repeat' split) <;> first | with_reducible rfl | (exfalso; omega) | rfl))⟩⟩ d_M_member_25
  · skip
    refine g_aload_n C d_M_member_13 rfl 0 rfl ?_
    refine g_get m 2 C hu1_0 rfl i_M (by decide) (gmem wd_520 rfl) rfl rfl d_M_member_14 ?_
    refine g_iload_n C d_M_member_17 rfl 1 rfl ?_
    refine g_iald (m + 1) 0 C hu1_1 rfl (in4x (bI_ne0.mp c10) hcl) d_M_member_18 ?_
    refine g_bipush (v := 12) C d_M_member_19 (by decide) ?_
    refine g_icmp_ne 26 C d_M_member_21 (by decide) (fun c21 => ?_) (fun c21 => ?_)
    · skip
      refine g_aload_n C d_M_member_26 rfl 0 rfl ?_
      refine g_get m 2 C hu1_0 rfl i_M (by decide) (gmem wd_520 rfl) rfl rfl d_M_member_27 ?_
      refine g_iload_n C d_M_member_30 rfl 1 rfl ?_
      refine g_dup2_11 C d_M_member_31 rfl rfl ?_
      refine g_iald (m + 1) 0 C hu1_1 rfl (in4x (bI_ne0.mp c10) hcl) d_M_member_32 ?_
      refine g_iconst (v := 1) C d_M_member_33 (by decide) ?_
      refine g_iadd C d_M_member_34 ?_
      refine g_topi (fun x35 ex35 => ?_)
      refine g_iast (m + 1) 0 C hu1_1 rfl (in4x (bI_ne0.mp c10) hcl) d_M_member_35 ?_
      obtain ⟨u2, hu2⟩ : ∃ z, z = gup u1 (m + 1) (.inl ((X.2 0), 4, .inl (upd mem (Int32.toNatClampNeg c) x35))) := ⟨_, rfl⟩
      rw [← hu2]
      have hu2_0 : u2 m = some (mO ad m 0 cl dr wy ce ra li bi) := by rw [hu2, gup_ne (by omega)]; exact hu1_0
      have hu2_1 : u2 (m + 1) = some (.inl ((X.2 0), 4, .inl (upd mem (Int32.toNatClampNeg c) x35))) := by rw [hu2]; exact gup_self _ _ _
      refine g_aload_n C d_M_member_36 rfl 0 rfl ?_
      refine g_get m 2 C hu2_0 rfl i_M (by decide) (gmem wd_520 rfl) rfl rfl d_M_member_37 ?_
      refine g_iload_n C d_M_member_40 rfl 1 rfl ?_
      refine g_iald (m + 1) 0 C hu2_1 rfl (in4x (bI_ne0.mp c10) hcl) d_M_member_41 ?_
      refine g_iconst (v := 1) C d_M_member_42 (by decide) ?_
      refine g_isub C d_M_member_43 ?_
      exact g_iret C hR hret ⟨rfl, Or.inl ⟨⟨bI_ne0.mp c10, c21⟩, by simp only [ex35, pk_us], (by first | (rw [hu2, hu1]; done) | (rw [hu2, hu1]; simp only [ex35]; done) | (rw [hu2, hu1]; simp only [ex35]; funext k; simp only [gup]; (repeat' split) <;> first | with_reducible rfl | (exfalso; omega) | rfl))⟩⟩ d_M_member_44
    · skip
      refine g_iconst (v := (-1)) C d_M_member_24 (by decide) ?_
      exact g_iret C hR hret ⟨rfl, Or.inr ⟨by simp_all [bI_eq0], rfl, (by first | (rw [hu1]; done) | (rw [hu1]; funext k; simp only [gup]; (repeat' split) <;> first | with_reducible rfl | (exfalso; omega) | rfl))⟩⟩ d_M_member_25

theorem memM_c {cl : Int32} {mem : Nat → Int32} {c x : Int32} (h : memM cl mem c x = true) (hcl : cl ≤ 4) : vp_in c 4 := in4x (Bool.and_eq_true_iff.mp h).1 hcl
theorem memM_x {cl : Int32} {mem : Nat → Int32} {c x : Int32} (h : memM cl mem c x = true) (hm : ∀ j, j < 4 → mem j ≤ 12) (hcl : cl ≤ 4) : vp_in x 12 := by
  obtain ⟨j, h1, -, h3⟩ := vp_nat (memM_c h hcl) (by decide)
  exact in12m (Bool.and_eq_true_iff.mp h).2 (by rw [h3]; exact hm j h1)
set_option maxHeartbeats 4000000 in
set_option maxRecDepth 100000 in
theorem k_M_stays (l : Launch) (X : gX) (ad : Nat → Nat) (u : gW) (sz : Nat) (m : Nat) (th cl dr wy ce ra li bi : Int32) (mem lef : Nat → Int32) (x : Int32) (hm : u m = some (mO ad m th cl dr wy ce ra li bi)) (h_mem : u (m + 1) = some (.inl ((X.2 0), 4, .inl mem))) (h_lef : u (m + 3) = some (.inl ((X.2 2), 48, .inl lef))) (hcl : cl ≤ 4) (hmem : ∀ j, j < 4 → mem j ≤ 12) : gMet l (EE X) y_M_stays c_M_stays 2 (some .boolean) ({ frames := 2, cells := 0, slots := 0, locals := 43 }) [.ref (ad m), .int x] ad u sz (fun v u' sz' => v = some (.int (bI (staM cl dr mem lef x))) ∧ u' = u ∧ sz' = sz) := by
  refine gMet_of "ExpenseClubsModel" rfl (by decide) (Nat.le_of_ble_eq_true rfl) (lv := [(0, .ref (ad m)), (1, .int x)]) rfl (fun Z hZl C hR hret hname => ?_)
  refine g_aload_n C d_M_stays_0 rfl 0 rfl ?_
  refine g_get m 5 C hm rfl i_M (by decide) (gmem wd_523 rfl) rfl rfl d_M_stays_1 ?_
  refine g_iconst (v := (-1)) C d_M_stays_4 (by decide) ?_
  refine g_icmp_eq 41 C d_M_stays_5 (by decide) (fun c5 => ?_) (fun c5 => ?_)
  · skip
    refine g_iconst (v := 0) C d_M_stays_41 (by decide) ?_
    exact g_zret C hR hret rfl ⟨by simp only [staM, decide_eq_true c5, if_pos c5, Bool.not_true, Bool.not_false, Bool.and_true, Bool.true_and, Bool.false_and, Bool.and_false, bI_t, bI_f], rfl, rfl⟩ d_M_stays_42
  · skip
    refine g_aload_n C d_M_stays_8 rfl 0 rfl ?_
    refine g_aload_n C d_M_stays_9 rfl 0 rfl ?_
    refine g_get m 5 C hm rfl i_M (by decide) (gmem wd_523 rfl) rfl rfl d_M_stays_10 ?_
    refine g_iload_n C d_M_stays_13 rfl 1 rfl ?_
    refine g_callV 2 C (k_M_isMember _ X ad u sz m th cl dr wy ce ra li bi mem dr x hm h_mem hcl) (gmem wd_638 rfl) (gmem wd_640 rfl) (gmem ws_11 rfl) (gmem wd_4 rfl) (gmem wd_641 rfl) ⟨by decide, by decide, by decide +kernel⟩ ⟨Nat.le_of_ble_eq_true rfl, Nat.le_of_ble_eq_true rfl⟩ hm rfl rfl rfl (Nat.le_of_ble_eq_true rfl) d_M_stays_14 ⟨Nat.le_of_ble_eq_true rfl, Nat.le_of_ble_eq_true rfl⟩ ?_
    rintro v9 u9 s9 ⟨h9, hu9, hs9⟩; rw [h9, hu9, hs9]; clear h9 hu9 hs9 v9 u9 s9
    show GW Z _ _ _ ad u sz [(0, .ref (ad m)), (1, .int x)] 0 0 17 [.int (bI (memM cl mem dr x))]
    refine g_if_eq 41 C d_M_stays_17 (by decide) (fun c17 => ?_) (fun c17 => ?_)
    · skip
      refine g_iconst (v := 0) C d_M_stays_41 (by decide) ?_
      exact g_zret C hR hret rfl ⟨by simp only [staM, decide_eq_false c5, if_neg c5, bI_eq0.mp c17, Bool.not_true, Bool.not_false, Bool.and_true, Bool.true_and, Bool.false_and, Bool.and_false, bI_t, bI_f], rfl, rfl⟩ d_M_stays_42
    · skip
      refine g_aload_n C d_M_stays_20 rfl 0 rfl ?_
      refine g_get m 4 C hm rfl i_M (by decide) (gmem wd_522 rfl) rfl rfl d_M_stays_21 ?_
      refine g_bipush (v := 12) C d_M_stays_24 (by decide) ?_
      refine g_aload_n C d_M_stays_26 rfl 0 rfl ?_
      refine g_get m 5 C hm rfl i_M (by decide) (gmem wd_523 rfl) rfl rfl d_M_stays_27 ?_
      refine g_imul C d_M_stays_30 ?_
      refine g_iload_n C d_M_stays_31 rfl 1 rfl ?_
      refine g_iadd C d_M_stays_32 ?_
      refine g_zald (m + 3) 2 C h_lef rfl (in48 (memM_c (bI_ne0.mp c17) hcl) (memM_x (bI_ne0.mp c17) hmem hcl)).1 d_M_stays_33 ?_
      rw [show Int32.toNatClampNeg ((12 * dr) + x) = 12 * dr.toNatClampNeg + x.toNatClampNeg from (in48 (memM_c (bI_ne0.mp c17) hcl) (memM_x (bI_ne0.mp c17) hmem hcl)).2]
      refine g_if_ne 41 C d_M_stays_34 (by decide) (fun c34 => ?_) (fun c34 => ?_)
      · skip
        refine g_iconst (v := 0) C d_M_stays_41 (by decide) ?_
        exact g_zret C hR hret rfl ⟨by simp only [staM, decide_eq_false c5, if_neg c5, bI_ne0.mp c17, decide_eq_false c34, if_neg c34, Bool.not_true, Bool.not_false, Bool.and_true, Bool.true_and, Bool.false_and, Bool.and_false, bI_t, bI_f], rfl, rfl⟩ d_M_stays_42
      · skip
        refine g_iconst (v := 1) C d_M_stays_37 (by decide) ?_
        refine g_goto 42 C d_M_stays_38 (by decide) ?_
        exact g_zret C hR hret rfl ⟨by simp only [staM, decide_eq_false c5, if_neg c5, bI_ne0.mp c17, decide_eq_true c34, if_pos c34, Bool.not_true, Bool.not_false, Bool.and_true, Bool.true_and, Bool.false_and, Bool.and_false, bI_t, bI_f], rfl, rfl⟩ d_M_stays_42
