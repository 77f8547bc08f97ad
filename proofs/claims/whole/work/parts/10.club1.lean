/-- a truth value as the machine has it -/
def bI (b : Bool) : Int32 := if b then 1 else 0
theorem bI_t : bI true = 1 := rfl
theorem bI_f : bI false = 0 := rfl
theorem bI_eq0 {b : Bool} : bI b = 0 ↔ b = false := by cases b <;> decide
theorem bI_ne0 {b : Bool} : ¬ bI b = 0 ↔ b = true := by cases b <;> decide
def isMb (m mc : Int32) : Bool := !decide (m < 0) && !decide (mc ≤ m)
def gBit (go m : Int32) : Bool := !decide ((go >>> (m &&& 31)) &&& 1 = 0)
def isPr (m mc go : Int32) : Bool := isMb m mc && !gBit go m
def prSet (mc go : Int32) : Int32 := ((1 <<< (mc &&& 31)) - 1) &&& (go ^^^ (-1))

set_option maxHeartbeats 4000000 in
set_option maxRecDepth 100000 in
/-- Club.isMember -/
theorem k_C_isMember (l : Launch) (X : gX) (ad : Nat → Nat) (u : gW) (sz : Nat) (b : Nat) (r0 r1 r2 : Value) (mc go mk : Int32) (m : Int32) (hb : u b = some (.inr (1, [r0, r1, r2, .int mc, .int go, .int mk])))  : gMet l (EE X) y_C_isMember c_C_isMember 2 (some .boolean) ({ frames := 0, cells := 0, slots := 0, locals := 0 }) [.ref (ad b), .int m] ad u sz (fun v u' sz' => v = some (.int (bI (isMb m mc))) ∧ u' = u ∧ sz' = sz) := by
  refine gMet_of "ExpenseClubs$Club" rfl (by decide) (Nat.le_of_ble_eq_true rfl) (lv := [(0, .ref (ad b)), (1, .int m)]) rfl (fun Z hZl C hR hret hname => ?_)
  refine g_iload_n C d_C_isMember_0 rfl 1 rfl ?_
  refine g_if_lt 16 C d_C_isMember_1 (by decide) (fun c1 => ?_) (fun c1 => ?_)
  · skip
    refine g_iconst (v := 0) C d_C_isMember_16 (by decide) ?_
    exact g_zret C hR hret rfl ⟨by simp_all [bI, isMb], rfl, rfl⟩ d_C_isMember_17
  · skip
    refine g_iload_n C d_C_isMember_4 rfl 1 rfl ?_
    refine g_aload_n C d_C_isMember_5 rfl 0 rfl ?_
    refine g_get b 3 C hb rfl i_C (by decide) (gmem wd_166 rfl) rfl rfl d_C_isMember_6 ?_
    refine g_icmp_ge 16 C d_C_isMember_9 (by decide) (fun c9 => ?_) (fun c9 => ?_)
    · skip
      refine g_iconst (v := 0) C d_C_isMember_16 (by decide) ?_
      exact g_zret C hR hret rfl ⟨by simp_all [bI, isMb], rfl, rfl⟩ d_C_isMember_17
    · skip
      refine g_iconst (v := 1) C d_C_isMember_12 (by decide) ?_
      refine g_goto 17 C d_C_isMember_13 (by decide) ?_
      exact g_zret C hR hret rfl ⟨by simp_all [bI, isMb], rfl, rfl⟩ d_C_isMember_17

set_option maxHeartbeats 4000000 in
set_option maxRecDepth 100000 in
/-- Club.isGone -/
theorem k_C_isGone (l : Launch) (X : gX) (ad : Nat → Nat) (u : gW) (sz : Nat) (b : Nat) (r0 r1 r2 : Value) (mc go mk : Int32) (m : Int32) (hb : u b = some (.inr (1, [r0, r1, r2, .int mc, .int go, .int mk])))  : gMet l (EE X) y_C_isGone c_C_isGone 2 (some .boolean) ({ frames := 0, cells := 0, slots := 0, locals := 0 }) [.ref (ad b), .int m] ad u sz (fun v u' sz' => v = some (.int (bI (gBit go m))) ∧ u' = u ∧ sz' = sz) := by
  refine gMet_of "ExpenseClubs$Club" rfl (by decide) (Nat.le_of_ble_eq_true rfl) (lv := [(0, .ref (ad b)), (1, .int m)]) rfl (fun Z hZl C hR hret hname => ?_)
  refine g_aload_n C d_C_isGone_0 rfl 0 rfl ?_
  refine g_get b 4 C hb rfl i_C (by decide) (gmem wd_168 rfl) rfl rfl d_C_isGone_1 ?_
  refine g_iload_n C d_C_isGone_4 rfl 1 rfl ?_
  refine g_ishr C d_C_isGone_5 ?_
  refine g_iconst (v := 1) C d_C_isGone_6 (by decide) ?_
  refine g_iand C d_C_isGone_7 ?_
  refine g_if_eq 15 C d_C_isGone_8 (by decide) (fun c8 => ?_) (fun c8 => ?_)
  · skip
    refine g_iconst (v := 0) C d_C_isGone_15 (by decide) ?_
    exact g_zret C hR hret rfl ⟨by simp_all [bI, gBit], rfl, rfl⟩ d_C_isGone_16
  · skip
    refine g_iconst (v := 1) C d_C_isGone_11 (by decide) ?_
    refine g_goto 16 C d_C_isGone_12 (by decide) ?_
    exact g_zret C hR hret rfl ⟨by simp_all [bI, gBit], rfl, rfl⟩ d_C_isGone_16

set_option maxHeartbeats 4000000 in
set_option maxRecDepth 100000 in
/-- Club.isPresent -/
theorem k_C_isPresent (l : Launch) (X : gX) (ad : Nat → Nat) (u : gW) (sz : Nat) (b : Nat) (r0 r1 r2 : Value) (mc go mk : Int32) (m : Int32) (hb : u b = some (.inr (1, [r0, r1, r2, .int mc, .int go, .int mk])))  : gMet l (EE X) y_C_isPresent c_C_isPresent 2 (some .boolean) ({ frames := 1, cells := 0, slots := 0, locals := 21 }) [.ref (ad b), .int m] ad u sz (fun v u' sz' => v = some (.int (bI (isPr m mc go))) ∧ u' = u ∧ sz' = sz) := by
  refine gMet_of "ExpenseClubs$Club" rfl (by decide) (Nat.le_of_ble_eq_true rfl) (lv := [(0, .ref (ad b)), (1, .int m)]) rfl (fun Z hZl C hR hret hname => ?_)
  refine g_aload_n C d_C_isPresent_0 rfl 0 rfl ?_
  refine g_iload_n C d_C_isPresent_1 rfl 1 rfl ?_
  refine g_callV 1 C (k_C_isMember _ X ad u sz b r0 r1 r2 mc go mk m hb) (gmem wd_201 rfl) (gmem wd_202 rfl) (gmem wd_203 rfl) (gmem wd_5 rfl) (gmem wd_204 rfl) ⟨by decide, by decide, by decide +kernel⟩ ⟨Nat.le_of_ble_eq_true rfl, Nat.le_of_ble_eq_true rfl⟩ hb rfl rfl rfl (Nat.le_of_ble_eq_true rfl) d_C_isPresent_2 ⟨Nat.le_of_ble_eq_true rfl, Nat.le_of_ble_eq_true rfl⟩ ?_
  rintro v9 u9 s9 ⟨h9, hu9, hs9⟩; rw [h9, hu9, hs9]; clear h9 hu9 hs9 v9 u9 s9
  show GW Z _ _ _ ad u sz [(0, .ref (ad b)), (1, .int m)] 0 0 5 [.int (bI (isMb m mc))]
  refine g_if_eq 20 C d_C_isPresent_5 (by decide) (fun c5 => ?_) (fun c5 => ?_)
  · skip
    refine g_iconst (v := 0) C d_C_isPresent_20 (by decide) ?_
    exact g_zret C hR hret rfl ⟨by simp_all [bI_eq0, bI_ne0, isPr, bI_t, bI_f], rfl, rfl⟩ d_C_isPresent_21
  · skip
    refine g_aload_n C d_C_isPresent_8 rfl 0 rfl ?_
    refine g_iload_n C d_C_isPresent_9 rfl 1 rfl ?_
    refine g_callV 1 C (k_C_isGone _ X ad u sz b r0 r1 r2 mc go mk m hb) (gmem wd_205 rfl) (gmem wd_206 rfl) (gmem wd_207 rfl) (gmem wd_5 rfl) (gmem wd_208 rfl) ⟨by decide, by decide, by decide +kernel⟩ ⟨Nat.le_of_ble_eq_true rfl, Nat.le_of_ble_eq_true rfl⟩ hb rfl rfl rfl (Nat.le_of_ble_eq_true rfl) d_C_isPresent_10 ⟨Nat.le_of_ble_eq_true rfl, Nat.le_of_ble_eq_true rfl⟩ ?_
    rintro v9 u9 s9 ⟨h9, hu9, hs9⟩; rw [h9, hu9, hs9]; clear h9 hu9 hs9 v9 u9 s9
    show GW Z _ _ _ ad u sz [(0, .ref (ad b)), (1, .int m)] 0 0 13 [.int (bI (gBit go m))]
    refine g_if_ne 20 C d_C_isPresent_13 (by decide) (fun c13 => ?_) (fun c13 => ?_)
    · skip
      refine g_iconst (v := 0) C d_C_isPresent_20 (by decide) ?_
      exact g_zret C hR hret rfl ⟨by simp_all [bI_eq0, bI_ne0, isPr, bI_t, bI_f], rfl, rfl⟩ d_C_isPresent_21
    · skip
      refine g_iconst (v := 1) C d_C_isPresent_16 (by decide) ?_
      refine g_goto 21 C d_C_isPresent_17 (by decide) ?_
      exact g_zret C hR hret rfl ⟨by simp_all [bI_eq0, bI_ne0, isPr, bI_t, bI_f], rfl, rfl⟩ d_C_isPresent_21

set_option maxHeartbeats 4000000 in
set_option maxRecDepth 100000 in
/-- Club.presentSet -/
theorem k_C_presentSet (l : Launch) (X : gX) (ad : Nat → Nat) (u : gW) (sz : Nat) (b : Nat) (r0 r1 r2 : Value) (mc go mk : Int32) (hb : u b = some (.inr (1, [r0, r1, r2, .int mc, .int go, .int mk])))  : gMet l (EE X) y_C_presentSet c_C_presentSet 1 (some .int) ({ frames := 0, cells := 0, slots := 0, locals := 0 }) [.ref (ad b)] ad u sz (fun v u' sz' => v = some (.int (prSet mc go)) ∧ u' = u ∧ sz' = sz) := by
  refine gMet_of "ExpenseClubs$Club" rfl (by decide) (Nat.le_of_ble_eq_true rfl) (lv := [(0, .ref (ad b))]) rfl (fun Z hZl C hR hret hname => ?_)
  refine g_iconst (v := 1) C d_C_presentSet_0 (by decide) ?_
  refine g_aload_n C d_C_presentSet_1 rfl 0 rfl ?_
  refine g_get b 3 C hb rfl i_C (by decide) (gmem wd_166 rfl) rfl rfl d_C_presentSet_2 ?_
  refine g_ishl C d_C_presentSet_5 ?_
  refine g_iconst (v := 1) C d_C_presentSet_6 (by decide) ?_
  refine g_isub C d_C_presentSet_7 ?_
  refine g_aload_n C d_C_presentSet_8 rfl 0 rfl ?_
  refine g_get b 4 C hb rfl i_C (by decide) (gmem wd_168 rfl) rfl rfl d_C_presentSet_9 ?_
  refine g_iconst (v := (-1)) C d_C_presentSet_12 (by decide) ?_
  refine g_ixor C d_C_presentSet_13 ?_
  refine g_iand C d_C_presentSet_14 ?_
  exact g_iret C hR hret ⟨rfl, rfl, rfl⟩ d_C_presentSet_15
