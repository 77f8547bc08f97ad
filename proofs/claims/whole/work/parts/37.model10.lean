/-- Model.divides, one set: part, more, the most so far -/
def dvI (wgh : Nat → Int64) (mst : Nat → Int32) (s f r : Nat) : Nat → Nat × Bool × Int32
  | 0 => (r, true, -1)
  | i + 1 => if (dvI wgh mst s f r i).2.1 = false then dvI wgh mst s f r i else
    (if (dvI wgh mst s f r i).1 = 0 then r else ((dvI wgh mst s f r i).1 - 1) &&& r, !decide ((dvI wgh mst s f r i).1 = 0),
      if wgh ((dvI wgh mst s f r i).1 ||| f) = 0 ∧ ¬ upd mst s (dvI wgh mst s f r i).2.2 (mns s ((dvI wgh mst s f r i).1 ||| f)) = -1 ∧ ¬ upd mst s (dvI wgh mst s f r i).2.2 (mns s ((dvI wgh mst s f r i).1 ||| f)) + 1 ≤ (dvI wgh mst s f r i).2.2
      then upd mst s (dvI wgh mst s f r i).2.2 (mns s ((dvI wgh mst s f r i).1 ||| f)) + 1 else (dvI wgh mst s f r i).2.2)
section DV
variable {wgh : Nat → Int64} {mst : Nat → Int32} {s f r i : Nat}
theorem dvI_z (h : (dvI wgh mst s f r i).2.1 = false) : dvI wgh mst s f r (i + 1) = dvI wgh mst s f r i := if_pos h
theorem dvI_n (h : ¬ (dvI wgh mst s f r i).2.1 = false) : dvI wgh mst s f r (i + 1) = (if (dvI wgh mst s f r i).1 = 0 then r else ((dvI wgh mst s f r i).1 - 1) &&& r, !decide ((dvI wgh mst s f r i).1 = 0),
      if wgh ((dvI wgh mst s f r i).1 ||| f) = 0 ∧ ¬ upd mst s (dvI wgh mst s f r i).2.2 (mns s ((dvI wgh mst s f r i).1 ||| f)) = -1 ∧ ¬ upd mst s (dvI wgh mst s f r i).2.2 (mns s ((dvI wgh mst s f r i).1 ||| f)) + 1 ≤ (dvI wgh mst s f r i).2.2
      then upd mst s (dvI wgh mst s f r i).2.2 (mns s ((dvI wgh mst s f r i).1 ||| f)) + 1 else (dvI wgh mst s f r i).2.2) := if_neg h
theorem dvI_st (h : (dvI wgh mst s f r i).2.1 = false) (d : Nat) : dvI wgh mst s f r (i + d) = dvI wgh mst s f r i := by
  induction d with
  | zero => rfl
  | succ d ih => rw [← Nat.add_assoc, dvI_z (by rw [ih]; exact h), ih]
theorem dvI_fr (hi : i ≤ 4096) (h : (dvI wgh mst s f r i).2.1 = false) : dvI wgh mst s f r 4096 = dvI wgh mst s f r i := by
  have := dvI_st h (4096 - i)
  rwa [show i + (4096 - i) = 4096 by omega] at this
theorem dvI_le (i : Nat) : (dvI wgh mst s f r i).1 ≤ r ∧ ((dvI wgh mst s f r i).2.1 = true → (dvI wgh mst s f r i).1 + i ≤ r) := by
  induction i with
  | zero => exact ⟨Nat.le_refl _, fun _ => Nat.le_refl _⟩
  | succ i ih =>
    by_cases h : (dvI wgh mst s f r i).2.1 = false
    · rw [dvI_z h]; exact ⟨ih.1, fun h2 => absurd (h.symm.trans h2) (by decide)⟩
    · rw [dvI_n h]
      have h3 := ih.2 ((Bool.not_eq_false _).mp h)
      by_cases h0 : (dvI wgh mst s f r i).1 = 0
      · simp only [h0, if_pos]
        exact ⟨Nat.le_refl _, fun h2 => absurd h2 (by decide)⟩
      · simp only [if_neg h0]
        have h4 : ((dvI wgh mst s f r i).1 - 1) &&& r ≤ (dvI wgh mst s f r i).1 - 1 := Nat.and_le_left
        exact ⟨Nat.and_le_right, fun _ => by omega⟩
theorem dvI_end (h : r < 4096) : (dvI wgh mst s f r 4096).2.1 = false := by
  cases e : (dvI wgh mst s f r 4096).2.1 with
  | false => rfl
  | true => have := (dvI_le (wgh := wgh) (mst := mst) (s := s) (f := f) (r := r) 4096).2 e; omega
theorem dvV_1 (h : ¬ (dvI wgh mst s f r i).2.1 = false) (h1 : ¬ wgh ((dvI wgh mst s f r i).1 ||| f) = 0) : (dvI wgh mst s f r (i + 1)).2.2 = (dvI wgh mst s f r i).2.2 := by
  rw [dvI_n h]; exact if_neg fun q => h1 q.1
theorem dvV_2 {o : Int32} (h : ¬ (dvI wgh mst s f r i).2.1 = false) (ho : o = upd mst s (dvI wgh mst s f r i).2.2 (mns s ((dvI wgh mst s f r i).1 ||| f))) (h1 : o = -1) : (dvI wgh mst s f r (i + 1)).2.2 = (dvI wgh mst s f r i).2.2 := by
  rw [dvI_n h]; exact if_neg fun q => q.2.1 (ho.symm.trans h1)
theorem dvV_3 {o : Int32} (h : ¬ (dvI wgh mst s f r i).2.1 = false) (ho : o = upd mst s (dvI wgh mst s f r i).2.2 (mns s ((dvI wgh mst s f r i).1 ||| f))) (h1 : o + 1 ≤ (dvI wgh mst s f r i).2.2) : (dvI wgh mst s f r (i + 1)).2.2 = (dvI wgh mst s f r i).2.2 := by
  rw [dvI_n h]; exact if_neg fun q => q.2.2 (ho ▸ h1)
theorem dvV_4 {o : Int32} (h : ¬ (dvI wgh mst s f r i).2.1 = false) (ho : o = upd mst s (dvI wgh mst s f r i).2.2 (mns s ((dvI wgh mst s f r i).1 ||| f))) (h0 : wgh ((dvI wgh mst s f r i).1 ||| f) = 0) (h2 : ¬ o = -1) (h1 : ¬ o + 1 ≤ (dvI wgh mst s f r i).2.2) : (dvI wgh mst s f r (i + 1)).2.2 = o + 1 := by
  rw [dvI_n h, ho]; rw [ho] at h1 h2; exact if_pos ⟨h0, h2, h1⟩
theorem dvP_z {x : Int32} (h : ¬ (dvI wgh mst s f r i).2.1 = false) (h0 : (dvI wgh mst s f r i).1 = 0) (e : x = (nI (dvI wgh mst s f r i).1 - 1) &&& nI r) : x = nI (dvI wgh mst s f r (i + 1)).1 := by
  rw [dvI_n h, e, h0]
  apply i32_ext
  rw [Int32.toBitVec_and]
  apply BitVec.eq_of_getLsbD_eq
  intro j hj
  rw [show (nI 0 - 1 : Int32).toBitVec = BitVec.allOnes 32 by decide, if_pos rfl]
  simp only [BitVec.getLsbD_and, BitVec.getLsbD_allOnes, hj, decide_true, Bool.true_and]
theorem dvP_n {x : Int32} (h : ¬ (dvI wgh mst s f r i).2.1 = false) (h0 : ¬ (dvI wgh mst s f r i).1 = 0) (e : x = (nI (dvI wgh mst s f r i).1 - 1) &&& nI r) : x = nI (dvI wgh mst s f r (i + 1)).1 := by
  have := nI_pred ((dvI wgh mst s f r i).1 - 1)
  rw [show (dvI wgh mst s f r i).1 - 1 + 1 = (dvI wgh mst s f r i).1 by omega] at this
  rw [dvI_n h, e, this, nI_and]
  simp only [if_neg h0]
theorem dvM_z {x : Int32} (h : ¬ (dvI wgh mst s f r i).2.1 = false) (h0 : (dvI wgh mst s f r i).1 = 0) (e : x = 0) : x = bI (dvI wgh mst s f r (i + 1)).2.1 := by
  rw [dvI_n h, e]; simp only [h0, decide_true, Bool.not_true]; rfl
theorem dvM_n {x : Int32} (h : ¬ (dvI wgh mst s f r i).2.1 = false) (h0 : ¬ (dvI wgh mst s f r i).1 = 0) (e : x = 1) : x = bI (dvI wgh mst s f r (i + 1)).2.1 := by
  rw [dvI_n h, e]; simp only [h0, decide_false, Bool.not_false]; rfl
end DV
def dvV (wgh : Nat → Int64) (mst : Nat → Int32) (s : Nat) : Int32 := if wgh s = 0 then (dvI wgh mst s (2 ^ lowI s) (mns s (2 ^ lowI s)) 4096).2.2 else -1
def dvS (wgh : Nat → Int64) (mst : Nat → Int32) : Nat → Nat → Int32
  | 0 => upd mst 0 0
  | j + 1 => upd (dvS wgh mst j) (j + 1) (dvV wgh (dvS wgh mst j) (j + 1))
set_option maxHeartbeats 4000000 in
set_option maxRecDepth 100000 in
theorem k_M_divides (l : Launch) (X : gX) (ad : Nat → Nat) (u : gW) (sz : Nat) (m : Nat) (th cl dr wy ce ra li bi : Int32) (mst : Nat → Int32) (wgh : Nat → Int64)  (hm : u m = some (mO ad m th cl dr wy ce ra li bi)) (h_mst : u (m + 25) = some (.inl ((X.2 0), 4096, .inl mst))) (h_wgh : u (m + 24) = some (.inl ((X.2 1), 4096, .inr (.inl wgh))))  : gMet l (EE X) y_M_divides c_M_divides 8 none ({ frames := 1, cells := 0, slots := 0, locals := 21 }) [.ref (ad m)] ad u sz (fun v u' sz' => v = none ∧ u' = gup u (m + 25) (.inl ((X.2 0), 4096, .inl (dvS wgh mst 4095))) ∧ sz' = sz) := by
  refine gMet_of "ExpenseClubsModel" rfl (by decide) (Nat.le_of_ble_eq_true rfl) (lv := [(0, .ref (ad m))]) rfl (fun Z hZl C hR hret hname => ?_)
  refine g_aload_n C d_M_divides_0 rfl 0 rfl ?_
  refine g_get m 32 C hm rfl i_M (by decide) (gmem wd_550 rfl) rfl rfl d_M_divides_1 ?_
  refine g_iconst (v := 0) C d_M_divides_4 (by decide) ?_
  refine g_iconst (v := 0) C d_M_divides_5 (by decide) ?_
  refine g_iast (m + 25) 0 C h_mst rfl (vp_in_nI (n := 0) (by decide) (by decide)) d_M_divides_6 ?_
  rw [show Int32.toNatClampNeg 0 = 0 from sb_cl0]
  obtain ⟨u1, hu1⟩ : ∃ z, z = gup u (m + 25) (.inl ((X.2 0), 4096, .inl (upd mst 0 0))) := ⟨_, rfl⟩
  rw [← hu1]
  have hu1_0 : u1 m = some (mO ad m th cl dr wy ce ra li bi) := by rw [hu1, gup_ne (by omega)]; exact hm
  have hu1_1 : u1 (m + 25) = some (.inl ((X.2 0), 4096, .inl (upd mst 0 0))) := by rw [hu1]; exact gup_self _ _ _
  have hu1_2 : u1 (m + 24) = some (.inl ((X.2 1), 4096, .inr (.inl wgh))) := by rw [hu1, gup_ne (by omega)]; exact h_wgh
  refine g_iconst (v := 1) C d_M_divides_7 (by decide) ?_
  refine g_istore_n C d_M_divides_8 rfl [(1, .int 1), (0, .ref (ad m))] (by decide) rfl ?_
  refine g_fewer (lv' := [(0, .ref (ad m)), (1, .int 1)]) [1, 0] rfl ?_
  refine GW_eq (u2 := gup u1 (m + 25) (.inl ((X.2 0), 4096, .inl (dvS wgh mst 0)))) (lv2 := [(0, .ref (ad m)), (1, .int (nI (0 + 1)))]) (gup_id hu1_1).symm rfl ?_
  refine g_loop 4095 (fun iL20 => True) (fun iL20 => gup u1 (m + 25) (.inl ((X.2 0), 4096, .inl (dvS wgh mst iL20)))) (fun iL20 => [(0, .ref (ad m)), (1, .int (nI (iL20 + 1)))]) (fun iL20 hiL20 piL20 KL20 => ?_) (fun piL20 => ?_) 0 (by omega) trivial
  · skip
    show GW Z _ _ _ ad (gup u1 (m + 25) (.inl ((X.2 0), 4096, .inl (dvS wgh mst iL20)))) _ [(0, .ref (ad m)), (1, .int (nI (iL20 + 1)))] _ _ 9 []
    obtain ⟨wL20s, hwL20s⟩ : ∃ z, z = gup u1 (m + 25) (.inl ((X.2 0), 4096, .inl (dvS wgh mst iL20))) := ⟨_, rfl⟩
    rw [← hwL20s]
    have hwL20s_0 : wL20s m = some (mO ad m th cl dr wy ce ra li bi) := by rw [hwL20s, gup_ne (by omega)]; exact hu1_0
    have hwL20s_1 : wL20s (m + 25) = some (.inl ((X.2 0), 4096, .inl (dvS wgh mst iL20))) := by rw [hwL20s, gup_self]
    have hwL20s_2 : wL20s (m + 24) = some (.inl ((X.2 1), 4096, .inr (.inl wgh))) := by rw [hwL20s, gup_ne (by omega)]; exact hu1_2
    refine g_iload_n C d_M_divides_9 rfl 1 rfl ?_
    refine g_sipush (v := 4096) C d_M_divides_10 (by decide) ?_
    refine g_icmp_ge 166 C d_M_divides_13 (by decide) (fun c20s13 => ?_) (fun c20s13 => ?_)
    · exact absurd c20s13 (ge4096 (by omega))
    refine g_aload_n C d_M_divides_16 rfl 0 rfl ?_
    refine g_get m 32 C hwL20s_0 rfl i_M (by decide) (gmem wd_550 rfl) rfl rfl d_M_divides_17 ?_
    refine g_iload_n C d_M_divides_20 rfl 1 rfl ?_
    refine g_iconst (v := (-1)) C d_M_divides_21 (by decide) ?_
    refine g_iast (m + 25) 0 C hwL20s_1 rfl (vp_in_nI (by omega) (by decide)) d_M_divides_22 ?_
    rw [show Int32.toNatClampNeg (nI (iL20 + 1)) = (iL20 + 1) from nI_clamp (by omega)]
    obtain ⟨u20s2, hu20s2⟩ : ∃ z, z = gup wL20s (m + 25) (.inl ((X.2 0), 4096, .inl (upd (dvS wgh mst iL20) (iL20 + 1) (-1)))) := ⟨_, rfl⟩
    rw [← hu20s2]
    have hu20s2_0 : u20s2 m = some (mO ad m th cl dr wy ce ra li bi) := by rw [hu20s2, gup_ne (by omega)]; exact hwL20s_0
    have hu20s2_1 : u20s2 (m + 25) = some (.inl ((X.2 0), 4096, .inl (upd (dvS wgh mst iL20) (iL20 + 1) (-1)))) := by rw [hu20s2]; exact gup_self _ _ _
    have hu20s2_2 : u20s2 (m + 24) = some (.inl ((X.2 1), 4096, .inr (.inl wgh))) := by rw [hu20s2, gup_ne (by omega)]; exact hwL20s_2
    refine g_iconst (v := 1) C d_M_divides_23 (by decide) ?_
    refine g_iload_n C d_M_divides_24 rfl 1 rfl ?_
    refine g_callS 1 C (k_M_lowest _ X ad u20s2 sz (iL20 + 1) (by omega) (by omega)) (gmem wd_732 rfl) (gmem wd_733 rfl) (gmem wd_4 rfl) (gmem wd_734 rfl) ⟨by decide, by decide, by decide +kernel⟩ ⟨Nat.le_of_ble_eq_true rfl, Nat.le_of_ble_eq_true rfl⟩ rfl rfl (Nat.le_of_ble_eq_true rfl) d_M_divides_25 ⟨Nat.le_of_ble_eq_true rfl, Nat.le_of_ble_eq_true rfl⟩ ?_
    rintro v9 u9 s9 ⟨h9, hu9, hs9⟩; rw [h9, hu9, hs9]; clear h9 hu9 hs9 v9 u9 s9
    show GW Z _ _ _ ad u20s2 sz [(0, .ref (ad m)), (1, .int (nI (iL20 + 1)))] 0 0 28 [.int (nI (lowI (iL20 + 1))), .int 1]
    refine g_ishl C d_M_divides_28 ?_
    rw [shl1 (lowI (iL20 + 1)) (Nat.lt_of_lt_of_le (lowI_lt (by omega) (by omega)) (by decide))]
    refine g_istore_n C d_M_divides_29 rfl [(2, .int (nI (2 ^ lowI (iL20 + 1)))), (0, .ref (ad m)), (1, .int (nI (iL20 + 1)))] (by decide) rfl ?_
    refine g_iload_n C d_M_divides_30 rfl 2 rfl ?_
    refine g_iload_n C d_M_divides_31 rfl 0 rfl ?_
    refine g_iconst (v := (-1)) C d_M_divides_32 (by decide) ?_
    refine g_ixor C d_M_divides_33 ?_
    refine g_iand C d_M_divides_34 ?_
    rw [nI_mns]
    refine g_istore_n C d_M_divides_35 rfl [(3, .int (nI (mns (iL20 + 1) (2 ^ lowI (iL20 + 1))))), (2, .int (nI (2 ^ lowI (iL20 + 1)))), (0, .ref (ad m)), (1, .int (nI (iL20 + 1)))] (by decide) rfl ?_
    refine g_aload_n C d_M_divides_36 rfl 2 rfl ?_
    refine g_get m 31 C hu20s2_0 rfl i_M (by decide) (gmem wd_549 rfl) rfl rfl d_M_divides_37 ?_
    refine g_iload_n C d_M_divides_40 rfl 3 rfl ?_
    refine g_lald (m + 24) 1 C hu20s2_2 rfl (vp_in_nI (by omega) (by decide)) d_M_divides_41 ?_
    rw [show Int32.toNatClampNeg (nI (iL20 + 1)) = (iL20 + 1) from nI_clamp (by omega)]
    refine g_lconst (v := 0) C d_M_divides_42 (by decide) ?_
    refine g_lcmp C d_M_divides_43 ?_
    refine g_if_ne 51 C d_M_divides_44 (by decide) (fun c20s44 => ?_) (fun c20s44 => ?_)
    · rw [lg_cmp_eq] at c20s44
      refine g_iconst (v := 0) C d_M_divides_51 (by decide) ?_
      refine g_istore C d_M_divides_52 [(4, .int 0), (3, .int (nI (mns (iL20 + 1) (2 ^ lowI (iL20 + 1))))), (2, .int (nI (2 ^ lowI (iL20 + 1)))), (0, .ref (ad m)), (1, .int (nI (iL20 + 1)))] (by decide) rfl ?_
      refine g_aload_n C d_M_divides_54 rfl 3 rfl ?_
      refine g_get m 31 C hu20s2_0 rfl i_M (by decide) (gmem wd_549 rfl) rfl rfl d_M_divides_55 ?_
      refine g_iload_n C d_M_divides_58 rfl 4 rfl ?_
      refine g_lald (m + 24) 1 C hu20s2_2 rfl (vp_in_nI (by omega) (by decide)) d_M_divides_59 ?_
      rw [show Int32.toNatClampNeg (nI (iL20 + 1)) = (iL20 + 1) from nI_clamp (by omega)]
      refine g_lconst (v := 0) C d_M_divides_60 (by decide) ?_
      refine g_lcmp C d_M_divides_61 ?_
      refine g_if_ne 69 C d_M_divides_62 (by decide) (fun c20s62 => ?_) (fun c20s62 => ?_)
      rotate_left
      · rw [lg_cmp_eq] at c20s62; first | exact absurd c20s44 c20s62 | exact absurd c20s62 c20s44
      clear c20s62
      refine g_iconst (v := 0) C d_M_divides_69 (by decide) ?_
      refine g_istore C d_M_divides_70 [(5, .int 0), (4, .int 0), (3, .int (nI (mns (iL20 + 1) (2 ^ lowI (iL20 + 1))))), (2, .int (nI (2 ^ lowI (iL20 + 1)))), (0, .ref (ad m)), (1, .int (nI (iL20 + 1)))] (by decide) rfl ?_
      refine g_iload C d_M_divides_72 0 rfl ?_
      refine g_if_eq 160 C d_M_divides_74 (by decide) (fun c20s74 => ?_) (fun c20s74 => ?_)
      rotate_left
      · exact absurd (by decide) c20s74
      obtain ⟨x20s160, ex20s160⟩ : ∃ y : Int32, y = (nI (iL20 + 1)) + 1 := ⟨_, rfl⟩
      refine g_iinc (v := x20s160) C d_M_divides_160 5 rfl (by rw [ex20s160]; rfl) [(1, .int x20s160), (5, .int 0), (4, .int 0), (3, .int (nI (mns (iL20 + 1) (2 ^ lowI (iL20 + 1))))), (2, .int (nI (2 ^ lowI (iL20 + 1)))), (0, .ref (ad m))] (by decide) rfl ?_
      refine g_goto 9 C d_M_divides_163 (by decide) ?_
      refine g_fewer (lv' := [(0, .ref (ad m)), (1, .int x20s160)]) [5, 0] rfl ?_
      refine GW_eq (u2 := gup u1 (m + 25) (.inl ((X.2 0), 4096, .inl (dvS wgh mst (iL20 + 1))))) (lv2 := [(0, .ref (ad m)), (1, .int (nI (iL20 + 1 + 1)))]) ?_ ?_ (KL20 trivial)
      · funext k
        by_cases hk0 : k = m + 25
        · rw [hk0, hu20s2_1, gup_self] <;> rw [show dvS wgh mst (iL20 + 1) = upd (dvS wgh mst iL20) (iL20 + 1) (dvV wgh (dvS wgh mst iL20) (iL20 + 1)) from rfl, dvV, if_neg c20s44]
        rw [hu20s2, gup_ne hk0]
        rw [hwL20s, gup_ne hk0]
        rw [gup_ne hk0]
      · simp only [ex20s160, nI_1]
    · rw [lg_cmp_eq] at c20s44
      refine g_iload_n C d_M_divides_47 rfl 0 rfl ?_
      refine g_goto 52 C d_M_divides_48 (by decide) ?_
      refine g_istore C d_M_divides_52 [(4, .int (nI (mns (iL20 + 1) (2 ^ lowI (iL20 + 1))))), (3, .int (nI (mns (iL20 + 1) (2 ^ lowI (iL20 + 1))))), (2, .int (nI (2 ^ lowI (iL20 + 1)))), (0, .ref (ad m)), (1, .int (nI (iL20 + 1)))] (by decide) rfl ?_
      refine g_aload_n C d_M_divides_54 rfl 3 rfl ?_
      refine g_get m 31 C hu20s2_0 rfl i_M (by decide) (gmem wd_549 rfl) rfl rfl d_M_divides_55 ?_
      refine g_iload_n C d_M_divides_58 rfl 4 rfl ?_
      refine g_lald (m + 24) 1 C hu20s2_2 rfl (vp_in_nI (by omega) (by decide)) d_M_divides_59 ?_
      rw [show Int32.toNatClampNeg (nI (iL20 + 1)) = (iL20 + 1) from nI_clamp (by omega)]
      refine g_lconst (v := 0) C d_M_divides_60 (by decide) ?_
      refine g_lcmp C d_M_divides_61 ?_
      refine g_if_ne 69 C d_M_divides_62 (by decide) (fun c20s62 => ?_) (fun c20s62 => ?_)
      · rw [lg_cmp_eq] at c20s62; first | exact absurd c20s44 c20s62 | exact absurd c20s62 c20s44
      clear c20s62
      refine g_iconst (v := 1) C d_M_divides_65 (by decide) ?_
      refine g_goto 70 C d_M_divides_66 (by decide) ?_
      refine g_istore C d_M_divides_70 [(5, .int 1), (4, .int (nI (mns (iL20 + 1) (2 ^ lowI (iL20 + 1))))), (3, .int (nI (mns (iL20 + 1) (2 ^ lowI (iL20 + 1))))), (2, .int (nI (2 ^ lowI (iL20 + 1)))), (0, .ref (ad m)), (1, .int (nI (iL20 + 1)))] (by decide) rfl ?_
      have hR : (mns (iL20 + 1) (2 ^ lowI (iL20 + 1))) < 4096 := mns_lt (n := 12) (by omega)
      have hF : (2 ^ lowI (iL20 + 1)) < 4096 := Nat.pow_lt_pow_right (by decide) (lowI_lt (s := (iL20 + 1)) (by omega) (by omega))
      refine g_fewer (lv' := [(0, .ref (ad m)), (1, .int (nI (iL20 + 1))), (2, .int (nI (2 ^ lowI (iL20 + 1)))), (3, .int (nI (mns (iL20 + 1) (2 ^ lowI (iL20 + 1))))), (4, .int (nI (mns (iL20 + 1) (2 ^ lowI (iL20 + 1))))), (5, .int 1)]) [4, 5, 3, 2, 1, 0] rfl ?_
      refine GW_eq (u2 := gup u20s2 (m + 25) (.inl ((X.2 0), 4096, .inl (upd (dvS wgh mst iL20) (iL20 + 1) (dvI wgh (dvS wgh mst iL20) (iL20 + 1) (2 ^ lowI (iL20 + 1)) (mns (iL20 + 1) (2 ^ lowI (iL20 + 1))) 0).2.2)))) (lv2 := [(0, .ref (ad m)), (1, .int (nI (iL20 + 1))), (2, .int (nI (2 ^ lowI (iL20 + 1)))), (3, .int (nI (mns (iL20 + 1) (2 ^ lowI (iL20 + 1))))), (4, .int (nI (dvI wgh (dvS wgh mst iL20) (iL20 + 1) (2 ^ lowI (iL20 + 1)) (mns (iL20 + 1) (2 ^ lowI (iL20 + 1))) 0).1)), (5, .int (bI (dvI wgh (dvS wgh mst iL20) (iL20 + 1) (2 ^ lowI (iL20 + 1)) (mns (iL20 + 1) (2 ^ lowI (iL20 + 1))) 0).2.1))]) (gup_id hu20s2_1).symm rfl ?_
      refine g_loop 4096 (fun iL21 => True) (fun iL21 => gup u20s2 (m + 25) (.inl ((X.2 0), 4096, .inl (upd (dvS wgh mst iL20) (iL20 + 1) (dvI wgh (dvS wgh mst iL20) (iL20 + 1) (2 ^ lowI (iL20 + 1)) (mns (iL20 + 1) (2 ^ lowI (iL20 + 1))) iL21).2.2)))) (fun iL21 => [(0, .ref (ad m)), (1, .int (nI (iL20 + 1))), (2, .int (nI (2 ^ lowI (iL20 + 1)))), (3, .int (nI (mns (iL20 + 1) (2 ^ lowI (iL20 + 1))))), (4, .int (nI (dvI wgh (dvS wgh mst iL20) (iL20 + 1) (2 ^ lowI (iL20 + 1)) (mns (iL20 + 1) (2 ^ lowI (iL20 + 1))) iL21).1)), (5, .int (bI (dvI wgh (dvS wgh mst iL20) (iL20 + 1) (2 ^ lowI (iL20 + 1)) (mns (iL20 + 1) (2 ^ lowI (iL20 + 1))) iL21).2.1))]) (fun iL21 hiL21 piL21 KL21 => ?_) (fun piL21 => ?_) 0 (by omega) trivial
      · skip
        show GW Z _ _ _ ad (gup u20s2 (m + 25) (.inl ((X.2 0), 4096, .inl (upd (dvS wgh mst iL20) (iL20 + 1) (dvI wgh (dvS wgh mst iL20) (iL20 + 1) (2 ^ lowI (iL20 + 1)) (mns (iL20 + 1) (2 ^ lowI (iL20 + 1))) iL21).2.2)))) _ [(0, .ref (ad m)), (1, .int (nI (iL20 + 1))), (2, .int (nI (2 ^ lowI (iL20 + 1)))), (3, .int (nI (mns (iL20 + 1) (2 ^ lowI (iL20 + 1))))), (4, .int (nI (dvI wgh (dvS wgh mst iL20) (iL20 + 1) (2 ^ lowI (iL20 + 1)) (mns (iL20 + 1) (2 ^ lowI (iL20 + 1))) iL21).1)), (5, .int (bI (dvI wgh (dvS wgh mst iL20) (iL20 + 1) (2 ^ lowI (iL20 + 1)) (mns (iL20 + 1) (2 ^ lowI (iL20 + 1))) iL21).2.1))] _ _ 72 []
        obtain ⟨wL21s, hwL21s⟩ : ∃ z, z = gup u20s2 (m + 25) (.inl ((X.2 0), 4096, .inl (upd (dvS wgh mst iL20) (iL20 + 1) (dvI wgh (dvS wgh mst iL20) (iL20 + 1) (2 ^ lowI (iL20 + 1)) (mns (iL20 + 1) (2 ^ lowI (iL20 + 1))) iL21).2.2))) := ⟨_, rfl⟩
        rw [← hwL21s]
        have hwL21s_0 : wL21s m = some (mO ad m th cl dr wy ce ra li bi) := by rw [hwL21s, gup_ne (by omega)]; exact hu20s2_0
        have hwL21s_1 : wL21s (m + 25) = some (.inl ((X.2 0), 4096, .inl (upd (dvS wgh mst iL20) (iL20 + 1) (dvI wgh (dvS wgh mst iL20) (iL20 + 1) (2 ^ lowI (iL20 + 1)) (mns (iL20 + 1) (2 ^ lowI (iL20 + 1))) iL21).2.2))) := by rw [hwL21s, gup_self]
        have hwL21s_2 : wL21s (m + 24) = some (.inl ((X.2 1), 4096, .inr (.inl wgh))) := by rw [hwL21s, gup_ne (by omega)]; exact hu20s2_2
        refine g_iload C d_M_divides_72 5 rfl ?_
        refine g_if_eq 160 C d_M_divides_74 (by decide) (fun c20s21s74 => ?_) (fun c20s21s74 => ?_)
        · skip
          obtain ⟨x20s21s160, ex20s21s160⟩ : ∃ y : Int32, y = (nI (iL20 + 1)) + 1 := ⟨_, rfl⟩
          refine g_iinc (v := x20s21s160) C d_M_divides_160 1 rfl (by rw [ex20s21s160]; rfl) [(1, .int x20s21s160), (0, .ref (ad m)), (2, .int (nI (2 ^ lowI (iL20 + 1)))), (3, .int (nI (mns (iL20 + 1) (2 ^ lowI (iL20 + 1))))), (4, .int (nI (dvI wgh (dvS wgh mst iL20) (iL20 + 1) (2 ^ lowI (iL20 + 1)) (mns (iL20 + 1) (2 ^ lowI (iL20 + 1))) iL21).1)), (5, .int (bI (dvI wgh (dvS wgh mst iL20) (iL20 + 1) (2 ^ lowI (iL20 + 1)) (mns (iL20 + 1) (2 ^ lowI (iL20 + 1))) iL21).2.1))] (by decide) rfl ?_
          refine g_goto 9 C d_M_divides_163 (by decide) ?_
          refine g_fewer (lv' := [(0, .ref (ad m)), (1, .int x20s21s160)]) [1, 0] rfl ?_
          refine GW_eq (u2 := gup u1 (m + 25) (.inl ((X.2 0), 4096, .inl (dvS wgh mst (iL20 + 1))))) (lv2 := [(0, .ref (ad m)), (1, .int (nI (iL20 + 1 + 1)))]) ?_ ?_ (KL20 trivial)
          · funext k
            by_cases hk0 : k = m + 25
            · rw [hk0, hwL21s_1, gup_self] <;> rw [show dvS wgh mst (iL20 + 1) = upd (dvS wgh mst iL20) (iL20 + 1) (dvV wgh (dvS wgh mst iL20) (iL20 + 1)) from rfl, dvV, if_pos c20s44, dvI_fr (Nat.le_of_lt hiL21) (bI_eq0.mp c20s21s74)]
            rw [hwL21s, gup_ne hk0]
            rw [hu20s2, gup_ne hk0]
            rw [hwL20s, gup_ne hk0]
            rw [gup_ne hk0]
          · simp only [ex20s21s160, nI_1]
        · skip
          refine g_iload C d_M_divides_77 4 rfl ?_
          refine g_iload_n C d_M_divides_79 rfl 2 rfl ?_
          refine g_ior C d_M_divides_80 ?_
          rw [nI_or]
          refine g_istore C d_M_divides_81 [(6, .int (nI ((dvI wgh (dvS wgh mst iL20) (iL20 + 1) (2 ^ lowI (iL20 + 1)) (mns (iL20 + 1) (2 ^ lowI (iL20 + 1))) iL21).1 ||| (2 ^ lowI (iL20 + 1))))), (0, .ref (ad m)), (1, .int (nI (iL20 + 1))), (2, .int (nI (2 ^ lowI (iL20 + 1)))), (3, .int (nI (mns (iL20 + 1) (2 ^ lowI (iL20 + 1))))), (4, .int (nI (dvI wgh (dvS wgh mst iL20) (iL20 + 1) (2 ^ lowI (iL20 + 1)) (mns (iL20 + 1) (2 ^ lowI (iL20 + 1))) iL21).1)), (5, .int (bI (dvI wgh (dvS wgh mst iL20) (iL20 + 1) (2 ^ lowI (iL20 + 1)) (mns (iL20 + 1) (2 ^ lowI (iL20 + 1))) iL21).2.1))] (by decide) rfl ?_
          refine g_aload_n C d_M_divides_83 rfl 1 rfl ?_
          refine g_get m 32 C hwL21s_0 rfl i_M (by decide) (gmem wd_550 rfl) rfl rfl d_M_divides_84 ?_
          refine g_iload_n C d_M_divides_87 rfl 2 rfl ?_
          refine g_iload C d_M_divides_88 0 rfl ?_
          refine g_iconst (v := (-1)) C d_M_divides_90 (by decide) ?_
          refine g_ixor C d_M_divides_91 ?_
          refine g_iand C d_M_divides_92 ?_
          rw [nI_mns]
          refine g_iald (m + 25) 0 C hwL21s_1 rfl (vp_in_nI (show mns (iL20 + 1) ((dvI wgh (dvS wgh mst iL20) (iL20 + 1) (2 ^ lowI (iL20 + 1)) (mns (iL20 + 1) (2 ^ lowI (iL20 + 1))) iL21).1 ||| (2 ^ lowI (iL20 + 1))) < 4096 from mns_lt (n := 12) (by omega)) (by decide)) d_M_divides_93 ?_
          rw [show Int32.toNatClampNeg (nI (mns (iL20 + 1) ((dvI wgh (dvS wgh mst iL20) (iL20 + 1) (2 ^ lowI (iL20 + 1)) (mns (iL20 + 1) (2 ^ lowI (iL20 + 1))) iL21).1 ||| (2 ^ lowI (iL20 + 1))))) = (mns (iL20 + 1) ((dvI wgh (dvS wgh mst iL20) (iL20 + 1) (2 ^ lowI (iL20 + 1)) (mns (iL20 + 1) (2 ^ lowI (iL20 + 1))) iL21).1 ||| (2 ^ lowI (iL20 + 1)))) from nI_clamp (Nat.lt_trans (show mns (iL20 + 1) ((dvI wgh (dvS wgh mst iL20) (iL20 + 1) (2 ^ lowI (iL20 + 1)) (mns (iL20 + 1) (2 ^ lowI (iL20 + 1))) iL21).1 ||| (2 ^ lowI (iL20 + 1))) < 4096 from mns_lt (n := 12) (by omega)) (by decide))]
          refine g_topi (fun x20s21s94 ex20s21s94 => ?_)
          refine g_istore C d_M_divides_94 [(7, .int x20s21s94), (6, .int (nI ((dvI wgh (dvS wgh mst iL20) (iL20 + 1) (2 ^ lowI (iL20 + 1)) (mns (iL20 + 1) (2 ^ lowI (iL20 + 1))) iL21).1 ||| (2 ^ lowI (iL20 + 1))))), (0, .ref (ad m)), (1, .int (nI (iL20 + 1))), (2, .int (nI (2 ^ lowI (iL20 + 1)))), (3, .int (nI (mns (iL20 + 1) (2 ^ lowI (iL20 + 1))))), (4, .int (nI (dvI wgh (dvS wgh mst iL20) (iL20 + 1) (2 ^ lowI (iL20 + 1)) (mns (iL20 + 1) (2 ^ lowI (iL20 + 1))) iL21).1)), (5, .int (bI (dvI wgh (dvS wgh mst iL20) (iL20 + 1) (2 ^ lowI (iL20 + 1)) (mns (iL20 + 1) (2 ^ lowI (iL20 + 1))) iL21).2.1))] (by decide) rfl ?_
          refine g_aload_n C d_M_divides_96 rfl 2 rfl ?_
          refine g_get m 31 C hwL21s_0 rfl i_M (by decide) (gmem wd_549 rfl) rfl rfl d_M_divides_97 ?_
          refine g_iload C d_M_divides_100 1 rfl ?_
          refine g_lald (m + 24) 1 C hwL21s_2 rfl (vp_in_nI (show ((dvI wgh (dvS wgh mst iL20) (iL20 + 1) (2 ^ lowI (iL20 + 1)) (mns (iL20 + 1) (2 ^ lowI (iL20 + 1))) iL21).1 ||| (2 ^ lowI (iL20 + 1))) < 4096 from or_lt2 (n := 12) (Nat.lt_of_le_of_lt (dvI_le (wgh := wgh) (mst := (dvS wgh mst iL20)) (s := (iL20 + 1)) (f := (2 ^ lowI (iL20 + 1))) (r := (mns (iL20 + 1) (2 ^ lowI (iL20 + 1)))) iL21).1 hR) hF) (by decide)) d_M_divides_102 ?_
          rw [show Int32.toNatClampNeg (nI ((dvI wgh (dvS wgh mst iL20) (iL20 + 1) (2 ^ lowI (iL20 + 1)) (mns (iL20 + 1) (2 ^ lowI (iL20 + 1))) iL21).1 ||| (2 ^ lowI (iL20 + 1)))) = ((dvI wgh (dvS wgh mst iL20) (iL20 + 1) (2 ^ lowI (iL20 + 1)) (mns (iL20 + 1) (2 ^ lowI (iL20 + 1))) iL21).1 ||| (2 ^ lowI (iL20 + 1))) from nI_clamp (Nat.lt_trans (show ((dvI wgh (dvS wgh mst iL20) (iL20 + 1) (2 ^ lowI (iL20 + 1)) (mns (iL20 + 1) (2 ^ lowI (iL20 + 1))) iL21).1 ||| (2 ^ lowI (iL20 + 1))) < 4096 from or_lt2 (n := 12) (Nat.lt_of_le_of_lt (dvI_le (wgh := wgh) (mst := (dvS wgh mst iL20)) (s := (iL20 + 1)) (f := (2 ^ lowI (iL20 + 1))) (r := (mns (iL20 + 1) (2 ^ lowI (iL20 + 1)))) iL21).1 hR) hF) (by decide))]
          refine g_lconst (v := 0) C d_M_divides_103 (by decide) ?_
          refine g_lcmp C d_M_divides_104 ?_
          refine g_if_ne 137 C d_M_divides_105 (by decide) (fun c20s21s105 => ?_) (fun c20s21s105 => ?_)
          · rw [lg_cmp_eq] at c20s21s105
            refine g_iload C d_M_divides_137 6 rfl ?_
            refine g_if_eq 146 C d_M_divides_139 (by decide) (fun c20s21s139 => ?_) (fun c20s21s139 => ?_)
            · skip
              refine g_iconst (v := 0) C d_M_divides_146 (by decide) ?_
              refine g_topi (fun x20s21s147 ex20s21s147 => ?_)
              refine g_istore C d_M_divides_147 [(5, .int x20s21s147), (7, .int x20s21s94), (6, .int (nI ((dvI wgh (dvS wgh mst iL20) (iL20 + 1) (2 ^ lowI (iL20 + 1)) (mns (iL20 + 1) (2 ^ lowI (iL20 + 1))) iL21).1 ||| (2 ^ lowI (iL20 + 1))))), (0, .ref (ad m)), (1, .int (nI (iL20 + 1))), (2, .int (nI (2 ^ lowI (iL20 + 1)))), (3, .int (nI (mns (iL20 + 1) (2 ^ lowI (iL20 + 1))))), (4, .int (nI (dvI wgh (dvS wgh mst iL20) (iL20 + 1) (2 ^ lowI (iL20 + 1)) (mns (iL20 + 1) (2 ^ lowI (iL20 + 1))) iL21).1))] (by decide) rfl ?_
              refine g_iload C d_M_divides_149 7 rfl ?_
              refine g_iconst (v := 1) C d_M_divides_151 (by decide) ?_
              refine g_isub C d_M_divides_152 ?_
              refine g_iload_n C d_M_divides_153 rfl 6 rfl ?_
              refine g_iand C d_M_divides_154 ?_
              refine g_topi (fun x20s21s155 ex20s21s155 => ?_)
              refine g_istore C d_M_divides_155 [(4, .int x20s21s155), (5, .int x20s21s147), (7, .int x20s21s94), (6, .int (nI ((dvI wgh (dvS wgh mst iL20) (iL20 + 1) (2 ^ lowI (iL20 + 1)) (mns (iL20 + 1) (2 ^ lowI (iL20 + 1))) iL21).1 ||| (2 ^ lowI (iL20 + 1))))), (0, .ref (ad m)), (1, .int (nI (iL20 + 1))), (2, .int (nI (2 ^ lowI (iL20 + 1)))), (3, .int (nI (mns (iL20 + 1) (2 ^ lowI (iL20 + 1)))))] (by decide) rfl ?_
              refine g_goto 72 C d_M_divides_157 (by decide) ?_
              refine g_fewer (lv' := [(0, .ref (ad m)), (1, .int (nI (iL20 + 1))), (2, .int (nI (2 ^ lowI (iL20 + 1)))), (3, .int (nI (mns (iL20 + 1) (2 ^ lowI (iL20 + 1))))), (4, .int x20s21s155), (5, .int x20s21s147)]) [4, 5, 6, 7, 0, 1] rfl ?_
              refine GW_eq (u2 := gup u20s2 (m + 25) (.inl ((X.2 0), 4096, .inl (upd (dvS wgh mst iL20) (iL20 + 1) (dvI wgh (dvS wgh mst iL20) (iL20 + 1) (2 ^ lowI (iL20 + 1)) (mns (iL20 + 1) (2 ^ lowI (iL20 + 1))) (iL21 + 1)).2.2)))) (lv2 := [(0, .ref (ad m)), (1, .int (nI (iL20 + 1))), (2, .int (nI (2 ^ lowI (iL20 + 1)))), (3, .int (nI (mns (iL20 + 1) (2 ^ lowI (iL20 + 1))))), (4, .int (nI (dvI wgh (dvS wgh mst iL20) (iL20 + 1) (2 ^ lowI (iL20 + 1)) (mns (iL20 + 1) (2 ^ lowI (iL20 + 1))) (iL21 + 1)).1)), (5, .int (bI (dvI wgh (dvS wgh mst iL20) (iL20 + 1) (2 ^ lowI (iL20 + 1)) (mns (iL20 + 1) (2 ^ lowI (iL20 + 1))) (iL21 + 1)).2.1))]) ?_ ?_ (KL21 trivial)
              · funext k
                by_cases hk0 : k = m + 25
                · rw [hk0, hwL21s_1, gup_self] <;> rw [dvV_1 (mt bI_eq0.mpr c20s21s74) c20s21s105]
                rw [hwL21s, gup_ne hk0]
                rw [gup_ne hk0]
              · rw [dvP_z (mt bI_eq0.mpr c20s21s74) ((nI_z (Nat.lt_trans (Nat.lt_of_le_of_lt (dvI_le (wgh := wgh) (mst := (dvS wgh mst iL20)) (s := (iL20 + 1)) (f := (2 ^ lowI (iL20 + 1))) (r := (mns (iL20 + 1) (2 ^ lowI (iL20 + 1)))) iL21).1 hR) (by decide))).mp c20s21s139) ex20s21s155, dvM_z (mt bI_eq0.mpr c20s21s74) ((nI_z (Nat.lt_trans (Nat.lt_of_le_of_lt (dvI_le (wgh := wgh) (mst := (dvS wgh mst iL20)) (s := (iL20 + 1)) (f := (2 ^ lowI (iL20 + 1))) (r := (mns (iL20 + 1) (2 ^ lowI (iL20 + 1)))) iL21).1 hR) (by decide))).mp c20s21s139) ex20s21s147]
            · skip
              refine g_iconst (v := 1) C d_M_divides_142 (by decide) ?_
              refine g_goto 147 C d_M_divides_143 (by decide) ?_
              refine g_topi (fun x20s21s147 ex20s21s147 => ?_)
              refine g_istore C d_M_divides_147 [(5, .int x20s21s147), (7, .int x20s21s94), (6, .int (nI ((dvI wgh (dvS wgh mst iL20) (iL20 + 1) (2 ^ lowI (iL20 + 1)) (mns (iL20 + 1) (2 ^ lowI (iL20 + 1))) iL21).1 ||| (2 ^ lowI (iL20 + 1))))), (0, .ref (ad m)), (1, .int (nI (iL20 + 1))), (2, .int (nI (2 ^ lowI (iL20 + 1)))), (3, .int (nI (mns (iL20 + 1) (2 ^ lowI (iL20 + 1))))), (4, .int (nI (dvI wgh (dvS wgh mst iL20) (iL20 + 1) (2 ^ lowI (iL20 + 1)) (mns (iL20 + 1) (2 ^ lowI (iL20 + 1))) iL21).1))] (by decide) rfl ?_
              refine g_iload C d_M_divides_149 7 rfl ?_
              refine g_iconst (v := 1) C d_M_divides_151 (by decide) ?_
              refine g_isub C d_M_divides_152 ?_
              refine g_iload_n C d_M_divides_153 rfl 6 rfl ?_
              refine g_iand C d_M_divides_154 ?_
              refine g_topi (fun x20s21s155 ex20s21s155 => ?_)
              refine g_istore C d_M_divides_155 [(4, .int x20s21s155), (5, .int x20s21s147), (7, .int x20s21s94), (6, .int (nI ((dvI wgh (dvS wgh mst iL20) (iL20 + 1) (2 ^ lowI (iL20 + 1)) (mns (iL20 + 1) (2 ^ lowI (iL20 + 1))) iL21).1 ||| (2 ^ lowI (iL20 + 1))))), (0, .ref (ad m)), (1, .int (nI (iL20 + 1))), (2, .int (nI (2 ^ lowI (iL20 + 1)))), (3, .int (nI (mns (iL20 + 1) (2 ^ lowI (iL20 + 1)))))] (by decide) rfl ?_
              refine g_goto 72 C d_M_divides_157 (by decide) ?_
              refine g_fewer (lv' := [(0, .ref (ad m)), (1, .int (nI (iL20 + 1))), (2, .int (nI (2 ^ lowI (iL20 + 1)))), (3, .int (nI (mns (iL20 + 1) (2 ^ lowI (iL20 + 1))))), (4, .int x20s21s155), (5, .int x20s21s147)]) [4, 5, 6, 7, 0, 1] rfl ?_
              refine GW_eq (u2 := gup u20s2 (m + 25) (.inl ((X.2 0), 4096, .inl (upd (dvS wgh mst iL20) (iL20 + 1) (dvI wgh (dvS wgh mst iL20) (iL20 + 1) (2 ^ lowI (iL20 + 1)) (mns (iL20 + 1) (2 ^ lowI (iL20 + 1))) (iL21 + 1)).2.2)))) (lv2 := [(0, .ref (ad m)), (1, .int (nI (iL20 + 1))), (2, .int (nI (2 ^ lowI (iL20 + 1)))), (3, .int (nI (mns (iL20 + 1) (2 ^ lowI (iL20 + 1))))), (4, .int (nI (dvI wgh (dvS wgh mst iL20) (iL20 + 1) (2 ^ lowI (iL20 + 1)) (mns (iL20 + 1) (2 ^ lowI (iL20 + 1))) (iL21 + 1)).1)), (5, .int (bI (dvI wgh (dvS wgh mst iL20) (iL20 + 1) (2 ^ lowI (iL20 + 1)) (mns (iL20 + 1) (2 ^ lowI (iL20 + 1))) (iL21 + 1)).2.1))]) ?_ ?_ (KL21 trivial)
              · funext k
                by_cases hk0 : k = m + 25
                · rw [hk0, hwL21s_1, gup_self] <;> rw [dvV_1 (mt bI_eq0.mpr c20s21s74) c20s21s105]
                rw [hwL21s, gup_ne hk0]
                rw [gup_ne hk0]
              · rw [dvP_n (mt bI_eq0.mpr c20s21s74) (mt (nI_z (Nat.lt_trans (Nat.lt_of_le_of_lt (dvI_le (wgh := wgh) (mst := (dvS wgh mst iL20)) (s := (iL20 + 1)) (f := (2 ^ lowI (iL20 + 1))) (r := (mns (iL20 + 1) (2 ^ lowI (iL20 + 1)))) iL21).1 hR) (by decide))).mpr c20s21s139) ex20s21s155, dvM_n (mt bI_eq0.mpr c20s21s74) (mt (nI_z (Nat.lt_trans (Nat.lt_of_le_of_lt (dvI_le (wgh := wgh) (mst := (dvS wgh mst iL20)) (s := (iL20 + 1)) (f := (2 ^ lowI (iL20 + 1))) (r := (mns (iL20 + 1) (2 ^ lowI (iL20 + 1)))) iL21).1 hR) (by decide))).mpr c20s21s139) ex20s21s147]
          · rw [lg_cmp_eq] at c20s21s105
            refine g_iload C d_M_divides_108 0 rfl ?_
            refine g_iconst (v := (-1)) C d_M_divides_110 (by decide) ?_
            refine g_icmp_eq 137 C d_M_divides_111 (by decide) (fun c20s21s111 => ?_) (fun c20s21s111 => ?_)
            · skip
              refine g_iload C d_M_divides_137 6 rfl ?_
              refine g_if_eq 146 C d_M_divides_139 (by decide) (fun c20s21s139 => ?_) (fun c20s21s139 => ?_)
              · skip
                refine g_iconst (v := 0) C d_M_divides_146 (by decide) ?_
                refine g_topi (fun x20s21s147 ex20s21s147 => ?_)
                refine g_istore C d_M_divides_147 [(5, .int x20s21s147), (7, .int x20s21s94), (6, .int (nI ((dvI wgh (dvS wgh mst iL20) (iL20 + 1) (2 ^ lowI (iL20 + 1)) (mns (iL20 + 1) (2 ^ lowI (iL20 + 1))) iL21).1 ||| (2 ^ lowI (iL20 + 1))))), (0, .ref (ad m)), (1, .int (nI (iL20 + 1))), (2, .int (nI (2 ^ lowI (iL20 + 1)))), (3, .int (nI (mns (iL20 + 1) (2 ^ lowI (iL20 + 1))))), (4, .int (nI (dvI wgh (dvS wgh mst iL20) (iL20 + 1) (2 ^ lowI (iL20 + 1)) (mns (iL20 + 1) (2 ^ lowI (iL20 + 1))) iL21).1))] (by decide) rfl ?_
                refine g_iload C d_M_divides_149 7 rfl ?_
                refine g_iconst (v := 1) C d_M_divides_151 (by decide) ?_
                refine g_isub C d_M_divides_152 ?_
                refine g_iload_n C d_M_divides_153 rfl 6 rfl ?_
                refine g_iand C d_M_divides_154 ?_
                refine g_topi (fun x20s21s155 ex20s21s155 => ?_)
                refine g_istore C d_M_divides_155 [(4, .int x20s21s155), (5, .int x20s21s147), (7, .int x20s21s94), (6, .int (nI ((dvI wgh (dvS wgh mst iL20) (iL20 + 1) (2 ^ lowI (iL20 + 1)) (mns (iL20 + 1) (2 ^ lowI (iL20 + 1))) iL21).1 ||| (2 ^ lowI (iL20 + 1))))), (0, .ref (ad m)), (1, .int (nI (iL20 + 1))), (2, .int (nI (2 ^ lowI (iL20 + 1)))), (3, .int (nI (mns (iL20 + 1) (2 ^ lowI (iL20 + 1)))))] (by decide) rfl ?_
                refine g_goto 72 C d_M_divides_157 (by decide) ?_
                refine g_fewer (lv' := [(0, .ref (ad m)), (1, .int (nI (iL20 + 1))), (2, .int (nI (2 ^ lowI (iL20 + 1)))), (3, .int (nI (mns (iL20 + 1) (2 ^ lowI (iL20 + 1))))), (4, .int x20s21s155), (5, .int x20s21s147)]) [4, 5, 6, 7, 0, 1] rfl ?_
                refine GW_eq (u2 := gup u20s2 (m + 25) (.inl ((X.2 0), 4096, .inl (upd (dvS wgh mst iL20) (iL20 + 1) (dvI wgh (dvS wgh mst iL20) (iL20 + 1) (2 ^ lowI (iL20 + 1)) (mns (iL20 + 1) (2 ^ lowI (iL20 + 1))) (iL21 + 1)).2.2)))) (lv2 := [(0, .ref (ad m)), (1, .int (nI (iL20 + 1))), (2, .int (nI (2 ^ lowI (iL20 + 1)))), (3, .int (nI (mns (iL20 + 1) (2 ^ lowI (iL20 + 1))))), (4, .int (nI (dvI wgh (dvS wgh mst iL20) (iL20 + 1) (2 ^ lowI (iL20 + 1)) (mns (iL20 + 1) (2 ^ lowI (iL20 + 1))) (iL21 + 1)).1)), (5, .int (bI (dvI wgh (dvS wgh mst iL20) (iL20 + 1) (2 ^ lowI (iL20 + 1)) (mns (iL20 + 1) (2 ^ lowI (iL20 + 1))) (iL21 + 1)).2.1))]) ?_ ?_ (KL21 trivial)
                · funext k
                  by_cases hk0 : k = m + 25
                  · rw [hk0, hwL21s_1, gup_self] <;> rw [dvV_2 (mt bI_eq0.mpr c20s21s74) ex20s21s94 c20s21s111]
                  rw [hwL21s, gup_ne hk0]
                  rw [gup_ne hk0]
                · rw [dvP_z (mt bI_eq0.mpr c20s21s74) ((nI_z (Nat.lt_trans (Nat.lt_of_le_of_lt (dvI_le (wgh := wgh) (mst := (dvS wgh mst iL20)) (s := (iL20 + 1)) (f := (2 ^ lowI (iL20 + 1))) (r := (mns (iL20 + 1) (2 ^ lowI (iL20 + 1)))) iL21).1 hR) (by decide))).mp c20s21s139) ex20s21s155, dvM_z (mt bI_eq0.mpr c20s21s74) ((nI_z (Nat.lt_trans (Nat.lt_of_le_of_lt (dvI_le (wgh := wgh) (mst := (dvS wgh mst iL20)) (s := (iL20 + 1)) (f := (2 ^ lowI (iL20 + 1))) (r := (mns (iL20 + 1) (2 ^ lowI (iL20 + 1)))) iL21).1 hR) (by decide))).mp c20s21s139) ex20s21s147]
              · skip
                refine g_iconst (v := 1) C d_M_divides_142 (by decide) ?_
                refine g_goto 147 C d_M_divides_143 (by decide) ?_
                refine g_topi (fun x20s21s147 ex20s21s147 => ?_)
                refine g_istore C d_M_divides_147 [(5, .int x20s21s147), (7, .int x20s21s94), (6, .int (nI ((dvI wgh (dvS wgh mst iL20) (iL20 + 1) (2 ^ lowI (iL20 + 1)) (mns (iL20 + 1) (2 ^ lowI (iL20 + 1))) iL21).1 ||| (2 ^ lowI (iL20 + 1))))), (0, .ref (ad m)), (1, .int (nI (iL20 + 1))), (2, .int (nI (2 ^ lowI (iL20 + 1)))), (3, .int (nI (mns (iL20 + 1) (2 ^ lowI (iL20 + 1))))), (4, .int (nI (dvI wgh (dvS wgh mst iL20) (iL20 + 1) (2 ^ lowI (iL20 + 1)) (mns (iL20 + 1) (2 ^ lowI (iL20 + 1))) iL21).1))] (by decide) rfl ?_
                refine g_iload C d_M_divides_149 7 rfl ?_
                refine g_iconst (v := 1) C d_M_divides_151 (by decide) ?_
                refine g_isub C d_M_divides_152 ?_
                refine g_iload_n C d_M_divides_153 rfl 6 rfl ?_
                refine g_iand C d_M_divides_154 ?_
                refine g_topi (fun x20s21s155 ex20s21s155 => ?_)
                refine g_istore C d_M_divides_155 [(4, .int x20s21s155), (5, .int x20s21s147), (7, .int x20s21s94), (6, .int (nI ((dvI wgh (dvS wgh mst iL20) (iL20 + 1) (2 ^ lowI (iL20 + 1)) (mns (iL20 + 1) (2 ^ lowI (iL20 + 1))) iL21).1 ||| (2 ^ lowI (iL20 + 1))))), (0, .ref (ad m)), (1, .int (nI (iL20 + 1))), (2, .int (nI (2 ^ lowI (iL20 + 1)))), (3, .int (nI (mns (iL20 + 1) (2 ^ lowI (iL20 + 1)))))] (by decide) rfl ?_
                refine g_goto 72 C d_M_divides_157 (by decide) ?_
                refine g_fewer (lv' := [(0, .ref (ad m)), (1, .int (nI (iL20 + 1))), (2, .int (nI (2 ^ lowI (iL20 + 1)))), (3, .int (nI (mns (iL20 + 1) (2 ^ lowI (iL20 + 1))))), (4, .int x20s21s155), (5, .int x20s21s147)]) [4, 5, 6, 7, 0, 1] rfl ?_
                refine GW_eq (u2 := gup u20s2 (m + 25) (.inl ((X.2 0), 4096, .inl (upd (dvS wgh mst iL20) (iL20 + 1) (dvI wgh (dvS wgh mst iL20) (iL20 + 1) (2 ^ lowI (iL20 + 1)) (mns (iL20 + 1) (2 ^ lowI (iL20 + 1))) (iL21 + 1)).2.2)))) (lv2 := [(0, .ref (ad m)), (1, .int (nI (iL20 + 1))), (2, .int (nI (2 ^ lowI (iL20 + 1)))), (3, .int (nI (mns (iL20 + 1) (2 ^ lowI (iL20 + 1))))), (4, .int (nI (dvI wgh (dvS wgh mst iL20) (iL20 + 1) (2 ^ lowI (iL20 + 1)) (mns (iL20 + 1) (2 ^ lowI (iL20 + 1))) (iL21 + 1)).1)), (5, .int (bI (dvI wgh (dvS wgh mst iL20) (iL20 + 1) (2 ^ lowI (iL20 + 1)) (mns (iL20 + 1) (2 ^ lowI (iL20 + 1))) (iL21 + 1)).2.1))]) ?_ ?_ (KL21 trivial)
                · funext k
                  by_cases hk0 : k = m + 25
                  · rw [hk0, hwL21s_1, gup_self] <;> rw [dvV_2 (mt bI_eq0.mpr c20s21s74) ex20s21s94 c20s21s111]
                  rw [hwL21s, gup_ne hk0]
                  rw [gup_ne hk0]
                · rw [dvP_n (mt bI_eq0.mpr c20s21s74) (mt (nI_z (Nat.lt_trans (Nat.lt_of_le_of_lt (dvI_le (wgh := wgh) (mst := (dvS wgh mst iL20)) (s := (iL20 + 1)) (f := (2 ^ lowI (iL20 + 1))) (r := (mns (iL20 + 1) (2 ^ lowI (iL20 + 1)))) iL21).1 hR) (by decide))).mpr c20s21s139) ex20s21s155, dvM_n (mt bI_eq0.mpr c20s21s74) (mt (nI_z (Nat.lt_trans (Nat.lt_of_le_of_lt (dvI_le (wgh := wgh) (mst := (dvS wgh mst iL20)) (s := (iL20 + 1)) (f := (2 ^ lowI (iL20 + 1))) (r := (mns (iL20 + 1) (2 ^ lowI (iL20 + 1)))) iL21).1 hR) (by decide))).mpr c20s21s139) ex20s21s147]
            · skip
              refine g_iload C d_M_divides_114 0 rfl ?_
              refine g_iconst (v := 1) C d_M_divides_116 (by decide) ?_
              refine g_iadd C d_M_divides_117 ?_
              refine g_aload_n C d_M_divides_118 rfl 2 rfl ?_
              refine g_get m 32 C hwL21s_0 rfl i_M (by decide) (gmem wd_550 rfl) rfl rfl d_M_divides_119 ?_
              refine g_iload_n C d_M_divides_122 rfl 3 rfl ?_
              refine g_iald (m + 25) 0 C hwL21s_1 rfl (vp_in_nI (by omega) (by decide)) d_M_divides_123 ?_
              rw [show Int32.toNatClampNeg (nI (iL20 + 1)) = (iL20 + 1) from nI_clamp (by omega)]
              refine g_icmp_le 137 C d_M_divides_124 (by decide) (fun c20s21s124 => ?_) (fun c20s21s124 => ?_)
              · skip
                refine g_iload C d_M_divides_137 6 rfl ?_
                refine g_if_eq 146 C d_M_divides_139 (by decide) (fun c20s21s139 => ?_) (fun c20s21s139 => ?_)
                · skip
                  refine g_iconst (v := 0) C d_M_divides_146 (by decide) ?_
                  refine g_topi (fun x20s21s147 ex20s21s147 => ?_)
                  refine g_istore C d_M_divides_147 [(5, .int x20s21s147), (7, .int x20s21s94), (6, .int (nI ((dvI wgh (dvS wgh mst iL20) (iL20 + 1) (2 ^ lowI (iL20 + 1)) (mns (iL20 + 1) (2 ^ lowI (iL20 + 1))) iL21).1 ||| (2 ^ lowI (iL20 + 1))))), (0, .ref (ad m)), (1, .int (nI (iL20 + 1))), (2, .int (nI (2 ^ lowI (iL20 + 1)))), (3, .int (nI (mns (iL20 + 1) (2 ^ lowI (iL20 + 1))))), (4, .int (nI (dvI wgh (dvS wgh mst iL20) (iL20 + 1) (2 ^ lowI (iL20 + 1)) (mns (iL20 + 1) (2 ^ lowI (iL20 + 1))) iL21).1))] (by decide) rfl ?_
                  refine g_iload C d_M_divides_149 7 rfl ?_
                  refine g_iconst (v := 1) C d_M_divides_151 (by decide) ?_
                  refine g_isub C d_M_divides_152 ?_
                  refine g_iload_n C d_M_divides_153 rfl 6 rfl ?_
                  refine g_iand C d_M_divides_154 ?_
                  refine g_topi (fun x20s21s155 ex20s21s155 => ?_)
                  refine g_istore C d_M_divides_155 [(4, .int x20s21s155), (5, .int x20s21s147), (7, .int x20s21s94), (6, .int (nI ((dvI wgh (dvS wgh mst iL20) (iL20 + 1) (2 ^ lowI (iL20 + 1)) (mns (iL20 + 1) (2 ^ lowI (iL20 + 1))) iL21).1 ||| (2 ^ lowI (iL20 + 1))))), (0, .ref (ad m)), (1, .int (nI (iL20 + 1))), (2, .int (nI (2 ^ lowI (iL20 + 1)))), (3, .int (nI (mns (iL20 + 1) (2 ^ lowI (iL20 + 1)))))] (by decide) rfl ?_
                  refine g_goto 72 C d_M_divides_157 (by decide) ?_
                  refine g_fewer (lv' := [(0, .ref (ad m)), (1, .int (nI (iL20 + 1))), (2, .int (nI (2 ^ lowI (iL20 + 1)))), (3, .int (nI (mns (iL20 + 1) (2 ^ lowI (iL20 + 1))))), (4, .int x20s21s155), (5, .int x20s21s147)]) [4, 5, 6, 7, 0, 1] rfl ?_
                  refine GW_eq (u2 := gup u20s2 (m + 25) (.inl ((X.2 0), 4096, .inl (upd (dvS wgh mst iL20) (iL20 + 1) (dvI wgh (dvS wgh mst iL20) (iL20 + 1) (2 ^ lowI (iL20 + 1)) (mns (iL20 + 1) (2 ^ lowI (iL20 + 1))) (iL21 + 1)).2.2)))) (lv2 := [(0, .ref (ad m)), (1, .int (nI (iL20 + 1))), (2, .int (nI (2 ^ lowI (iL20 + 1)))), (3, .int (nI (mns (iL20 + 1) (2 ^ lowI (iL20 + 1))))), (4, .int (nI (dvI wgh (dvS wgh mst iL20) (iL20 + 1) (2 ^ lowI (iL20 + 1)) (mns (iL20 + 1) (2 ^ lowI (iL20 + 1))) (iL21 + 1)).1)), (5, .int (bI (dvI wgh (dvS wgh mst iL20) (iL20 + 1) (2 ^ lowI (iL20 + 1)) (mns (iL20 + 1) (2 ^ lowI (iL20 + 1))) (iL21 + 1)).2.1))]) ?_ ?_ (KL21 trivial)
                  · funext k
                    by_cases hk0 : k = m + 25
                    · rw [hk0, hwL21s_1, gup_self] <;> rw [dvV_3 (mt bI_eq0.mpr c20s21s74) ex20s21s94 (by have h9 := c20s21s124; simp only [upd] at h9; exact h9)]
                    rw [hwL21s, gup_ne hk0]
                    rw [gup_ne hk0]
                  · rw [dvP_z (mt bI_eq0.mpr c20s21s74) ((nI_z (Nat.lt_trans (Nat.lt_of_le_of_lt (dvI_le (wgh := wgh) (mst := (dvS wgh mst iL20)) (s := (iL20 + 1)) (f := (2 ^ lowI (iL20 + 1))) (r := (mns (iL20 + 1) (2 ^ lowI (iL20 + 1)))) iL21).1 hR) (by decide))).mp c20s21s139) ex20s21s155, dvM_z (mt bI_eq0.mpr c20s21s74) ((nI_z (Nat.lt_trans (Nat.lt_of_le_of_lt (dvI_le (wgh := wgh) (mst := (dvS wgh mst iL20)) (s := (iL20 + 1)) (f := (2 ^ lowI (iL20 + 1))) (r := (mns (iL20 + 1) (2 ^ lowI (iL20 + 1)))) iL21).1 hR) (by decide))).mp c20s21s139) ex20s21s147]
                · skip
                  refine g_iconst (v := 1) C d_M_divides_142 (by decide) ?_
                  refine g_goto 147 C d_M_divides_143 (by decide) ?_
                  refine g_topi (fun x20s21s147 ex20s21s147 => ?_)
                  refine g_istore C d_M_divides_147 [(5, .int x20s21s147), (7, .int x20s21s94), (6, .int (nI ((dvI wgh (dvS wgh mst iL20) (iL20 + 1) (2 ^ lowI (iL20 + 1)) (mns (iL20 + 1) (2 ^ lowI (iL20 + 1))) iL21).1 ||| (2 ^ lowI (iL20 + 1))))), (0, .ref (ad m)), (1, .int (nI (iL20 + 1))), (2, .int (nI (2 ^ lowI (iL20 + 1)))), (3, .int (nI (mns (iL20 + 1) (2 ^ lowI (iL20 + 1))))), (4, .int (nI (dvI wgh (dvS wgh mst iL20) (iL20 + 1) (2 ^ lowI (iL20 + 1)) (mns (iL20 + 1) (2 ^ lowI (iL20 + 1))) iL21).1))] (by decide) rfl ?_
                  refine g_iload C d_M_divides_149 7 rfl ?_
                  refine g_iconst (v := 1) C d_M_divides_151 (by decide) ?_
                  refine g_isub C d_M_divides_152 ?_
                  refine g_iload_n C d_M_divides_153 rfl 6 rfl ?_
                  refine g_iand C d_M_divides_154 ?_
                  refine g_topi (fun x20s21s155 ex20s21s155 => ?_)
                  refine g_istore C d_M_divides_155 [(4, .int x20s21s155), (5, .int x20s21s147), (7, .int x20s21s94), (6, .int (nI ((dvI wgh (dvS wgh mst iL20) (iL20 + 1) (2 ^ lowI (iL20 + 1)) (mns (iL20 + 1) (2 ^ lowI (iL20 + 1))) iL21).1 ||| (2 ^ lowI (iL20 + 1))))), (0, .ref (ad m)), (1, .int (nI (iL20 + 1))), (2, .int (nI (2 ^ lowI (iL20 + 1)))), (3, .int (nI (mns (iL20 + 1) (2 ^ lowI (iL20 + 1)))))] (by decide) rfl ?_
                  refine g_goto 72 C d_M_divides_157 (by decide) ?_
                  refine g_fewer (lv' := [(0, .ref (ad m)), (1, .int (nI (iL20 + 1))), (2, .int (nI (2 ^ lowI (iL20 + 1)))), (3, .int (nI (mns (iL20 + 1) (2 ^ lowI (iL20 + 1))))), (4, .int x20s21s155), (5, .int x20s21s147)]) [4, 5, 6, 7, 0, 1] rfl ?_
                  refine GW_eq (u2 := gup u20s2 (m + 25) (.inl ((X.2 0), 4096, .inl (upd (dvS wgh mst iL20) (iL20 + 1) (dvI wgh (dvS wgh mst iL20) (iL20 + 1) (2 ^ lowI (iL20 + 1)) (mns (iL20 + 1) (2 ^ lowI (iL20 + 1))) (iL21 + 1)).2.2)))) (lv2 := [(0, .ref (ad m)), (1, .int (nI (iL20 + 1))), (2, .int (nI (2 ^ lowI (iL20 + 1)))), (3, .int (nI (mns (iL20 + 1) (2 ^ lowI (iL20 + 1))))), (4, .int (nI (dvI wgh (dvS wgh mst iL20) (iL20 + 1) (2 ^ lowI (iL20 + 1)) (mns (iL20 + 1) (2 ^ lowI (iL20 + 1))) (iL21 + 1)).1)), (5, .int (bI (dvI wgh (dvS wgh mst iL20) (iL20 + 1) (2 ^ lowI (iL20 + 1)) (mns (iL20 + 1) (2 ^ lowI (iL20 + 1))) (iL21 + 1)).2.1))]) ?_ ?_ (KL21 trivial)
                  · funext k
                    by_cases hk0 : k = m + 25
                    · rw [hk0, hwL21s_1, gup_self] <;> rw [dvV_3 (mt bI_eq0.mpr c20s21s74) ex20s21s94 (by have h9 := c20s21s124; simp only [upd] at h9; exact h9)]
                    rw [hwL21s, gup_ne hk0]
                    rw [gup_ne hk0]
                  · rw [dvP_n (mt bI_eq0.mpr c20s21s74) (mt (nI_z (Nat.lt_trans (Nat.lt_of_le_of_lt (dvI_le (wgh := wgh) (mst := (dvS wgh mst iL20)) (s := (iL20 + 1)) (f := (2 ^ lowI (iL20 + 1))) (r := (mns (iL20 + 1) (2 ^ lowI (iL20 + 1)))) iL21).1 hR) (by decide))).mpr c20s21s139) ex20s21s155, dvM_n (mt bI_eq0.mpr c20s21s74) (mt (nI_z (Nat.lt_trans (Nat.lt_of_le_of_lt (dvI_le (wgh := wgh) (mst := (dvS wgh mst iL20)) (s := (iL20 + 1)) (f := (2 ^ lowI (iL20 + 1))) (r := (mns (iL20 + 1) (2 ^ lowI (iL20 + 1)))) iL21).1 hR) (by decide))).mpr c20s21s139) ex20s21s147]
              · skip
                refine g_aload_n C d_M_divides_127 rfl 2 rfl ?_
                refine g_get m 32 C hwL21s_0 rfl i_M (by decide) (gmem wd_550 rfl) rfl rfl d_M_divides_128 ?_
                refine g_iload_n C d_M_divides_131 rfl 3 rfl ?_
                refine g_iload C d_M_divides_132 0 rfl ?_
                refine g_iconst (v := 1) C d_M_divides_134 (by decide) ?_
                refine g_iadd C d_M_divides_135 ?_
                refine g_topi (fun x20s21s136 ex20s21s136 => ?_)
                refine g_iast (m + 25) 0 C hwL21s_1 rfl (vp_in_nI (by omega) (by decide)) d_M_divides_136 ?_
                rw [show Int32.toNatClampNeg (nI (iL20 + 1)) = (iL20 + 1) from nI_clamp (by omega)]
                obtain ⟨u20s21s3, hu20s21s3⟩ : ∃ z, z = gup wL21s (m + 25) (.inl ((X.2 0), 4096, .inl (upd (upd (dvS wgh mst iL20) (iL20 + 1) (dvI wgh (dvS wgh mst iL20) (iL20 + 1) (2 ^ lowI (iL20 + 1)) (mns (iL20 + 1) (2 ^ lowI (iL20 + 1))) iL21).2.2) (iL20 + 1) x20s21s136))) := ⟨_, rfl⟩
                rw [← hu20s21s3]
                have hu20s21s3_0 : u20s21s3 m = some (mO ad m th cl dr wy ce ra li bi) := by rw [hu20s21s3, gup_ne (by omega)]; exact hwL21s_0
                have hu20s21s3_1 : u20s21s3 (m + 25) = some (.inl ((X.2 0), 4096, .inl (upd (upd (dvS wgh mst iL20) (iL20 + 1) (dvI wgh (dvS wgh mst iL20) (iL20 + 1) (2 ^ lowI (iL20 + 1)) (mns (iL20 + 1) (2 ^ lowI (iL20 + 1))) iL21).2.2) (iL20 + 1) x20s21s136))) := by rw [hu20s21s3]; exact gup_self _ _ _
                have hu20s21s3_2 : u20s21s3 (m + 24) = some (.inl ((X.2 1), 4096, .inr (.inl wgh))) := by rw [hu20s21s3, gup_ne (by omega)]; exact hwL21s_2
                refine g_iload C d_M_divides_137 6 rfl ?_
                refine g_if_eq 146 C d_M_divides_139 (by decide) (fun c20s21s139 => ?_) (fun c20s21s139 => ?_)
                · skip
                  refine g_iconst (v := 0) C d_M_divides_146 (by decide) ?_
                  refine g_topi (fun x20s21s147 ex20s21s147 => ?_)
                  refine g_istore C d_M_divides_147 [(5, .int x20s21s147), (7, .int x20s21s94), (6, .int (nI ((dvI wgh (dvS wgh mst iL20) (iL20 + 1) (2 ^ lowI (iL20 + 1)) (mns (iL20 + 1) (2 ^ lowI (iL20 + 1))) iL21).1 ||| (2 ^ lowI (iL20 + 1))))), (0, .ref (ad m)), (1, .int (nI (iL20 + 1))), (2, .int (nI (2 ^ lowI (iL20 + 1)))), (3, .int (nI (mns (iL20 + 1) (2 ^ lowI (iL20 + 1))))), (4, .int (nI (dvI wgh (dvS wgh mst iL20) (iL20 + 1) (2 ^ lowI (iL20 + 1)) (mns (iL20 + 1) (2 ^ lowI (iL20 + 1))) iL21).1))] (by decide) rfl ?_
                  refine g_iload C d_M_divides_149 7 rfl ?_
                  refine g_iconst (v := 1) C d_M_divides_151 (by decide) ?_
                  refine g_isub C d_M_divides_152 ?_
                  refine g_iload_n C d_M_divides_153 rfl 6 rfl ?_
                  refine g_iand C d_M_divides_154 ?_
                  refine g_topi (fun x20s21s155 ex20s21s155 => ?_)
                  refine g_istore C d_M_divides_155 [(4, .int x20s21s155), (5, .int x20s21s147), (7, .int x20s21s94), (6, .int (nI ((dvI wgh (dvS wgh mst iL20) (iL20 + 1) (2 ^ lowI (iL20 + 1)) (mns (iL20 + 1) (2 ^ lowI (iL20 + 1))) iL21).1 ||| (2 ^ lowI (iL20 + 1))))), (0, .ref (ad m)), (1, .int (nI (iL20 + 1))), (2, .int (nI (2 ^ lowI (iL20 + 1)))), (3, .int (nI (mns (iL20 + 1) (2 ^ lowI (iL20 + 1)))))] (by decide) rfl ?_
                  refine g_goto 72 C d_M_divides_157 (by decide) ?_
                  refine g_fewer (lv' := [(0, .ref (ad m)), (1, .int (nI (iL20 + 1))), (2, .int (nI (2 ^ lowI (iL20 + 1)))), (3, .int (nI (mns (iL20 + 1) (2 ^ lowI (iL20 + 1))))), (4, .int x20s21s155), (5, .int x20s21s147)]) [4, 5, 6, 7, 0, 1] rfl ?_
                  refine GW_eq (u2 := gup u20s2 (m + 25) (.inl ((X.2 0), 4096, .inl (upd (dvS wgh mst iL20) (iL20 + 1) (dvI wgh (dvS wgh mst iL20) (iL20 + 1) (2 ^ lowI (iL20 + 1)) (mns (iL20 + 1) (2 ^ lowI (iL20 + 1))) (iL21 + 1)).2.2)))) (lv2 := [(0, .ref (ad m)), (1, .int (nI (iL20 + 1))), (2, .int (nI (2 ^ lowI (iL20 + 1)))), (3, .int (nI (mns (iL20 + 1) (2 ^ lowI (iL20 + 1))))), (4, .int (nI (dvI wgh (dvS wgh mst iL20) (iL20 + 1) (2 ^ lowI (iL20 + 1)) (mns (iL20 + 1) (2 ^ lowI (iL20 + 1))) (iL21 + 1)).1)), (5, .int (bI (dvI wgh (dvS wgh mst iL20) (iL20 + 1) (2 ^ lowI (iL20 + 1)) (mns (iL20 + 1) (2 ^ lowI (iL20 + 1))) (iL21 + 1)).2.1))]) ?_ ?_ (KL21 trivial)
                  · funext k
                    by_cases hk0 : k = m + 25
                    · rw [hk0, hu20s21s3_1, gup_self] <;> rw [dvV_4 (mt bI_eq0.mpr c20s21s74) ex20s21s94 c20s21s105 c20s21s111 (by have h9 := c20s21s124; simp only [upd] at h9; exact h9), upd_upd, ex20s21s136]
                    rw [hu20s21s3, gup_ne hk0]
                    rw [hwL21s, gup_ne hk0]
                    rw [gup_ne hk0]
                  · rw [dvP_z (mt bI_eq0.mpr c20s21s74) ((nI_z (Nat.lt_trans (Nat.lt_of_le_of_lt (dvI_le (wgh := wgh) (mst := (dvS wgh mst iL20)) (s := (iL20 + 1)) (f := (2 ^ lowI (iL20 + 1))) (r := (mns (iL20 + 1) (2 ^ lowI (iL20 + 1)))) iL21).1 hR) (by decide))).mp c20s21s139) ex20s21s155, dvM_z (mt bI_eq0.mpr c20s21s74) ((nI_z (Nat.lt_trans (Nat.lt_of_le_of_lt (dvI_le (wgh := wgh) (mst := (dvS wgh mst iL20)) (s := (iL20 + 1)) (f := (2 ^ lowI (iL20 + 1))) (r := (mns (iL20 + 1) (2 ^ lowI (iL20 + 1)))) iL21).1 hR) (by decide))).mp c20s21s139) ex20s21s147]
                · skip
                  refine g_iconst (v := 1) C d_M_divides_142 (by decide) ?_
                  refine g_goto 147 C d_M_divides_143 (by decide) ?_
                  refine g_topi (fun x20s21s147 ex20s21s147 => ?_)
                  refine g_istore C d_M_divides_147 [(5, .int x20s21s147), (7, .int x20s21s94), (6, .int (nI ((dvI wgh (dvS wgh mst iL20) (iL20 + 1) (2 ^ lowI (iL20 + 1)) (mns (iL20 + 1) (2 ^ lowI (iL20 + 1))) iL21).1 ||| (2 ^ lowI (iL20 + 1))))), (0, .ref (ad m)), (1, .int (nI (iL20 + 1))), (2, .int (nI (2 ^ lowI (iL20 + 1)))), (3, .int (nI (mns (iL20 + 1) (2 ^ lowI (iL20 + 1))))), (4, .int (nI (dvI wgh (dvS wgh mst iL20) (iL20 + 1) (2 ^ lowI (iL20 + 1)) (mns (iL20 + 1) (2 ^ lowI (iL20 + 1))) iL21).1))] (by decide) rfl ?_
                  refine g_iload C d_M_divides_149 7 rfl ?_
                  refine g_iconst (v := 1) C d_M_divides_151 (by decide) ?_
                  refine g_isub C d_M_divides_152 ?_
                  refine g_iload_n C d_M_divides_153 rfl 6 rfl ?_
                  refine g_iand C d_M_divides_154 ?_
                  refine g_topi (fun x20s21s155 ex20s21s155 => ?_)
                  refine g_istore C d_M_divides_155 [(4, .int x20s21s155), (5, .int x20s21s147), (7, .int x20s21s94), (6, .int (nI ((dvI wgh (dvS wgh mst iL20) (iL20 + 1) (2 ^ lowI (iL20 + 1)) (mns (iL20 + 1) (2 ^ lowI (iL20 + 1))) iL21).1 ||| (2 ^ lowI (iL20 + 1))))), (0, .ref (ad m)), (1, .int (nI (iL20 + 1))), (2, .int (nI (2 ^ lowI (iL20 + 1)))), (3, .int (nI (mns (iL20 + 1) (2 ^ lowI (iL20 + 1)))))] (by decide) rfl ?_
                  refine g_goto 72 C d_M_divides_157 (by decide) ?_
                  refine g_fewer (lv' := [(0, .ref (ad m)), (1, .int (nI (iL20 + 1))), (2, .int (nI (2 ^ lowI (iL20 + 1)))), (3, .int (nI (mns (iL20 + 1) (2 ^ lowI (iL20 + 1))))), (4, .int x20s21s155), (5, .int x20s21s147)]) [4, 5, 6, 7, 0, 1] rfl ?_
                  refine GW_eq (u2 := gup u20s2 (m + 25) (.inl ((X.2 0), 4096, .inl (upd (dvS wgh mst iL20) (iL20 + 1) (dvI wgh (dvS wgh mst iL20) (iL20 + 1) (2 ^ lowI (iL20 + 1)) (mns (iL20 + 1) (2 ^ lowI (iL20 + 1))) (iL21 + 1)).2.2)))) (lv2 := [(0, .ref (ad m)), (1, .int (nI (iL20 + 1))), (2, .int (nI (2 ^ lowI (iL20 + 1)))), (3, .int (nI (mns (iL20 + 1) (2 ^ lowI (iL20 + 1))))), (4, .int (nI (dvI wgh (dvS wgh mst iL20) (iL20 + 1) (2 ^ lowI (iL20 + 1)) (mns (iL20 + 1) (2 ^ lowI (iL20 + 1))) (iL21 + 1)).1)), (5, .int (bI (dvI wgh (dvS wgh mst iL20) (iL20 + 1) (2 ^ lowI (iL20 + 1)) (mns (iL20 + 1) (2 ^ lowI (iL20 + 1))) (iL21 + 1)).2.1))]) ?_ ?_ (KL21 trivial)
                  · funext k
                    by_cases hk0 : k = m + 25
                    · rw [hk0, hu20s21s3_1, gup_self] <;> rw [dvV_4 (mt bI_eq0.mpr c20s21s74) ex20s21s94 c20s21s105 c20s21s111 (by have h9 := c20s21s124; simp only [upd] at h9; exact h9), upd_upd, ex20s21s136]
                    rw [hu20s21s3, gup_ne hk0]
                    rw [hwL21s, gup_ne hk0]
                    rw [gup_ne hk0]
                  · rw [dvP_n (mt bI_eq0.mpr c20s21s74) (mt (nI_z (Nat.lt_trans (Nat.lt_of_le_of_lt (dvI_le (wgh := wgh) (mst := (dvS wgh mst iL20)) (s := (iL20 + 1)) (f := (2 ^ lowI (iL20 + 1))) (r := (mns (iL20 + 1) (2 ^ lowI (iL20 + 1)))) iL21).1 hR) (by decide))).mpr c20s21s139) ex20s21s155, dvM_n (mt bI_eq0.mpr c20s21s74) (mt (nI_z (Nat.lt_trans (Nat.lt_of_le_of_lt (dvI_le (wgh := wgh) (mst := (dvS wgh mst iL20)) (s := (iL20 + 1)) (f := (2 ^ lowI (iL20 + 1))) (r := (mns (iL20 + 1) (2 ^ lowI (iL20 + 1)))) iL21).1 hR) (by decide))).mpr c20s21s139) ex20s21s147]
      · skip
        show GW Z _ _ _ ad (gup u20s2 (m + 25) (.inl ((X.2 0), 4096, .inl (upd (dvS wgh mst iL20) (iL20 + 1) (dvI wgh (dvS wgh mst iL20) (iL20 + 1) (2 ^ lowI (iL20 + 1)) (mns (iL20 + 1) (2 ^ lowI (iL20 + 1))) 4096).2.2)))) _ [(0, .ref (ad m)), (1, .int (nI (iL20 + 1))), (2, .int (nI (2 ^ lowI (iL20 + 1)))), (3, .int (nI (mns (iL20 + 1) (2 ^ lowI (iL20 + 1))))), (4, .int (nI (dvI wgh (dvS wgh mst iL20) (iL20 + 1) (2 ^ lowI (iL20 + 1)) (mns (iL20 + 1) (2 ^ lowI (iL20 + 1))) 4096).1)), (5, .int (bI (dvI wgh (dvS wgh mst iL20) (iL20 + 1) (2 ^ lowI (iL20 + 1)) (mns (iL20 + 1) (2 ^ lowI (iL20 + 1))) 4096).2.1))] _ _ 72 []
        obtain ⟨wL21e, hwL21e⟩ : ∃ z, z = gup u20s2 (m + 25) (.inl ((X.2 0), 4096, .inl (upd (dvS wgh mst iL20) (iL20 + 1) (dvI wgh (dvS wgh mst iL20) (iL20 + 1) (2 ^ lowI (iL20 + 1)) (mns (iL20 + 1) (2 ^ lowI (iL20 + 1))) 4096).2.2))) := ⟨_, rfl⟩
        rw [← hwL21e]
        have hwL21e_0 : wL21e m = some (mO ad m th cl dr wy ce ra li bi) := by rw [hwL21e, gup_ne (by omega)]; exact hu20s2_0
        have hwL21e_1 : wL21e (m + 25) = some (.inl ((X.2 0), 4096, .inl (upd (dvS wgh mst iL20) (iL20 + 1) (dvI wgh (dvS wgh mst iL20) (iL20 + 1) (2 ^ lowI (iL20 + 1)) (mns (iL20 + 1) (2 ^ lowI (iL20 + 1))) 4096).2.2))) := by rw [hwL21e, gup_self]
        have hwL21e_2 : wL21e (m + 24) = some (.inl ((X.2 1), 4096, .inr (.inl wgh))) := by rw [hwL21e, gup_ne (by omega)]; exact hu20s2_2
        refine g_iload C d_M_divides_72 5 rfl ?_
        refine g_if_eq 160 C d_M_divides_74 (by decide) (fun c20s21e74 => ?_) (fun c20s21e74 => ?_)
        rotate_left
        · exact absurd (show bI _ = 0 by rw [dvI_end hR]; rfl) c20s21e74
        obtain ⟨x20s21e160, ex20s21e160⟩ : ∃ y : Int32, y = (nI (iL20 + 1)) + 1 := ⟨_, rfl⟩
        refine g_iinc (v := x20s21e160) C d_M_divides_160 1 rfl (by rw [ex20s21e160]; rfl) [(1, .int x20s21e160), (0, .ref (ad m)), (2, .int (nI (2 ^ lowI (iL20 + 1)))), (3, .int (nI (mns (iL20 + 1) (2 ^ lowI (iL20 + 1))))), (4, .int (nI (dvI wgh (dvS wgh mst iL20) (iL20 + 1) (2 ^ lowI (iL20 + 1)) (mns (iL20 + 1) (2 ^ lowI (iL20 + 1))) 4096).1)), (5, .int (bI (dvI wgh (dvS wgh mst iL20) (iL20 + 1) (2 ^ lowI (iL20 + 1)) (mns (iL20 + 1) (2 ^ lowI (iL20 + 1))) 4096).2.1))] (by decide) rfl ?_
        refine g_goto 9 C d_M_divides_163 (by decide) ?_
        refine g_fewer (lv' := [(0, .ref (ad m)), (1, .int x20s21e160)]) [1, 0] rfl ?_
        refine GW_eq (u2 := gup u1 (m + 25) (.inl ((X.2 0), 4096, .inl (dvS wgh mst (iL20 + 1))))) (lv2 := [(0, .ref (ad m)), (1, .int (nI (iL20 + 1 + 1)))]) ?_ ?_ (KL20 trivial)
        · funext k
          by_cases hk0 : k = m + 25
          · rw [hk0, hwL21e_1, gup_self] <;> rw [show dvS wgh mst (iL20 + 1) = upd (dvS wgh mst iL20) (iL20 + 1) (dvV wgh (dvS wgh mst iL20) (iL20 + 1)) from rfl, dvV, if_pos c20s44]
          rw [hwL21e, gup_ne hk0]
          rw [hu20s2, gup_ne hk0]
          rw [hwL20s, gup_ne hk0]
          rw [gup_ne hk0]
        · simp only [ex20s21e160, nI_1]
  · skip
    show GW Z _ _ _ ad (gup u1 (m + 25) (.inl ((X.2 0), 4096, .inl (dvS wgh mst 4095)))) _ [(0, .ref (ad m)), (1, .int (nI (4095 + 1)))] _ _ 9 []
    obtain ⟨wL20e, hwL20e⟩ : ∃ z, z = gup u1 (m + 25) (.inl ((X.2 0), 4096, .inl (dvS wgh mst 4095))) := ⟨_, rfl⟩
    rw [← hwL20e]
    have hwL20e_0 : wL20e m = some (mO ad m th cl dr wy ce ra li bi) := by rw [hwL20e, gup_ne (by omega)]; exact hu1_0
    have hwL20e_1 : wL20e (m + 25) = some (.inl ((X.2 0), 4096, .inl (dvS wgh mst 4095))) := by rw [hwL20e, gup_self]
    have hwL20e_2 : wL20e (m + 24) = some (.inl ((X.2 1), 4096, .inr (.inl wgh))) := by rw [hwL20e, gup_ne (by omega)]; exact hu1_2
    refine g_iload_n C d_M_divides_9 rfl 1 rfl ?_
    refine g_sipush (v := 4096) C d_M_divides_10 (by decide) ?_
    refine g_icmp_ge 166 C d_M_divides_13 (by decide) (fun c20e13 => ?_) (fun c20e13 => ?_)
    rotate_left
    · exact absurd (Int32.le_refl _) c20e13
    exact g_vret C hR hret ⟨rfl, (by first | (rw [hwL20e, hu1]; done) | (rw [hwL20e, hu1]; funext k; simp only [gup]; (repeat' split) <;> first | with_reducible rfl | (exfalso; omega))), rfl⟩ d_M_divides_166
