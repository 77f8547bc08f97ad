def sumB (am : Nat → Int64) (s : Nat) : Nat → Int64
  | 0 => 0
  | i + 1 => if s.testBit i = false then sumB am s i else sumB am s i + am i
theorem pw12 {k : Nat} (h : k ≤ 12) : 2 ^ k ≤ 4096 := Nat.pow_le_pow_right (by decide) h
def gaS (bal : Nat → Int64) (mem : Nat → Int32) (am : Nat → Int64) : Nat → Nat × (Nat → Int32) × (Nat → Int64)
  | 0 => (0, mem, am)
  | m + 1 => if bal m = 0 then gaS bal mem am m else ((gaS bal mem am m).1 + 1, upd (gaS bal mem am m).2.1 (gaS bal mem am m).1 (nI m), vp_updL (gaS bal mem am m).2.2 (gaS bal mem am m).1 (bal m))
theorem gaS_le (bal : Nat → Int64) (mem : Nat → Int32) (am : Nat → Int64) (m : Nat) : (gaS bal mem am m).1 ≤ m := by
  induction m with
  | zero => exact Nat.le_refl _
  | succ m ih =>
    simp only [gaS]
    split
    · omega
    · show (gaS bal mem am m).1 + 1 ≤ m + 1
      omega
theorem gaS_t {bal : Nat → Int64} {mem : Nat → Int32} {am : Nat → Int64} {m : Nat} (h : bal m = 0) : gaS bal mem am (m + 1) = gaS bal mem am m := if_pos h
theorem gaS_f {bal : Nat → Int64} {mem : Nat → Int32} {am : Nat → Int64} {m : Nat} (h : ¬ bal m = 0) : gaS bal mem am (m + 1) = ((gaS bal mem am m).1 + 1, upd (gaS bal mem am m).2.1 (gaS bal mem am m).1 (nI m), vp_updL (gaS bal mem am m).2.2 (gaS bal mem am m).1 (bal m)) := if_neg h
def lowQ (l : Nat) : Nat := if l.testBit 0 = true then 0 else if l.testBit 1 = true then 1 else if l.testBit 2 = true then 2 else if l.testBit 3 = true then 3 else if l.testBit 4 = true then 4 else if l.testBit 5 = true then 5 else if l.testBit 6 = true then 6 else if l.testBit 7 = true then 7 else if l.testBit 8 = true then 8 else if l.testBit 9 = true then 9 else if l.testBit 10 = true then 10 else 11
theorem lowQ_spec {l : Nat} (h0 : l ≠ 0) (h : l < 2 ^ 12) : lowI l = lowQ l := by
  unfold lowQ
  by_cases t0 : l.testBit 0 = true
  · rw [if_pos t0]; exact lowI_of (by decide) t0 (fun j hj => absurd hj (by omega))
  by_cases t1 : l.testBit 1 = true
  · rw [if_neg t0, if_pos t1]; exact lowI_of (by decide) t1 (fun j hj => by rcases (show j = 0 by omega) with rfl <;> first | exact (Bool.not_eq_true _).mp t0)
  by_cases t2 : l.testBit 2 = true
  · rw [if_neg t0, if_neg t1, if_pos t2]; exact lowI_of (by decide) t2 (fun j hj => by rcases (show j = 0 ∨ j = 1 by omega) with rfl | rfl <;> first | exact (Bool.not_eq_true _).mp t0 | exact (Bool.not_eq_true _).mp t1)
  by_cases t3 : l.testBit 3 = true
  · rw [if_neg t0, if_neg t1, if_neg t2, if_pos t3]; exact lowI_of (by decide) t3 (fun j hj => by rcases (show j = 0 ∨ j = 1 ∨ j = 2 by omega) with rfl | rfl | rfl <;> first | exact (Bool.not_eq_true _).mp t0 | exact (Bool.not_eq_true _).mp t1 | exact (Bool.not_eq_true _).mp t2)
  by_cases t4 : l.testBit 4 = true
  · rw [if_neg t0, if_neg t1, if_neg t2, if_neg t3, if_pos t4]; exact lowI_of (by decide) t4 (fun j hj => by rcases (show j = 0 ∨ j = 1 ∨ j = 2 ∨ j = 3 by omega) with rfl | rfl | rfl | rfl <;> first | exact (Bool.not_eq_true _).mp t0 | exact (Bool.not_eq_true _).mp t1 | exact (Bool.not_eq_true _).mp t2 | exact (Bool.not_eq_true _).mp t3)
  by_cases t5 : l.testBit 5 = true
  · rw [if_neg t0, if_neg t1, if_neg t2, if_neg t3, if_neg t4, if_pos t5]; exact lowI_of (by decide) t5 (fun j hj => by rcases (show j = 0 ∨ j = 1 ∨ j = 2 ∨ j = 3 ∨ j = 4 by omega) with rfl | rfl | rfl | rfl | rfl <;> first | exact (Bool.not_eq_true _).mp t0 | exact (Bool.not_eq_true _).mp t1 | exact (Bool.not_eq_true _).mp t2 | exact (Bool.not_eq_true _).mp t3 | exact (Bool.not_eq_true _).mp t4)
  by_cases t6 : l.testBit 6 = true
  · rw [if_neg t0, if_neg t1, if_neg t2, if_neg t3, if_neg t4, if_neg t5, if_pos t6]; exact lowI_of (by decide) t6 (fun j hj => by rcases (show j = 0 ∨ j = 1 ∨ j = 2 ∨ j = 3 ∨ j = 4 ∨ j = 5 by omega) with rfl | rfl | rfl | rfl | rfl | rfl <;> first | exact (Bool.not_eq_true _).mp t0 | exact (Bool.not_eq_true _).mp t1 | exact (Bool.not_eq_true _).mp t2 | exact (Bool.not_eq_true _).mp t3 | exact (Bool.not_eq_true _).mp t4 | exact (Bool.not_eq_true _).mp t5)
  by_cases t7 : l.testBit 7 = true
  · rw [if_neg t0, if_neg t1, if_neg t2, if_neg t3, if_neg t4, if_neg t5, if_neg t6, if_pos t7]; exact lowI_of (by decide) t7 (fun j hj => by rcases (show j = 0 ∨ j = 1 ∨ j = 2 ∨ j = 3 ∨ j = 4 ∨ j = 5 ∨ j = 6 by omega) with rfl | rfl | rfl | rfl | rfl | rfl | rfl <;> first | exact (Bool.not_eq_true _).mp t0 | exact (Bool.not_eq_true _).mp t1 | exact (Bool.not_eq_true _).mp t2 | exact (Bool.not_eq_true _).mp t3 | exact (Bool.not_eq_true _).mp t4 | exact (Bool.not_eq_true _).mp t5 | exact (Bool.not_eq_true _).mp t6)
  by_cases t8 : l.testBit 8 = true
  · rw [if_neg t0, if_neg t1, if_neg t2, if_neg t3, if_neg t4, if_neg t5, if_neg t6, if_neg t7, if_pos t8]; exact lowI_of (by decide) t8 (fun j hj => by rcases (show j = 0 ∨ j = 1 ∨ j = 2 ∨ j = 3 ∨ j = 4 ∨ j = 5 ∨ j = 6 ∨ j = 7 by omega) with rfl | rfl | rfl | rfl | rfl | rfl | rfl | rfl <;> first | exact (Bool.not_eq_true _).mp t0 | exact (Bool.not_eq_true _).mp t1 | exact (Bool.not_eq_true _).mp t2 | exact (Bool.not_eq_true _).mp t3 | exact (Bool.not_eq_true _).mp t4 | exact (Bool.not_eq_true _).mp t5 | exact (Bool.not_eq_true _).mp t6 | exact (Bool.not_eq_true _).mp t7)
  by_cases t9 : l.testBit 9 = true
  · rw [if_neg t0, if_neg t1, if_neg t2, if_neg t3, if_neg t4, if_neg t5, if_neg t6, if_neg t7, if_neg t8, if_pos t9]; exact lowI_of (by decide) t9 (fun j hj => by rcases (show j = 0 ∨ j = 1 ∨ j = 2 ∨ j = 3 ∨ j = 4 ∨ j = 5 ∨ j = 6 ∨ j = 7 ∨ j = 8 by omega) with rfl | rfl | rfl | rfl | rfl | rfl | rfl | rfl | rfl <;> first | exact (Bool.not_eq_true _).mp t0 | exact (Bool.not_eq_true _).mp t1 | exact (Bool.not_eq_true _).mp t2 | exact (Bool.not_eq_true _).mp t3 | exact (Bool.not_eq_true _).mp t4 | exact (Bool.not_eq_true _).mp t5 | exact (Bool.not_eq_true _).mp t6 | exact (Bool.not_eq_true _).mp t7 | exact (Bool.not_eq_true _).mp t8)
  by_cases t10 : l.testBit 10 = true
  · rw [if_neg t0, if_neg t1, if_neg t2, if_neg t3, if_neg t4, if_neg t5, if_neg t6, if_neg t7, if_neg t8, if_neg t9, if_pos t10]; exact lowI_of (by decide) t10 (fun j hj => by rcases (show j = 0 ∨ j = 1 ∨ j = 2 ∨ j = 3 ∨ j = 4 ∨ j = 5 ∨ j = 6 ∨ j = 7 ∨ j = 8 ∨ j = 9 by omega) with rfl | rfl | rfl | rfl | rfl | rfl | rfl | rfl | rfl | rfl <;> first | exact (Bool.not_eq_true _).mp t0 | exact (Bool.not_eq_true _).mp t1 | exact (Bool.not_eq_true _).mp t2 | exact (Bool.not_eq_true _).mp t3 | exact (Bool.not_eq_true _).mp t4 | exact (Bool.not_eq_true _).mp t5 | exact (Bool.not_eq_true _).mp t6 | exact (Bool.not_eq_true _).mp t7 | exact (Bool.not_eq_true _).mp t8 | exact (Bool.not_eq_true _).mp t9)
  have hz : ∀ j, j < 11 → l.testBit j = false := fun j hj => by rcases (show j = 0 ∨ j = 1 ∨ j = 2 ∨ j = 3 ∨ j = 4 ∨ j = 5 ∨ j = 6 ∨ j = 7 ∨ j = 8 ∨ j = 9 ∨ j = 10 by omega) with rfl | rfl | rfl | rfl | rfl | rfl | rfl | rfl | rfl | rfl | rfl <;> first | exact (Bool.not_eq_true _).mp t0 | exact (Bool.not_eq_true _).mp t1 | exact (Bool.not_eq_true _).mp t2 | exact (Bool.not_eq_true _).mp t3 | exact (Bool.not_eq_true _).mp t4 | exact (Bool.not_eq_true _).mp t5 | exact (Bool.not_eq_true _).mp t6 | exact (Bool.not_eq_true _).mp t7 | exact (Bool.not_eq_true _).mp t8 | exact (Bool.not_eq_true _).mp t9 | exact (Bool.not_eq_true _).mp t10
  have t11 : l.testBit 11 = true := by
    by_cases t : l.testBit 11 = true
    · exact t
    · exact absurd (tb_zero h (fun j hj => by by_cases e : j = 11; (· rw [e]; exact (Bool.not_eq_true _).mp t); (· exact hz j (by omega)))) h0
  rw [if_neg t0, if_neg t1, if_neg t2, if_neg t3, if_neg t4, if_neg t5, if_neg t6, if_neg t7, if_neg t8, if_neg t9, if_neg t10]; exact lowI_of (by decide) t11 hz
theorem lowNeg0 : ∀ a, a < 64 → ∀ b, b < 64 → 64 * a + b ≠ 0 → nI (64 * a + b) &&& -(nI (64 * a + b)) = nI (2 ^ lowQ (64 * a + b)) := by decide +kernel
theorem lowNeg {l : Nat} (h : l < 4096) (h0 : l ≠ 0) : nI l &&& -(nI l) = nI (2 ^ lowI l) := by
  have e : 64 * (l / 64) + l % 64 = l := Nat.div_add_mod l 64
  have h1 := lowNeg0 (l / 64) (by omega) (l % 64) (by omega) (by omega)
  rw [e] at h1
  rw [lowQ_spec h0 h]
  exact h1
def goodC (am : Nat → Int64) (mo : Nat → Int32) (k l f w : Nat) : Prop := ¬ w &&& f = 0 ∧ mns w l = 0 ∧ mo (l ^^^ w) = mo l - 1 ∧ sumB am w k = 0
def fstR (am : Nat → Int64) (mo : Nat → Int32) (k l f r : Nat) : Prop := (f ≤ r ∧ r < l ∧ goodC am mo k l f r ∧ ∀ w, f ≤ w → w < r → ¬ goodC am mo k l f w) ∨ (r = l ∧ ∀ w, f ≤ w → w < l → ¬ goodC am mo k l f w)
theorem geK {n i : Nat} (hn : n ≤ 4096) (hi : i < n) : ¬ nI n ≤ nI i := fun q => by rw [nI_leI (by omega) (by omega)] at q; omega
theorem xor_lt {a b : Nat} (ha : a < 4096) (hb : b < 4096) : a ^^^ b < 4096 := Nat.xor_lt_two_pow (n := 12) ha hb
set_option maxHeartbeats 4000000 in
set_option maxRecDepth 100000 in
theorem k_G_sumOfSet (l : Launch) (X : gX) (ad : Nat → Nat) (u : gW) (sz : Nat) (g k s : Nat) (q1 q3 : Value) (am : Nat → Int64) (hg : u g = some (.inr (3, [q1, .ref (ad (g + 2)), q3, .int (nI k)]))) (hg2 : u (g + 2) = some (.inl ((X.2 1), 12, .inr (.inl am)))) (hk : k ≤ 12) (hs : s < 2 ^ 12) : gMet l (EE X) y_G_sumOfSet c_G_sumOfSet 5 (some .long) ({ frames := 0, cells := 0, slots := 0, locals := 0 }) [.ref (ad g), .int (nI s)] ad u sz (fun v u' sz' => v = some (.long (sumB am s k)) ∧ u' = u ∧ sz' = sz) := by
  refine gMet_of "ExpenseClubs$Grouping" rfl (by decide) (Nat.le_of_ble_eq_true rfl) (lv := [(0, .ref (ad g)), (1, .int (nI s))]) rfl (fun Z hZl C hR hret hname => ?_)
  refine g_lconst (v := 0) C d_G_sumOfSet_0 (by decide) ?_
  refine g_lstore_n C d_G_sumOfSet_1 rfl [(2, .long 0), (0, .ref (ad g)), (1, .int (nI s))] (by decide) rfl ?_
  refine g_iconst (v := 0) C d_G_sumOfSet_2 (by decide) ?_
  refine g_istore C d_G_sumOfSet_3 [(4, .int 0), (2, .long 0), (0, .ref (ad g)), (1, .int (nI s))] (by decide) rfl ?_
  refine g_fewer (lv' := [(0, .ref (ad g)), (1, .int (nI s)), (2, .long 0), (4, .int 0)]) [2, 3, 1, 0] rfl ?_
  refine GW_eq (u2 := u) (lv2 := [(0, .ref (ad g)), (1, .int (nI s)), (2, .long (sumB am s 0)), (4, .int (nI 0))]) rfl rfl ?_
  refine g_loop k (fun iL11 => True) (fun iL11 => u) (fun iL11 => [(0, .ref (ad g)), (1, .int (nI s)), (2, .long (sumB am s iL11)), (4, .int (nI iL11))]) (fun iL11 hiL11 piL11 KL11 => ?_) (fun piL11 => ?_) 0 (by omega) trivial
  · skip
    show GW Z _ _ _ ad (u) _ [(0, .ref (ad g)), (1, .int (nI s)), (2, .long (sumB am s iL11)), (4, .int (nI iL11))] _ _ 5 []
    obtain ⟨wL11s, hwL11s⟩ : ∃ z, z = u := ⟨_, rfl⟩
    rw [← hwL11s]
    have hwL11s_0 : wL11s g = some (.inr (3, [q1, .ref (ad (g + 2)), q3, .int (nI k)])) := by rw [hwL11s]; exact hg
    have hwL11s_1 : wL11s (g + 2) = some (.inl ((X.2 1), 12, .inr (.inl am))) := by rw [hwL11s]; exact hg2
    refine g_iload C d_G_sumOfSet_5 3 rfl ?_
    refine g_aload_n C d_G_sumOfSet_7 rfl 0 rfl ?_
    refine g_get g 3 C hwL11s_0 rfl i_G (by decide) (gmem wd_70 rfl) rfl rfl d_G_sumOfSet_8 ?_
    refine g_icmp_ge 39 C d_G_sumOfSet_11 (by decide) (fun c11s11 => ?_) (fun c11s11 => ?_)
    · exact absurd c11s11 (geK (by omega) hiL11)
    refine g_iload_n C d_G_sumOfSet_14 rfl 1 rfl ?_
    refine g_iload C d_G_sumOfSet_15 3 rfl ?_
    refine g_ishr C d_G_sumOfSet_17 ?_
    refine g_iconst (v := 1) C d_G_sumOfSet_18 (by decide) ?_
    refine g_iand C d_G_sumOfSet_19 ?_
    refine g_if_eq 33 C d_G_sumOfSet_20 (by decide) (fun c11s20 => ?_) (fun c11s20 => ?_)
    · skip
      obtain ⟨x11s33, ex11s33⟩ : ∃ y : Int32, y = (nI iL11) + 1 := ⟨_, rfl⟩
      refine g_iinc (v := x11s33) C d_G_sumOfSet_33 3 rfl (by rw [ex11s33]; rfl) [(4, .int x11s33), (0, .ref (ad g)), (1, .int (nI s)), (2, .long (sumB am s iL11))] (by decide) rfl ?_
      refine g_goto 5 C d_G_sumOfSet_36 (by decide) ?_
      refine g_fewer (lv' := [(0, .ref (ad g)), (1, .int (nI s)), (2, .long (sumB am s iL11)), (4, .int x11s33)]) [1, 2, 3, 0] rfl ?_
      refine GW_eq (u2 := u) (lv2 := [(0, .ref (ad g)), (1, .int (nI s)), (2, .long (sumB am s (iL11 + 1))), (4, .int (nI (iL11 + 1)))]) ?_ ?_ (KL11 trivial)
      · first | (rw [hwL11s]; done) | (rw [hwL11s]; funext k; simp only [gup]; (repeat' split) <;> first | with_reducible rfl | (exfalso; omega))
      · simp only [ex11s33, nI_1]; rw [sumB, if_pos ((bit0 (by omega) (by omega)).mp c11s20)]
    · skip
      refine g_lload_n C d_G_sumOfSet_23 rfl 2 rfl ?_
      refine g_aload_n C d_G_sumOfSet_24 rfl 0 rfl ?_
      refine g_get g 1 C hwL11s_0 rfl i_G (by decide) (gmem wd_68 rfl) rfl rfl d_G_sumOfSet_25 ?_
      refine g_iload C d_G_sumOfSet_28 3 rfl ?_
      refine g_lald (g + 2) 1 C hwL11s_1 rfl (vp_in_nI (by omega) (by decide)) d_G_sumOfSet_30 ?_
      rw [show Int32.toNatClampNeg (nI iL11) = iL11 from nI_clamp (by omega)]
      refine g_ladd C d_G_sumOfSet_31 ?_
      refine g_topl (fun x11s32 ex11s32 => ?_)
      refine g_lstore_n C d_G_sumOfSet_32 rfl [(2, .long x11s32), (0, .ref (ad g)), (1, .int (nI s)), (4, .int (nI iL11))] (by decide) rfl ?_
      obtain ⟨x11s33, ex11s33⟩ : ∃ y : Int32, y = (nI iL11) + 1 := ⟨_, rfl⟩
      refine g_iinc (v := x11s33) C d_G_sumOfSet_33 3 rfl (by rw [ex11s33]; rfl) [(4, .int x11s33), (2, .long x11s32), (0, .ref (ad g)), (1, .int (nI s))] (by decide) rfl ?_
      refine g_goto 5 C d_G_sumOfSet_36 (by decide) ?_
      refine g_fewer (lv' := [(0, .ref (ad g)), (1, .int (nI s)), (2, .long x11s32), (4, .int x11s33)]) [2, 3, 1, 0] rfl ?_
      refine GW_eq (u2 := u) (lv2 := [(0, .ref (ad g)), (1, .int (nI s)), (2, .long (sumB am s (iL11 + 1))), (4, .int (nI (iL11 + 1)))]) ?_ ?_ (KL11 trivial)
      · first | (rw [hwL11s]; done) | (rw [hwL11s]; funext k; simp only [gup]; (repeat' split) <;> first | with_reducible rfl | (exfalso; omega))
      · simp only [ex11s32, ex11s33, nI_1]; rw [sumB, if_neg (mt (bit0 (by omega) (by omega)).mpr c11s20)]
  · skip
    show GW Z _ _ _ ad (u) _ [(0, .ref (ad g)), (1, .int (nI s)), (2, .long (sumB am s k)), (4, .int (nI k))] _ _ 5 []
    obtain ⟨wL11e, hwL11e⟩ : ∃ z, z = u := ⟨_, rfl⟩
    rw [← hwL11e]
    have hwL11e_0 : wL11e g = some (.inr (3, [q1, .ref (ad (g + 2)), q3, .int (nI k)])) := by rw [hwL11e]; exact hg
    have hwL11e_1 : wL11e (g + 2) = some (.inl ((X.2 1), 12, .inr (.inl am))) := by rw [hwL11e]; exact hg2
    refine g_iload C d_G_sumOfSet_5 3 rfl ?_
    refine g_aload_n C d_G_sumOfSet_7 rfl 0 rfl ?_
    refine g_get g 3 C hwL11e_0 rfl i_G (by decide) (gmem wd_70 rfl) rfl rfl d_G_sumOfSet_8 ?_
    refine g_icmp_ge 39 C d_G_sumOfSet_11 (by decide) (fun c11e11 => ?_) (fun c11e11 => ?_)
    rotate_left
    · exact absurd (Int32.le_refl _) c11e11
    refine g_lload_n C d_G_sumOfSet_39 rfl 2 rfl ?_
    exact g_lret C hR hret ⟨rfl, (by first | (rw [hwL11e]; done) | (rw [hwL11e]; funext k; simp only [gup]; (repeat' split) <;> first | with_reducible rfl | (exfalso; omega))), rfl⟩ d_G_sumOfSet_40

set_option maxHeartbeats 4000000 in
set_option maxRecDepth 100000 in
theorem k_G_gather (l : Launch) (X : gX) (ad : Nat → Nat) (u : gW) (sz : Nat) (g b : Nat) (sz0 : Int32) (mem : Nat → Int32) (am bal : Nat → Int64) (hg : u g = some (.inr (3, [.ref (ad (g + 1)), .ref (ad (g + 2)), .ref (ad (g + 3)), .int sz0]))) (hg1 : u (g + 1) = some (.inl ((X.2 0), 12, .inl mem))) (hg2 : u (g + 2) = some (.inl ((X.2 1), 12, .inr (.inl am)))) (hb : u b = some (.inl ((X.2 1), 12, .inr (.inl bal)))) (hgb : g + 16 ≤ b) : gMet l (EE X) y_G_gather c_G_gather 3 none ({ frames := 0, cells := 0, slots := 0, locals := 0 }) [.ref (ad g), .ref (ad b)] ad u sz (fun v u' sz' => v = none ∧ u' = gup (gup (gup u g (.inr (3, [.ref (ad (g + 1)), .ref (ad (g + 2)), .ref (ad (g + 3)), .int (nI (gaS bal mem am 12).1)]))) (g + 1) (.inl ((X.2 0), 12, .inl ((gaS bal mem am 12).2.1)))) (g + 2) (.inl ((X.2 1), 12, .inr (.inl ((gaS bal mem am 12).2.2)))) ∧ sz' = sz) := by
  refine gMet_of "ExpenseClubs$Grouping" rfl (by decide) (Nat.le_of_ble_eq_true rfl) (lv := [(0, .ref (ad g)), (1, .ref (ad b))]) rfl (fun Z hZl C hR hret hname => ?_)
  refine g_aload_n C d_G_gather_0 rfl 0 rfl ?_
  refine g_iconst (v := 0) C d_G_gather_1 (by decide) ?_
  refine g_put g 3 C hg rfl i_G t_G t_G_ok n_G (by decide) (gmem wd_70 rfl) rfl rfl rfl rfl (Nat.le_of_ble_eq_true rfl) d_G_gather_2 ?_
  show GW Z _ _ _ ad (gup u g (.inr (3, [.ref (ad (g + 1)), .ref (ad (g + 2)), .ref (ad (g + 3)), .int 0]))) _ _ _ _ _ _
  obtain ⟨u1, hu1⟩ : ∃ z, z = gup u g (.inr (3, [.ref (ad (g + 1)), .ref (ad (g + 2)), .ref (ad (g + 3)), .int 0])) := ⟨_, rfl⟩
  rw [← hu1]
  have hu1_0 : u1 g = some (.inr (3, [.ref (ad (g + 1)), .ref (ad (g + 2)), .ref (ad (g + 3)), .int 0])) := by rw [hu1]; exact gup_self _ _ _
  have hu1_1 : u1 (g + 1) = some (.inl ((X.2 0), 12, .inl mem)) := by rw [hu1, gup_ne (by omega)]; exact hg1
  have hu1_2 : u1 (g + 2) = some (.inl ((X.2 1), 12, .inr (.inl am))) := by rw [hu1, gup_ne (by omega)]; exact hg2
  have hu1_3 : u1 b = some (.inl ((X.2 1), 12, .inr (.inl bal))) := by rw [hu1, gup_ne (by omega)]; exact hb
  refine g_iconst (v := 0) C d_G_gather_5 (by decide) ?_
  refine g_istore_n C d_G_gather_6 rfl [(2, .int 0), (0, .ref (ad g)), (1, .ref (ad b))] (by decide) rfl ?_
  refine g_fewer (lv' := [(0, .ref (ad g)), (1, .ref (ad b)), (2, .int 0)]) [1, 2, 0] rfl ?_
  refine GW_eq (u2 := gup (gup (gup u1 g (.inr (3, [.ref (ad (g + 1)), .ref (ad (g + 2)), .ref (ad (g + 3)), .int (nI (gaS bal mem am 0).1)]))) (g + 1) (.inl ((X.2 0), 12, .inl ((gaS bal mem am 0).2.1)))) (g + 2) (.inl ((X.2 1), 12, .inr (.inl ((gaS bal mem am 0).2.2))))) (lv2 := [(0, .ref (ad g)), (1, .ref (ad b)), (2, .int (nI 0))]) (by show u1 = gup (gup (gup u1 g (.inr (3, [.ref (ad (g + 1)), .ref (ad (g + 2)), .ref (ad (g + 3)), .int (nI (gaS bal mem am 0).1)]))) (g + 1) (.inl ((X.2 0), 12, .inl ((gaS bal mem am 0).2.1)))) (g + 2) (.inl ((X.2 1), 12, .inr (.inl ((gaS bal mem am 0).2.2)))); rw [gup_id (show u1 g = some (.inr (3, [.ref (ad (g + 1)), .ref (ad (g + 2)), .ref (ad (g + 3)), .int (nI (gaS bal mem am 0).1)])) from hu1_0), gup_id (show u1 (g + 1) = some (.inl ((X.2 0), 12, .inl ((gaS bal mem am 0).2.1))) from hu1_1), gup_id (show u1 (g + 2) = some (.inl ((X.2 1), 12, .inr (.inl ((gaS bal mem am 0).2.2)))) from hu1_2)]) rfl ?_
  refine g_loop 12 (fun iL12 => True) (fun iL12 => gup (gup (gup u1 g (.inr (3, [.ref (ad (g + 1)), .ref (ad (g + 2)), .ref (ad (g + 3)), .int (nI (gaS bal mem am iL12).1)]))) (g + 1) (.inl ((X.2 0), 12, .inl ((gaS bal mem am iL12).2.1)))) (g + 2) (.inl ((X.2 1), 12, .inr (.inl ((gaS bal mem am iL12).2.2))))) (fun iL12 => [(0, .ref (ad g)), (1, .ref (ad b)), (2, .int (nI iL12))]) (fun iL12 hiL12 piL12 KL12 => ?_) (fun piL12 => ?_) 0 (by omega) trivial
  · skip
    show GW Z _ _ _ ad (gup (gup (gup u1 g (.inr (3, [.ref (ad (g + 1)), .ref (ad (g + 2)), .ref (ad (g + 3)), .int (nI (gaS bal mem am iL12).1)]))) (g + 1) (.inl ((X.2 0), 12, .inl ((gaS bal mem am iL12).2.1)))) (g + 2) (.inl ((X.2 1), 12, .inr (.inl ((gaS bal mem am iL12).2.2))))) _ [(0, .ref (ad g)), (1, .ref (ad b)), (2, .int (nI iL12))] _ _ 7 []
    obtain ⟨wL12s, hwL12s⟩ : ∃ z, z = gup (gup (gup u1 g (.inr (3, [.ref (ad (g + 1)), .ref (ad (g + 2)), .ref (ad (g + 3)), .int (nI (gaS bal mem am iL12).1)]))) (g + 1) (.inl ((X.2 0), 12, .inl ((gaS bal mem am iL12).2.1)))) (g + 2) (.inl ((X.2 1), 12, .inr (.inl ((gaS bal mem am iL12).2.2)))) := ⟨_, rfl⟩
    rw [← hwL12s]
    have hwL12s_0 : wL12s g = some (.inr (3, [.ref (ad (g + 1)), .ref (ad (g + 2)), .ref (ad (g + 3)), .int (nI (gaS bal mem am iL12).1)])) := by rw [hwL12s, gup_ne (by omega), gup_ne (by omega), gup_self]
    have hwL12s_1 : wL12s (g + 1) = some (.inl ((X.2 0), 12, .inl ((gaS bal mem am iL12).2.1))) := by rw [hwL12s, gup_ne (by omega), gup_self]
    have hwL12s_2 : wL12s (g + 2) = some (.inl ((X.2 1), 12, .inr (.inl ((gaS bal mem am iL12).2.2)))) := by rw [hwL12s, gup_self]
    have hwL12s_3 : wL12s b = some (.inl ((X.2 1), 12, .inr (.inl bal))) := by rw [hwL12s, gup_ne (by omega), gup_ne (by omega), gup_ne (by omega)]; exact hu1_3
    refine g_iload_n C d_G_gather_7 rfl 2 rfl ?_
    refine g_bipush (v := 12) C d_G_gather_8 (by decide) ?_
    refine g_icmp_ge 59 C d_G_gather_10 (by decide) (fun c12s10 => ?_) (fun c12s10 => ?_)
    · exact absurd c12s10 (ge12 hiL12)
    refine g_aload_n C d_G_gather_13 rfl 1 rfl ?_
    refine g_iload_n C d_G_gather_14 rfl 2 rfl ?_
    refine g_lald b 1 C hwL12s_3 rfl (vp_in_nI (by omega) (by decide)) d_G_gather_15 ?_
    rw [show Int32.toNatClampNeg (nI iL12) = iL12 from nI_clamp (by omega)]
    refine g_lconst (v := 0) C d_G_gather_16 (by decide) ?_
    refine g_lcmp C d_G_gather_17 ?_
    refine g_if_eq 53 C d_G_gather_18 (by decide) (fun c12s18 => ?_) (fun c12s18 => ?_)
    · rw [lg_cmp_eq] at c12s18
      obtain ⟨x12s53, ex12s53⟩ : ∃ y : Int32, y = (nI iL12) + 1 := ⟨_, rfl⟩
      refine g_iinc (v := x12s53) C d_G_gather_53 2 rfl (by rw [ex12s53]; rfl) [(2, .int x12s53), (0, .ref (ad g)), (1, .ref (ad b))] (by decide) rfl ?_
      refine g_goto 7 C d_G_gather_56 (by decide) ?_
      refine g_fewer (lv' := [(0, .ref (ad g)), (1, .ref (ad b)), (2, .int x12s53)]) [1, 2, 0] rfl ?_
      refine GW_eq (u2 := gup (gup (gup u1 g (.inr (3, [.ref (ad (g + 1)), .ref (ad (g + 2)), .ref (ad (g + 3)), .int (nI (gaS bal mem am (iL12 + 1)).1)]))) (g + 1) (.inl ((X.2 0), 12, .inl ((gaS bal mem am (iL12 + 1)).2.1)))) (g + 2) (.inl ((X.2 1), 12, .inr (.inl ((gaS bal mem am (iL12 + 1)).2.2))))) (lv2 := [(0, .ref (ad g)), (1, .ref (ad b)), (2, .int (nI (iL12 + 1)))]) ?_ ?_ (KL12 trivial)
      · first | (rw [hwL12s]; done) | (rw [hwL12s]; rw [gaS_t c12s18]; done) | (rw [hwL12s]; rw [gaS_t c12s18]; funext k; simp only [gup]; (repeat' split) <;> first | with_reducible rfl | (exfalso; omega))
      · first | rfl | simp only [ex12s53, nI_1, nI_0]
    · rw [lg_cmp_eq] at c12s18
      refine g_aload_n C d_G_gather_21 rfl 0 rfl ?_
      refine g_get g 0 C hwL12s_0 rfl i_G (by decide) (gmem wd_67 rfl) rfl rfl d_G_gather_22 ?_
      refine g_aload_n C d_G_gather_25 rfl 0 rfl ?_
      refine g_get g 3 C hwL12s_0 rfl i_G (by decide) (gmem wd_70 rfl) rfl rfl d_G_gather_26 ?_
      refine g_iload_n C d_G_gather_29 rfl 2 rfl ?_
      refine g_iast (g + 1) 0 C hwL12s_1 rfl (vp_in_nI (Nat.lt_of_le_of_lt (gaS_le bal mem am iL12) hiL12) (by decide)) d_G_gather_30 ?_
      rw [show Int32.toNatClampNeg (nI (gaS bal mem am iL12).1) = (gaS bal mem am iL12).1 from nI_clamp (Nat.lt_of_le_of_lt (gaS_le bal mem am iL12) (by omega))]
      obtain ⟨u12s2, hu12s2⟩ : ∃ z, z = gup wL12s (g + 1) (.inl ((X.2 0), 12, .inl (upd ((gaS bal mem am iL12).2.1) ((gaS bal mem am iL12).1) (nI iL12)))) := ⟨_, rfl⟩
      rw [← hu12s2]
      have hu12s2_0 : u12s2 g = some (.inr (3, [.ref (ad (g + 1)), .ref (ad (g + 2)), .ref (ad (g + 3)), .int (nI (gaS bal mem am iL12).1)])) := by rw [hu12s2, gup_ne (by omega)]; exact hwL12s_0
      have hu12s2_1 : u12s2 (g + 1) = some (.inl ((X.2 0), 12, .inl (upd ((gaS bal mem am iL12).2.1) ((gaS bal mem am iL12).1) (nI iL12)))) := by rw [hu12s2]; exact gup_self _ _ _
      have hu12s2_2 : u12s2 (g + 2) = some (.inl ((X.2 1), 12, .inr (.inl ((gaS bal mem am iL12).2.2)))) := by rw [hu12s2, gup_ne (by omega)]; exact hwL12s_2
      have hu12s2_3 : u12s2 b = some (.inl ((X.2 1), 12, .inr (.inl bal))) := by rw [hu12s2, gup_ne (by omega)]; exact hwL12s_3
      refine g_aload_n C d_G_gather_31 rfl 0 rfl ?_
      refine g_get g 1 C hu12s2_0 rfl i_G (by decide) (gmem wd_68 rfl) rfl rfl d_G_gather_32 ?_
      refine g_aload_n C d_G_gather_35 rfl 0 rfl ?_
      refine g_get g 3 C hu12s2_0 rfl i_G (by decide) (gmem wd_70 rfl) rfl rfl d_G_gather_36 ?_
      refine g_aload_n C d_G_gather_39 rfl 1 rfl ?_
      refine g_iload_n C d_G_gather_40 rfl 2 rfl ?_
      refine g_lald b 1 C hu12s2_3 rfl (vp_in_nI (by omega) (by decide)) d_G_gather_41 ?_
      rw [show Int32.toNatClampNeg (nI iL12) = iL12 from nI_clamp (by omega)]
      refine g_topl (fun x12s42 ex12s42 => ?_)
      refine g_last (g + 2) 1 C hu12s2_2 rfl (vp_in_nI (Nat.lt_of_le_of_lt (gaS_le bal mem am iL12) hiL12) (by decide)) d_G_gather_42 ?_
      rw [show Int32.toNatClampNeg (nI (gaS bal mem am iL12).1) = (gaS bal mem am iL12).1 from nI_clamp (Nat.lt_of_le_of_lt (gaS_le bal mem am iL12) (by omega))]
      obtain ⟨u12s3, hu12s3⟩ : ∃ z, z = gup u12s2 (g + 2) (.inl ((X.2 1), 12, .inr (.inl (vp_updL ((gaS bal mem am iL12).2.2) ((gaS bal mem am iL12).1) x12s42)))) := ⟨_, rfl⟩
      rw [← hu12s3]
      have hu12s3_0 : u12s3 g = some (.inr (3, [.ref (ad (g + 1)), .ref (ad (g + 2)), .ref (ad (g + 3)), .int (nI (gaS bal mem am iL12).1)])) := by rw [hu12s3, gup_ne (by omega)]; exact hu12s2_0
      have hu12s3_1 : u12s3 (g + 1) = some (.inl ((X.2 0), 12, .inl (upd ((gaS bal mem am iL12).2.1) ((gaS bal mem am iL12).1) (nI iL12)))) := by rw [hu12s3, gup_ne (by omega)]; exact hu12s2_1
      have hu12s3_2 : u12s3 (g + 2) = some (.inl ((X.2 1), 12, .inr (.inl (vp_updL ((gaS bal mem am iL12).2.2) ((gaS bal mem am iL12).1) x12s42)))) := by rw [hu12s3]; exact gup_self _ _ _
      have hu12s3_3 : u12s3 b = some (.inl ((X.2 1), 12, .inr (.inl bal))) := by rw [hu12s3, gup_ne (by omega)]; exact hu12s2_3
      refine g_aload_n C d_G_gather_43 rfl 0 rfl ?_
      refine g_dup C d_G_gather_44 rfl ?_
      refine g_get g 3 C hu12s3_0 rfl i_G (by decide) (gmem wd_70 rfl) rfl rfl d_G_gather_45 ?_
      refine g_iconst (v := 1) C d_G_gather_48 (by decide) ?_
      refine g_iadd C d_G_gather_49 ?_
      refine g_topi (fun x12s50 ex12s50 => ?_)
      refine g_put g 3 C hu12s3_0 rfl i_G t_G t_G_ok n_G (by decide) (gmem wd_70 rfl) rfl rfl rfl rfl (Nat.le_of_ble_eq_true rfl) d_G_gather_50 ?_
      show GW Z _ _ _ ad (gup u12s3 g (.inr (3, [.ref (ad (g + 1)), .ref (ad (g + 2)), .ref (ad (g + 3)), .int x12s50]))) _ _ _ _ _ _
      obtain ⟨u12s4, hu12s4⟩ : ∃ z, z = gup u12s3 g (.inr (3, [.ref (ad (g + 1)), .ref (ad (g + 2)), .ref (ad (g + 3)), .int x12s50])) := ⟨_, rfl⟩
      rw [← hu12s4]
      have hu12s4_0 : u12s4 g = some (.inr (3, [.ref (ad (g + 1)), .ref (ad (g + 2)), .ref (ad (g + 3)), .int x12s50])) := by rw [hu12s4]; exact gup_self _ _ _
      have hu12s4_1 : u12s4 (g + 1) = some (.inl ((X.2 0), 12, .inl (upd ((gaS bal mem am iL12).2.1) ((gaS bal mem am iL12).1) (nI iL12)))) := by rw [hu12s4, gup_ne (by omega)]; exact hu12s3_1
      have hu12s4_2 : u12s4 (g + 2) = some (.inl ((X.2 1), 12, .inr (.inl (vp_updL ((gaS bal mem am iL12).2.2) ((gaS bal mem am iL12).1) x12s42)))) := by rw [hu12s4, gup_ne (by omega)]; exact hu12s3_2
      have hu12s4_3 : u12s4 b = some (.inl ((X.2 1), 12, .inr (.inl bal))) := by rw [hu12s4, gup_ne (by omega)]; exact hu12s3_3
      obtain ⟨x12s53, ex12s53⟩ : ∃ y : Int32, y = (nI iL12) + 1 := ⟨_, rfl⟩
      refine g_iinc (v := x12s53) C d_G_gather_53 2 rfl (by rw [ex12s53]; rfl) [(2, .int x12s53), (0, .ref (ad g)), (1, .ref (ad b))] (by decide) rfl ?_
      refine g_goto 7 C d_G_gather_56 (by decide) ?_
      refine g_fewer (lv' := [(0, .ref (ad g)), (1, .ref (ad b)), (2, .int x12s53)]) [1, 2, 0] rfl ?_
      refine GW_eq (u2 := gup (gup (gup u1 g (.inr (3, [.ref (ad (g + 1)), .ref (ad (g + 2)), .ref (ad (g + 3)), .int (nI (gaS bal mem am (iL12 + 1)).1)]))) (g + 1) (.inl ((X.2 0), 12, .inl ((gaS bal mem am (iL12 + 1)).2.1)))) (g + 2) (.inl ((X.2 1), 12, .inr (.inl ((gaS bal mem am (iL12 + 1)).2.2))))) (lv2 := [(0, .ref (ad g)), (1, .ref (ad b)), (2, .int (nI (iL12 + 1)))]) ?_ ?_ (KL12 trivial)
      · first | (rw [hu12s4, hu12s3, hu12s2, hwL12s]; done) | (rw [hu12s4, hu12s3, hu12s2, hwL12s]; rw [gaS_f c12s18]; done) | (rw [hu12s4, hu12s3, hu12s2, hwL12s]; rw [gaS_f c12s18]; simp only [ex12s42, ex12s50, ex12s53, nI_1]; done) | (rw [hu12s4, hu12s3, hu12s2, hwL12s]; rw [gaS_f c12s18]; simp only [ex12s42, ex12s50, ex12s53, nI_1]; funext k; simp only [gup]; (repeat' split) <;> first | with_reducible rfl | (exfalso; omega))
      · first | rfl | simp only [ex12s42, ex12s50, ex12s53, nI_1, nI_0]
  · skip
    show GW Z _ _ _ ad (gup (gup (gup u1 g (.inr (3, [.ref (ad (g + 1)), .ref (ad (g + 2)), .ref (ad (g + 3)), .int (nI (gaS bal mem am 12).1)]))) (g + 1) (.inl ((X.2 0), 12, .inl ((gaS bal mem am 12).2.1)))) (g + 2) (.inl ((X.2 1), 12, .inr (.inl ((gaS bal mem am 12).2.2))))) _ [(0, .ref (ad g)), (1, .ref (ad b)), (2, .int (nI 12))] _ _ 7 []
    obtain ⟨wL12e, hwL12e⟩ : ∃ z, z = gup (gup (gup u1 g (.inr (3, [.ref (ad (g + 1)), .ref (ad (g + 2)), .ref (ad (g + 3)), .int (nI (gaS bal mem am 12).1)]))) (g + 1) (.inl ((X.2 0), 12, .inl ((gaS bal mem am 12).2.1)))) (g + 2) (.inl ((X.2 1), 12, .inr (.inl ((gaS bal mem am 12).2.2)))) := ⟨_, rfl⟩
    rw [← hwL12e]
    have hwL12e_0 : wL12e g = some (.inr (3, [.ref (ad (g + 1)), .ref (ad (g + 2)), .ref (ad (g + 3)), .int (nI (gaS bal mem am 12).1)])) := by rw [hwL12e, gup_ne (by omega), gup_ne (by omega), gup_self]
    have hwL12e_1 : wL12e (g + 1) = some (.inl ((X.2 0), 12, .inl ((gaS bal mem am 12).2.1))) := by rw [hwL12e, gup_ne (by omega), gup_self]
    have hwL12e_2 : wL12e (g + 2) = some (.inl ((X.2 1), 12, .inr (.inl ((gaS bal mem am 12).2.2)))) := by rw [hwL12e, gup_self]
    have hwL12e_3 : wL12e b = some (.inl ((X.2 1), 12, .inr (.inl bal))) := by rw [hwL12e, gup_ne (by omega), gup_ne (by omega), gup_ne (by omega)]; exact hu1_3
    refine g_iload_n C d_G_gather_7 rfl 2 rfl ?_
    refine g_bipush (v := 12) C d_G_gather_8 (by decide) ?_
    refine g_icmp_ge 59 C d_G_gather_10 (by decide) (fun c12e10 => ?_) (fun c12e10 => ?_)
    rotate_left
    · exact absurd (by decide) c12e10
    exact g_vret C hR hret ⟨rfl, (by first | (rw [hwL12e, hu1]; done) | (rw [hwL12e, hu1]; funext k; simp only [gup]; (repeat' split) <;> first | with_reducible rfl | (exfalso; omega))), rfl⟩ d_G_gather_59

set_option maxHeartbeats 4000000 in
set_option maxRecDepth 100000 in
theorem k_G_firstGroup (l : Launch) (X : gX) (ad : Nat → Nat) (u : gW) (sz : Nat) (g k lf : Nat) (am : Nat → Int64) (mo : Nat → Int32) (hg : u g = some (.inr (3, [.ref (ad (g + 1)), .ref (ad (g + 2)), .ref (ad (g + 3)), .int (nI k)]))) (hg2 : u (g + 2) = some (.inl ((X.2 1), 12, .inr (.inl am)))) (hg3 : u (g + 3) = some (.inl ((X.2 0), 4096, .inl mo))) (hk : k ≤ 12) (hl : lf < 2 ^ 12) (h0 : lf ≠ 0) : gMet l (EE X) y_G_firstGroup c_G_firstGroup 4 (some .int) ({ frames := 1, cells := 0, slots := 0, locals := 24 }) [.ref (ad g), .int (nI lf)] ad u sz (fun v u' sz' => ∃ r : Nat, v = some (.int (nI r)) ∧ fstR am mo k lf (2 ^ lowI lf) r ∧ u' = u ∧ sz' = sz) := by
  refine gMet_of "ExpenseClubs$Grouping" rfl (by decide) (Nat.le_of_ble_eq_true rfl) (lv := [(0, .ref (ad g)), (1, .int (nI lf))]) rfl (fun Z hZl C hR hret hname => ?_)
  refine g_iload_n C d_G_firstGroup_0 rfl 1 rfl ?_
  refine g_iload_n C d_G_firstGroup_1 rfl 1 rfl ?_
  refine g_ineg C d_G_firstGroup_2 ?_
  refine g_iand C d_G_firstGroup_3 ?_
  rw [lowNeg hl h0]
  have hF : (2 ^ lowI lf) ≤ lf := pow_le_of_bit (lowI_bit h0 hl)
  refine g_istore_n C d_G_firstGroup_4 rfl [(2, .int (nI (2 ^ lowI lf))), (0, .ref (ad g)), (1, .int (nI lf))] (by decide) rfl ?_
  refine g_iload_n C d_G_firstGroup_5 rfl 0 rfl ?_
  refine g_istore_n C d_G_firstGroup_6 rfl [(3, .int (nI (2 ^ lowI lf))), (2, .int (nI (2 ^ lowI lf))), (0, .ref (ad g)), (1, .int (nI lf))] (by decide) rfl ?_
  refine g_fewer (lv' := [(0, .ref (ad g)), (1, .int (nI lf)), (2, .int (nI (2 ^ lowI lf))), (3, .int (nI (2 ^ lowI lf)))]) [2, 3, 1, 0] rfl ?_
  refine GW_eq (u2 := u) (lv2 := [(0, .ref (ad g)), (1, .int (nI lf)), (2, .int (nI (2 ^ lowI lf))), (3, .int (nI ((2 ^ lowI lf) + 0)))]) rfl rfl ?_
  refine g_loop (lf - (2 ^ lowI lf)) (fun iL13 => ∀ j, j < iL13 → ¬ goodC am mo k lf (2 ^ lowI lf) ((2 ^ lowI lf) + j)) (fun iL13 => u) (fun iL13 => [(0, .ref (ad g)), (1, .int (nI lf)), (2, .int (nI (2 ^ lowI lf))), (3, .int (nI ((2 ^ lowI lf) + iL13)))]) (fun iL13 hiL13 piL13 KL13 => ?_) (fun piL13 => ?_) 0 (by omega) lt_0
  · skip
    show GW Z _ _ _ ad (u) _ [(0, .ref (ad g)), (1, .int (nI lf)), (2, .int (nI (2 ^ lowI lf))), (3, .int (nI ((2 ^ lowI lf) + iL13)))] _ _ 7 []
    obtain ⟨wL13s, hwL13s⟩ : ∃ z, z = u := ⟨_, rfl⟩
    rw [← hwL13s]
    have hwL13s_0 : wL13s g = some (.inr (3, [.ref (ad (g + 1)), .ref (ad (g + 2)), .ref (ad (g + 3)), .int (nI k)])) := by rw [hwL13s]; exact hg
    have hwL13s_1 : wL13s (g + 2) = some (.inl ((X.2 1), 12, .inr (.inl am))) := by rw [hwL13s]; exact hg2
    have hwL13s_2 : wL13s (g + 3) = some (.inl ((X.2 0), 4096, .inl mo)) := by rw [hwL13s]; exact hg3
    refine g_iload_n C d_G_firstGroup_7 rfl 3 rfl ?_
    refine g_iload_n C d_G_firstGroup_8 rfl 1 rfl ?_
    refine g_icmp_ge 63 C d_G_firstGroup_9 (by decide) (fun c13s9 => ?_) (fun c13s9 => ?_)
    · exact absurd c13s9 (by rw [nI_leI (by omega) (by omega)]; omega)
    refine g_iload_n C d_G_firstGroup_12 rfl 3 rfl ?_
    refine g_iload_n C d_G_firstGroup_13 rfl 2 rfl ?_
    refine g_iand C d_G_firstGroup_14 ?_
    rw [nI_and]
    refine g_if_eq 57 C d_G_firstGroup_15 (by decide) (fun c13s15 => ?_) (fun c13s15 => ?_)
    · skip
      obtain ⟨x13s57, ex13s57⟩ : ∃ y : Int32, y = (nI ((2 ^ lowI lf) + iL13)) + 1 := ⟨_, rfl⟩
      refine g_iinc (v := x13s57) C d_G_firstGroup_57 3 rfl (by rw [ex13s57]; rfl) [(3, .int x13s57), (0, .ref (ad g)), (1, .int (nI lf)), (2, .int (nI (2 ^ lowI lf)))] (by decide) rfl ?_
      refine g_goto 7 C d_G_firstGroup_60 (by decide) ?_
      refine g_fewer (lv' := [(0, .ref (ad g)), (1, .int (nI lf)), (2, .int (nI (2 ^ lowI lf))), (3, .int x13s57)]) [1, 2, 3, 0] rfl ?_
      refine GW_eq (u2 := u) (lv2 := [(0, .ref (ad g)), (1, .int (nI lf)), (2, .int (nI (2 ^ lowI lf))), (3, .int (nI ((2 ^ lowI lf) + (iL13 + 1))))]) ?_ ?_ (KL13 (lt_s piL13 (fun h9 => h9.1 ((nI_z (Nat.lt_trans (and_lt2 (n := 12) (by omega)) (by decide))).mp c13s15))))
      · first | (rw [hwL13s]; done) | (rw [hwL13s]; funext k; simp only [gup]; (repeat' split) <;> first | with_reducible rfl | (exfalso; omega))
      · simp only [ex13s57, nI_1, Nat.add_assoc]
    · skip
      refine g_iload_n C d_G_firstGroup_18 rfl 3 rfl ?_
      refine g_iload_n C d_G_firstGroup_19 rfl 1 rfl ?_
      refine g_iconst (v := (-1)) C d_G_firstGroup_20 (by decide) ?_
      refine g_ixor C d_G_firstGroup_21 ?_
      refine g_iand C d_G_firstGroup_22 ?_
      rw [nI_mns]
      refine g_if_ne 57 C d_G_firstGroup_23 (by decide) (fun c13s23 => ?_) (fun c13s23 => ?_)
      · skip
        obtain ⟨x13s57, ex13s57⟩ : ∃ y : Int32, y = (nI ((2 ^ lowI lf) + iL13)) + 1 := ⟨_, rfl⟩
        refine g_iinc (v := x13s57) C d_G_firstGroup_57 3 rfl (by rw [ex13s57]; rfl) [(3, .int x13s57), (0, .ref (ad g)), (1, .int (nI lf)), (2, .int (nI (2 ^ lowI lf)))] (by decide) rfl ?_
        refine g_goto 7 C d_G_firstGroup_60 (by decide) ?_
        refine g_fewer (lv' := [(0, .ref (ad g)), (1, .int (nI lf)), (2, .int (nI (2 ^ lowI lf))), (3, .int x13s57)]) [1, 2, 3, 0] rfl ?_
        refine GW_eq (u2 := u) (lv2 := [(0, .ref (ad g)), (1, .int (nI lf)), (2, .int (nI (2 ^ lowI lf))), (3, .int (nI ((2 ^ lowI lf) + (iL13 + 1))))]) ?_ ?_ (KL13 (lt_s piL13 (fun h9 => c13s23 ((nI_z (Nat.lt_trans (mns_lt (n := 12) (by omega)) (by decide))).mpr h9.2.1))))
        · first | (rw [hwL13s]; done) | (rw [hwL13s]; funext k; simp only [gup]; (repeat' split) <;> first | with_reducible rfl | (exfalso; omega))
        · simp only [ex13s57, nI_1, Nat.add_assoc]
      · skip
        refine g_aload_n C d_G_firstGroup_26 rfl 0 rfl ?_
        refine g_get g 2 C hwL13s_0 rfl i_G (by decide) (gmem wd_69 rfl) rfl rfl d_G_firstGroup_27 ?_
        refine g_iload_n C d_G_firstGroup_30 rfl 1 rfl ?_
        refine g_iload_n C d_G_firstGroup_31 rfl 3 rfl ?_
        refine g_ixor C d_G_firstGroup_32 ?_
        rw [nI_xor]
        refine g_iald (g + 3) 0 C hwL13s_2 rfl (vp_in_nI (xor_lt (show lf < 4096 from hl) (show (2 ^ lowI lf) + iL13 < 4096 by omega)) (by decide)) d_G_firstGroup_33 ?_
        rw [show Int32.toNatClampNeg (nI (lf ^^^ ((2 ^ lowI lf) + iL13))) = (lf ^^^ ((2 ^ lowI lf) + iL13)) from nI_clamp (Nat.lt_trans (xor_lt (show lf < 4096 from hl) (show (2 ^ lowI lf) + iL13 < 4096 by omega)) (by decide))]
        refine g_aload_n C d_G_firstGroup_34 rfl 0 rfl ?_
        refine g_get g 2 C hwL13s_0 rfl i_G (by decide) (gmem wd_69 rfl) rfl rfl d_G_firstGroup_35 ?_
        refine g_iload_n C d_G_firstGroup_38 rfl 1 rfl ?_
        refine g_iald (g + 3) 0 C hwL13s_2 rfl (vp_in_nI hl (by decide)) d_G_firstGroup_39 ?_
        rw [show Int32.toNatClampNeg (nI lf) = lf from nI_clamp (by omega)]
        refine g_iconst (v := 1) C d_G_firstGroup_40 (by decide) ?_
        refine g_isub C d_G_firstGroup_41 ?_
        refine g_icmp_ne 57 C d_G_firstGroup_42 (by decide) (fun c13s42 => ?_) (fun c13s42 => ?_)
        · skip
          obtain ⟨x13s57, ex13s57⟩ : ∃ y : Int32, y = (nI ((2 ^ lowI lf) + iL13)) + 1 := ⟨_, rfl⟩
          refine g_iinc (v := x13s57) C d_G_firstGroup_57 3 rfl (by rw [ex13s57]; rfl) [(3, .int x13s57), (0, .ref (ad g)), (1, .int (nI lf)), (2, .int (nI (2 ^ lowI lf)))] (by decide) rfl ?_
          refine g_goto 7 C d_G_firstGroup_60 (by decide) ?_
          refine g_fewer (lv' := [(0, .ref (ad g)), (1, .int (nI lf)), (2, .int (nI (2 ^ lowI lf))), (3, .int x13s57)]) [1, 2, 3, 0] rfl ?_
          refine GW_eq (u2 := u) (lv2 := [(0, .ref (ad g)), (1, .int (nI lf)), (2, .int (nI (2 ^ lowI lf))), (3, .int (nI ((2 ^ lowI lf) + (iL13 + 1))))]) ?_ ?_ (KL13 (lt_s piL13 (fun h9 => c13s42 h9.2.2.1)))
          · first | (rw [hwL13s]; done) | (rw [hwL13s]; funext k; simp only [gup]; (repeat' split) <;> first | with_reducible rfl | (exfalso; omega))
          · simp only [ex13s57, nI_1, Nat.add_assoc]
        · skip
          refine g_aload_n C d_G_firstGroup_45 rfl 0 rfl ?_
          refine g_iload_n C d_G_firstGroup_46 rfl 3 rfl ?_
          refine g_callV 1 C (k_G_sumOfSet _ X ad wL13s sz g k ((2 ^ lowI lf) + iL13) _ _ am hwL13s_0 hwL13s_1 hk (by omega)) (gmem wd_380 rfl) (gmem wd_382 rfl) (gmem ws_7 rfl) (gmem wd_3 rfl) (gmem wd_383 rfl) ⟨by decide, by decide, by decide +kernel⟩ ⟨Nat.le_of_ble_eq_true rfl, Nat.le_of_ble_eq_true rfl⟩ hwL13s_0 rfl rfl rfl (Nat.le_of_ble_eq_true rfl) d_G_firstGroup_47 ⟨Nat.le_of_ble_eq_true rfl, Nat.le_of_ble_eq_true rfl⟩ ?_
          rintro v9 u9 s9 ⟨h9, hu9, hs9⟩; rw [h9, hu9, hs9]; clear h9 hu9 hs9 v9 u9 s9
          show GW Z _ _ _ ad wL13s sz [(0, .ref (ad g)), (1, .int (nI lf)), (2, .int (nI (2 ^ lowI lf))), (3, .int (nI ((2 ^ lowI lf) + iL13)))] 0 0 50 [.long (sumB am ((2 ^ lowI lf) + iL13) k)]
          refine g_lconst (v := 0) C d_G_firstGroup_50 (by decide) ?_
          refine g_lcmp C d_G_firstGroup_51 ?_
          refine g_if_ne 57 C d_G_firstGroup_52 (by decide) (fun c13s52 => ?_) (fun c13s52 => ?_)
          · rw [lg_cmp_eq] at c13s52
            obtain ⟨x13s57, ex13s57⟩ : ∃ y : Int32, y = (nI ((2 ^ lowI lf) + iL13)) + 1 := ⟨_, rfl⟩
            refine g_iinc (v := x13s57) C d_G_firstGroup_57 3 rfl (by rw [ex13s57]; rfl) [(3, .int x13s57), (0, .ref (ad g)), (1, .int (nI lf)), (2, .int (nI (2 ^ lowI lf)))] (by decide) rfl ?_
            refine g_goto 7 C d_G_firstGroup_60 (by decide) ?_
            refine g_fewer (lv' := [(0, .ref (ad g)), (1, .int (nI lf)), (2, .int (nI (2 ^ lowI lf))), (3, .int x13s57)]) [1, 2, 3, 0] rfl ?_
            refine GW_eq (u2 := u) (lv2 := [(0, .ref (ad g)), (1, .int (nI lf)), (2, .int (nI (2 ^ lowI lf))), (3, .int (nI ((2 ^ lowI lf) + (iL13 + 1))))]) ?_ ?_ (KL13 (lt_s piL13 (fun h9 => c13s52 h9.2.2.2)))
            · first | (rw [hwL13s]; done) | (rw [hwL13s]; funext k; simp only [gup]; (repeat' split) <;> first | with_reducible rfl | (exfalso; omega))
            · simp only [ex13s57, nI_1, Nat.add_assoc]
          · rw [lg_cmp_eq] at c13s52
            refine g_iload_n C d_G_firstGroup_55 rfl 3 rfl ?_
            exact g_iret C hR hret ⟨(2 ^ lowI lf) + iL13, rfl, Or.inl ⟨by omega, by omega, ⟨fun h9 => c13s15 ((nI_z (Nat.lt_trans (and_lt2 (n := 12) (by omega)) (by decide))).mpr h9), (nI_z (Nat.lt_trans (mns_lt (n := 12) (by omega)) (by decide))).mp c13s23, c13s42, c13s52⟩, fun w h1 h2 h9 => piL13 (w - (2 ^ lowI lf)) (by omega) (by rw [show (2 ^ lowI lf) + (w - (2 ^ lowI lf)) = w by omega]; exact h9)⟩, (by first | (rw [hwL13s]; done) | (rw [hwL13s]; funext k; simp only [gup]; (repeat' split) <;> first | with_reducible rfl | (exfalso; omega))), rfl⟩ d_G_firstGroup_56
  · skip
    show GW Z _ _ _ ad (u) _ [(0, .ref (ad g)), (1, .int (nI lf)), (2, .int (nI (2 ^ lowI lf))), (3, .int (nI ((2 ^ lowI lf) + (lf - (2 ^ lowI lf)))))] _ _ 7 []
    obtain ⟨wL13e, hwL13e⟩ : ∃ z, z = u := ⟨_, rfl⟩
    rw [← hwL13e]
    have hwL13e_0 : wL13e g = some (.inr (3, [.ref (ad (g + 1)), .ref (ad (g + 2)), .ref (ad (g + 3)), .int (nI k)])) := by rw [hwL13e]; exact hg
    have hwL13e_1 : wL13e (g + 2) = some (.inl ((X.2 1), 12, .inr (.inl am))) := by rw [hwL13e]; exact hg2
    have hwL13e_2 : wL13e (g + 3) = some (.inl ((X.2 0), 4096, .inl mo)) := by rw [hwL13e]; exact hg3
    refine g_iload_n C d_G_firstGroup_7 rfl 3 rfl ?_
    refine g_iload_n C d_G_firstGroup_8 rfl 1 rfl ?_
    refine g_icmp_ge 63 C d_G_firstGroup_9 (by decide) (fun c13e9 => ?_) (fun c13e9 => ?_)
    rotate_left
    · exact absurd (by rw [nI_leI (by omega) (by omega)]; omega) c13e9
    refine g_iload_n C d_G_firstGroup_63 rfl 1 rfl ?_
    exact g_iret C hR hret ⟨lf, rfl, Or.inr ⟨rfl, fun w h1 h2 h9 => piL13 (w - (2 ^ lowI lf)) (by omega) (by rw [show (2 ^ lowI lf) + (w - (2 ^ lowI lf)) = w by omega]; exact h9)⟩, (by first | (rw [hwL13e]; done) | (rw [hwL13e]; funext k; simp only [gup]; (repeat' split) <;> first | with_reducible rfl | (exfalso; omega))), rfl⟩ d_G_firstGroup_64

theorem g_mmax {Z : gZ} {R : Room} {cc : ByteArray} {nL : Nat} {own : String} {E : gE} {ad : Nat → Nat} {u : gW} {sz : Nat} {lv : List (Nat × Value)} {cells slots pc index : Nat} {st : List Value} {x y : Int32} (C : gC Z cc nL own gT E) (hlink : Cond.methodLink own index Lib.Math.max.name ∈ gT) (hstat : Cond.static Lib.Math.max.name ∈ gT) (hini : Cond.initialized "java/lang/Math" ∈ gT) (hcode : Cond.code Lib.Math.max.name Lib.Math.max.code 2 (some .int) ∈ gT) (hf : 1 ≤ R.frames) (hlo : (st.map fun v => v.category).sum + 13 ≤ R.locals) (hc : cells ≤ R.cells) (hs : slots ≤ R.slots) (hd : decode cc pc = .ok (.invokestatic index, 3))
    (kk : GW Z R nL E ad u sz lv cells slots (pc + 3) (.int (if x < y then y else x) :: st)) : GW Z R nL E ad u sz lv cells slots pc (.int y :: .int x :: st) := fun H locs ls h1 h2 h3 h4 h5 =>
  va_mmax C.1 C.2.1 (by rw [C.2.2.1]; exact h5.1.symm) C.2.2.2.1 (C.2.2.2.2.1 _ hlink) (C.2.2.2.2.1 _ hstat) (C.2.2.2.2.1 _ hini) (C.2.2.2.2.1 _ hcode) hf hlo hc hs hd (kk H locs ls h1 h2 h3 h4 h5)