def pickI (c : Int64) (a b : Int32) : Int32 := if 0 ≤ c then a else b
def pickL (c : Int64) : Int64 := if 0 ≤ c then c else -c
/-- groups, senders, getters, amounts, ticked, transferCount, waiting, sum, before -/
abbrev gSt : Type := (Nat → Int32) × (Nat → Int32) × (Nat → Int32) × (Nat → Int64) × (Nat → Int32) × Nat × Int32 × Int64 × Int32
def trS (x : gSt) (b : Int32) : gSt := if x.2.2.2.2.2.1 < 12 then (x.1, upd x.2.1 x.2.2.2.2.2.1 (pickI x.2.2.2.2.2.2.2.1 b x.2.2.2.2.2.2.2.2), upd x.2.2.1 x.2.2.2.2.2.1 (pickI x.2.2.2.2.2.2.2.1 x.2.2.2.2.2.2.2.2 b), vp_updL x.2.2.2.1 x.2.2.2.2.2.1 (pickL x.2.2.2.2.2.2.2.1), upd x.2.2.2.2.1 x.2.2.2.2.2.1 0, x.2.2.2.2.2.1 + 1, x.2.2.2.2.2.2.1 + 1, x.2.2.2.2.2.2.2.1, x.2.2.2.2.2.2.2.2) else x
def grS (x : gSt) (b gc : Int32) (a : Int64) : gSt := (upd x.1 b.toNatClampNeg gc, x.2.1, x.2.2.1, x.2.2.2.1, x.2.2.2.2.1, x.2.2.2.2.2.1, x.2.2.2.2.2.2.1, x.2.2.2.2.2.2.2.1 + a, b)
def adS (mem : Nat → Int32) (av : Nat → Int64) (s : Nat) (gc : Int32) (x : gSt) : Nat → gSt
  | 0 => x
  | i + 1 => if s.testBit i = false then adS mem av s gc x i else grS (if (adS mem av s gc x i).2.2.2.2.2.2.2.2 = -1 then adS mem av s gc x i else trS (adS mem av s gc x i) (mem i)) (mem i) gc (av i)
theorem adS_f {mem : Nat → Int32} {av : Nat → Int64} {s : Nat} {gc : Int32} {x : gSt} {i : Nat} (h : s.testBit i = false) : adS mem av s gc x (i + 1) = adS mem av s gc x i := if_pos h
theorem adS_n {mem : Nat → Int32} {av : Nat → Int64} {s : Nat} {gc : Int32} {x : gSt} {i : Nat} (h : ¬ s.testBit i = false) (h1 : (adS mem av s gc x i).2.2.2.2.2.2.2.2 = -1) : adS mem av s gc x (i + 1) = grS (adS mem av s gc x i) (mem i) gc (av i) := by
  rw [adS, if_neg h, if_pos h1]
theorem adS_y {mem : Nat → Int32} {av : Nat → Int64} {s : Nat} {gc : Int32} {x : gSt} {i : Nat} (h : ¬ s.testBit i = false) (h1 : ¬ (adS mem av s gc x i).2.2.2.2.2.2.2.2 = -1) : adS mem av s gc x (i + 1) = grS (trS (adS mem av s gc x i) (mem i)) (mem i) gc (av i) := by
  rw [adS, if_neg h, if_neg h1]
theorem lt12N {t : Nat} (ht : t < 4096) : nI t < 12 ↔ t < 12 := by rw [show (12 : Int32) = nI 12 from rfl, nI_ltI (by omega) (by decide)]
theorem adS_tc {mem : Nat → Int32} {av : Nat → Int64} {s : Nat} {gc : Int32} {x : gSt} (h : x.2.2.2.2.2.1 ≤ 12) (i : Nat) : (adS mem av s gc x i).2.2.2.2.2.1 ≤ 12 := by
  induction i with
  | zero => exact h
  | succ i ih =>
    by_cases hb : s.testBit i = false
    · rw [adS_f hb]; exact ih
    · by_cases h1 : (adS mem av s gc x i).2.2.2.2.2.2.2.2 = -1
      · rw [adS_n hb h1]; exact ih
      · rw [adS_y hb h1]
        show (trS (adS mem av s gc x i) (mem i)).2.2.2.2.2.1 ≤ 12
        unfold trS
        split
        · next h2 => exact h2
        · exact ih
set_option maxHeartbeats 4000000 in
set_option maxRecDepth 100000 in
theorem k_G_addGroup (l : Launch) (X : gX) (ad : Nat → Nat) (u : gW) (sz : Nat) (g t k s tc : Nat) (q3 : Value) (mem gr se ge ti : Nat → Int32) (av am : Nat → Int64) (op gc wa : Int32) (hg : u g = some (.inr (3, [.ref (ad (g + 1)), .ref (ad (g + 2)), q3, .int (nI k)]))) (hg1 : u (g + 1) = some (.inl ((X.2 0), 12, .inl mem))) (hg2 : u (g + 2) = some (.inl ((X.2 1), 12, .inr (.inl av)))) (ht : u t = some (.inr (4, [.ref (ad (t + 1)), .ref (ad (t + 2)), .ref (ad (t + 3)), .ref (ad (t + 4)), .ref (ad (t + 5)), .int op, .int gc, .int (nI tc), .int wa]))) (ht1 : u (t + 1) = some (.inl ((X.2 0), 12, .inl gr))) (ht2 : u (t + 2) = some (.inl ((X.2 0), 12, .inl se))) (ht3 : u (t + 3) = some (.inl ((X.2 0), 12, .inl ge))) (ht4 : u (t + 4) = some (.inl ((X.2 1), 12, .inr (.inl am)))) (ht5 : u (t + 5) = some (.inl ((X.2 2), 12, .inl ti))) (hk : k ≤ 12) (hs : s < 2 ^ 12) (htc : tc ≤ 12) (hmem : ∀ i, i < k → vp_in (mem i) 12) (hgt : g + 16 ≤ t) : gMet l (EE X) y_G_addGroup c_G_addGroup 7 none ({ frames := 1, cells := 0, slots := 0, locals := 24 }) [.ref (ad g), .ref (ad t), .int (nI s)] ad u sz (fun v u' sz' => v = none ∧ u' = gup (gup (gup (gup (gup (gup u t (.inr (4, [.ref (ad (t + 1)), .ref (ad (t + 2)), .ref (ad (t + 3)), .ref (ad (t + 4)), .ref (ad (t + 5)), .int op, .int (gc + 1), .int (nI (adS mem av s gc ((gr, se, ge, am, ti, tc, wa, 0, -1) : gSt) k).2.2.2.2.2.1), .int ((adS mem av s gc ((gr, se, ge, am, ti, tc, wa, 0, -1) : gSt) k).2.2.2.2.2.2.1)]))) (t + 1) (.inl ((X.2 0), 12, .inl ((adS mem av s gc ((gr, se, ge, am, ti, tc, wa, 0, -1) : gSt) k).1)))) (t + 2) (.inl ((X.2 0), 12, .inl ((adS mem av s gc ((gr, se, ge, am, ti, tc, wa, 0, -1) : gSt) k).2.1)))) (t + 3) (.inl ((X.2 0), 12, .inl ((adS mem av s gc ((gr, se, ge, am, ti, tc, wa, 0, -1) : gSt) k).2.2.1)))) (t + 4) (.inl ((X.2 1), 12, .inr (.inl ((adS mem av s gc ((gr, se, ge, am, ti, tc, wa, 0, -1) : gSt) k).2.2.2.1))))) (t + 5) (.inl ((X.2 2), 12, .inl ((adS mem av s gc ((gr, se, ge, am, ti, tc, wa, 0, -1) : gSt) k).2.2.2.2.1))) ∧ sz' = sz) := by
  refine gMet_of "ExpenseClubs$Grouping" rfl (by decide) (Nat.le_of_ble_eq_true rfl) (lv := [(0, .ref (ad g)), (1, .ref (ad t)), (2, .int (nI s))]) rfl (fun Z hZl C hR hret hname => ?_)
  refine g_lconst (v := 0) C d_G_addGroup_0 (by decide) ?_
  refine g_lstore_n C d_G_addGroup_1 rfl [(3, .long 0), (0, .ref (ad g)), (1, .ref (ad t)), (2, .int (nI s))] (by decide) rfl ?_
  refine g_iconst (v := (-1)) C d_G_addGroup_2 (by decide) ?_
  refine g_istore C d_G_addGroup_3 [(5, .int (-1)), (3, .long 0), (0, .ref (ad g)), (1, .ref (ad t)), (2, .int (nI s))] (by decide) rfl ?_
  refine g_iconst (v := 0) C d_G_addGroup_5 (by decide) ?_
  refine g_istore C d_G_addGroup_6 [(6, .int 0), (5, .int (-1)), (3, .long 0), (0, .ref (ad g)), (1, .ref (ad t)), (2, .int (nI s))] (by decide) rfl ?_
  refine g_fewer (lv' := [(0, .ref (ad g)), (1, .ref (ad t)), (2, .int (nI s)), (3, .long 0), (5, .int (-1)), (6, .int 0)]) [3, 4, 5, 2, 1, 0] rfl ?_
  refine GW_eq (u2 := gup (gup (gup (gup (gup (gup u t (.inr (4, [.ref (ad (t + 1)), .ref (ad (t + 2)), .ref (ad (t + 3)), .ref (ad (t + 4)), .ref (ad (t + 5)), .int op, .int gc, .int (nI (adS mem av s gc ((gr, se, ge, am, ti, tc, wa, 0, -1) : gSt) 0).2.2.2.2.2.1), .int ((adS mem av s gc ((gr, se, ge, am, ti, tc, wa, 0, -1) : gSt) 0).2.2.2.2.2.2.1)]))) (t + 1) (.inl ((X.2 0), 12, .inl ((adS mem av s gc ((gr, se, ge, am, ti, tc, wa, 0, -1) : gSt) 0).1)))) (t + 2) (.inl ((X.2 0), 12, .inl ((adS mem av s gc ((gr, se, ge, am, ti, tc, wa, 0, -1) : gSt) 0).2.1)))) (t + 3) (.inl ((X.2 0), 12, .inl ((adS mem av s gc ((gr, se, ge, am, ti, tc, wa, 0, -1) : gSt) 0).2.2.1)))) (t + 4) (.inl ((X.2 1), 12, .inr (.inl ((adS mem av s gc ((gr, se, ge, am, ti, tc, wa, 0, -1) : gSt) 0).2.2.2.1))))) (t + 5) (.inl ((X.2 2), 12, .inl ((adS mem av s gc ((gr, se, ge, am, ti, tc, wa, 0, -1) : gSt) 0).2.2.2.2.1)))) (lv2 := [(0, .ref (ad g)), (1, .ref (ad t)), (2, .int (nI s)), (3, .long ((adS mem av s gc ((gr, se, ge, am, ti, tc, wa, 0, -1) : gSt) 0).2.2.2.2.2.2.2.1)), (5, .int ((adS mem av s gc ((gr, se, ge, am, ti, tc, wa, 0, -1) : gSt) 0).2.2.2.2.2.2.2.2)), (6, .int (nI 0))]) (by rw [gup_id (show u t = some (.inr (4, [.ref (ad (t + 1)), .ref (ad (t + 2)), .ref (ad (t + 3)), .ref (ad (t + 4)), .ref (ad (t + 5)), .int op, .int gc, .int (nI (adS mem av s gc ((gr, se, ge, am, ti, tc, wa, 0, -1) : gSt) 0).2.2.2.2.2.1), .int ((adS mem av s gc ((gr, se, ge, am, ti, tc, wa, 0, -1) : gSt) 0).2.2.2.2.2.2.1)])) from ht), gup_id (show u (t + 1) = some (.inl ((X.2 0), 12, .inl ((adS mem av s gc ((gr, se, ge, am, ti, tc, wa, 0, -1) : gSt) 0).1))) from ht1), gup_id (show u (t + 2) = some (.inl ((X.2 0), 12, .inl ((adS mem av s gc ((gr, se, ge, am, ti, tc, wa, 0, -1) : gSt) 0).2.1))) from ht2), gup_id (show u (t + 3) = some (.inl ((X.2 0), 12, .inl ((adS mem av s gc ((gr, se, ge, am, ti, tc, wa, 0, -1) : gSt) 0).2.2.1))) from ht3), gup_id (show u (t + 4) = some (.inl ((X.2 1), 12, .inr (.inl ((adS mem av s gc ((gr, se, ge, am, ti, tc, wa, 0, -1) : gSt) 0).2.2.2.1)))) from ht4), gup_id (show u (t + 5) = some (.inl ((X.2 2), 12, .inl ((adS mem av s gc ((gr, se, ge, am, ti, tc, wa, 0, -1) : gSt) 0).2.2.2.2.1))) from ht5)]) rfl ?_
  refine g_loop k (fun iL16 => True) (fun iL16 => gup (gup (gup (gup (gup (gup u t (.inr (4, [.ref (ad (t + 1)), .ref (ad (t + 2)), .ref (ad (t + 3)), .ref (ad (t + 4)), .ref (ad (t + 5)), .int op, .int gc, .int (nI (adS mem av s gc ((gr, se, ge, am, ti, tc, wa, 0, -1) : gSt) iL16).2.2.2.2.2.1), .int ((adS mem av s gc ((gr, se, ge, am, ti, tc, wa, 0, -1) : gSt) iL16).2.2.2.2.2.2.1)]))) (t + 1) (.inl ((X.2 0), 12, .inl ((adS mem av s gc ((gr, se, ge, am, ti, tc, wa, 0, -1) : gSt) iL16).1)))) (t + 2) (.inl ((X.2 0), 12, .inl ((adS mem av s gc ((gr, se, ge, am, ti, tc, wa, 0, -1) : gSt) iL16).2.1)))) (t + 3) (.inl ((X.2 0), 12, .inl ((adS mem av s gc ((gr, se, ge, am, ti, tc, wa, 0, -1) : gSt) iL16).2.2.1)))) (t + 4) (.inl ((X.2 1), 12, .inr (.inl ((adS mem av s gc ((gr, se, ge, am, ti, tc, wa, 0, -1) : gSt) iL16).2.2.2.1))))) (t + 5) (.inl ((X.2 2), 12, .inl ((adS mem av s gc ((gr, se, ge, am, ti, tc, wa, 0, -1) : gSt) iL16).2.2.2.2.1)))) (fun iL16 => [(0, .ref (ad g)), (1, .ref (ad t)), (2, .int (nI s)), (3, .long ((adS mem av s gc ((gr, se, ge, am, ti, tc, wa, 0, -1) : gSt) iL16).2.2.2.2.2.2.2.1)), (5, .int ((adS mem av s gc ((gr, se, ge, am, ti, tc, wa, 0, -1) : gSt) iL16).2.2.2.2.2.2.2.2)), (6, .int (nI iL16))]) (fun iL16 hiL16 piL16 KL16 => ?_) (fun piL16 => ?_) 0 (by omega) trivial
  · skip
    show GW Z _ _ _ ad (gup (gup (gup (gup (gup (gup u t (.inr (4, [.ref (ad (t + 1)), .ref (ad (t + 2)), .ref (ad (t + 3)), .ref (ad (t + 4)), .ref (ad (t + 5)), .int op, .int gc, .int (nI (adS mem av s gc ((gr, se, ge, am, ti, tc, wa, 0, -1) : gSt) iL16).2.2.2.2.2.1), .int ((adS mem av s gc ((gr, se, ge, am, ti, tc, wa, 0, -1) : gSt) iL16).2.2.2.2.2.2.1)]))) (t + 1) (.inl ((X.2 0), 12, .inl ((adS mem av s gc ((gr, se, ge, am, ti, tc, wa, 0, -1) : gSt) iL16).1)))) (t + 2) (.inl ((X.2 0), 12, .inl ((adS mem av s gc ((gr, se, ge, am, ti, tc, wa, 0, -1) : gSt) iL16).2.1)))) (t + 3) (.inl ((X.2 0), 12, .inl ((adS mem av s gc ((gr, se, ge, am, ti, tc, wa, 0, -1) : gSt) iL16).2.2.1)))) (t + 4) (.inl ((X.2 1), 12, .inr (.inl ((adS mem av s gc ((gr, se, ge, am, ti, tc, wa, 0, -1) : gSt) iL16).2.2.2.1))))) (t + 5) (.inl ((X.2 2), 12, .inl ((adS mem av s gc ((gr, se, ge, am, ti, tc, wa, 0, -1) : gSt) iL16).2.2.2.2.1)))) _ [(0, .ref (ad g)), (1, .ref (ad t)), (2, .int (nI s)), (3, .long ((adS mem av s gc ((gr, se, ge, am, ti, tc, wa, 0, -1) : gSt) iL16).2.2.2.2.2.2.2.1)), (5, .int ((adS mem av s gc ((gr, se, ge, am, ti, tc, wa, 0, -1) : gSt) iL16).2.2.2.2.2.2.2.2)), (6, .int (nI iL16))] _ _ 8 []
    obtain ⟨wL16s, hwL16s⟩ : ∃ z, z = gup (gup (gup (gup (gup (gup u t (.inr (4, [.ref (ad (t + 1)), .ref (ad (t + 2)), .ref (ad (t + 3)), .ref (ad (t + 4)), .ref (ad (t + 5)), .int op, .int gc, .int (nI (adS mem av s gc ((gr, se, ge, am, ti, tc, wa, 0, -1) : gSt) iL16).2.2.2.2.2.1), .int ((adS mem av s gc ((gr, se, ge, am, ti, tc, wa, 0, -1) : gSt) iL16).2.2.2.2.2.2.1)]))) (t + 1) (.inl ((X.2 0), 12, .inl ((adS mem av s gc ((gr, se, ge, am, ti, tc, wa, 0, -1) : gSt) iL16).1)))) (t + 2) (.inl ((X.2 0), 12, .inl ((adS mem av s gc ((gr, se, ge, am, ti, tc, wa, 0, -1) : gSt) iL16).2.1)))) (t + 3) (.inl ((X.2 0), 12, .inl ((adS mem av s gc ((gr, se, ge, am, ti, tc, wa, 0, -1) : gSt) iL16).2.2.1)))) (t + 4) (.inl ((X.2 1), 12, .inr (.inl ((adS mem av s gc ((gr, se, ge, am, ti, tc, wa, 0, -1) : gSt) iL16).2.2.2.1))))) (t + 5) (.inl ((X.2 2), 12, .inl ((adS mem av s gc ((gr, se, ge, am, ti, tc, wa, 0, -1) : gSt) iL16).2.2.2.2.1))) := ⟨_, rfl⟩
    rw [← hwL16s]
    have hwL16s_0 : wL16s g = some (.inr (3, [.ref (ad (g + 1)), .ref (ad (g + 2)), q3, .int (nI k)])) := by rw [hwL16s, gup_ne (by omega), gup_ne (by omega), gup_ne (by omega), gup_ne (by omega), gup_ne (by omega), gup_ne (by omega)]; exact hg
    have hwL16s_1 : wL16s (g + 1) = some (.inl ((X.2 0), 12, .inl mem)) := by rw [hwL16s, gup_ne (by omega), gup_ne (by omega), gup_ne (by omega), gup_ne (by omega), gup_ne (by omega), gup_ne (by omega)]; exact hg1
    have hwL16s_2 : wL16s (g + 2) = some (.inl ((X.2 1), 12, .inr (.inl av))) := by rw [hwL16s, gup_ne (by omega), gup_ne (by omega), gup_ne (by omega), gup_ne (by omega), gup_ne (by omega), gup_ne (by omega)]; exact hg2
    have hwL16s_3 : wL16s t = some (.inr (4, [.ref (ad (t + 1)), .ref (ad (t + 2)), .ref (ad (t + 3)), .ref (ad (t + 4)), .ref (ad (t + 5)), .int op, .int gc, .int (nI (adS mem av s gc ((gr, se, ge, am, ti, tc, wa, 0, -1) : gSt) iL16).2.2.2.2.2.1), .int ((adS mem av s gc ((gr, se, ge, am, ti, tc, wa, 0, -1) : gSt) iL16).2.2.2.2.2.2.1)])) := by rw [hwL16s, gup_ne (by omega), gup_ne (by omega), gup_ne (by omega), gup_ne (by omega), gup_ne (by omega), gup_self]
    have hwL16s_4 : wL16s (t + 1) = some (.inl ((X.2 0), 12, .inl ((adS mem av s gc ((gr, se, ge, am, ti, tc, wa, 0, -1) : gSt) iL16).1))) := by rw [hwL16s, gup_ne (by omega), gup_ne (by omega), gup_ne (by omega), gup_ne (by omega), gup_self]
    have hwL16s_5 : wL16s (t + 2) = some (.inl ((X.2 0), 12, .inl ((adS mem av s gc ((gr, se, ge, am, ti, tc, wa, 0, -1) : gSt) iL16).2.1))) := by rw [hwL16s, gup_ne (by omega), gup_ne (by omega), gup_ne (by omega), gup_self]
    have hwL16s_6 : wL16s (t + 3) = some (.inl ((X.2 0), 12, .inl ((adS mem av s gc ((gr, se, ge, am, ti, tc, wa, 0, -1) : gSt) iL16).2.2.1))) := by rw [hwL16s, gup_ne (by omega), gup_ne (by omega), gup_self]
    have hwL16s_7 : wL16s (t + 4) = some (.inl ((X.2 1), 12, .inr (.inl ((adS mem av s gc ((gr, se, ge, am, ti, tc, wa, 0, -1) : gSt) iL16).2.2.2.1)))) := by rw [hwL16s, gup_ne (by omega), gup_self]
    have hwL16s_8 : wL16s (t + 5) = some (.inl ((X.2 2), 12, .inl ((adS mem av s gc ((gr, se, ge, am, ti, tc, wa, 0, -1) : gSt) iL16).2.2.2.2.1))) := by rw [hwL16s, gup_self]
    refine g_iload C d_G_addGroup_8 5 rfl ?_
    refine g_aload_n C d_G_addGroup_10 rfl 0 rfl ?_
    refine g_get g 3 C hwL16s_0 rfl i_G (by decide) (gmem wd_70 rfl) rfl rfl d_G_addGroup_11 ?_
    refine g_icmp_ge 87 C d_G_addGroup_14 (by decide) (fun c16s14 => ?_) (fun c16s14 => ?_)
    · exact absurd c16s14 (geK (by omega) hiL16)
    refine g_iload_n C d_G_addGroup_17 rfl 2 rfl ?_
    refine g_iload C d_G_addGroup_18 5 rfl ?_
    refine g_ishr C d_G_addGroup_20 ?_
    refine g_iconst (v := 1) C d_G_addGroup_21 (by decide) ?_
    refine g_iand C d_G_addGroup_22 ?_
    refine g_if_eq 81 C d_G_addGroup_23 (by decide) (fun c16s23 => ?_) (fun c16s23 => ?_)
    · skip
      obtain ⟨x16s81, ex16s81⟩ : ∃ y : Int32, y = (nI iL16) + 1 := ⟨_, rfl⟩
      refine g_iinc (v := x16s81) C d_G_addGroup_81 5 rfl (by rw [ex16s81]; rfl) [(6, .int x16s81), (0, .ref (ad g)), (1, .ref (ad t)), (2, .int (nI s)), (3, .long ((adS mem av s gc ((gr, se, ge, am, ti, tc, wa, 0, -1) : gSt) iL16).2.2.2.2.2.2.2.1)), (5, .int ((adS mem av s gc ((gr, se, ge, am, ti, tc, wa, 0, -1) : gSt) iL16).2.2.2.2.2.2.2.2))] (by decide) rfl ?_
      refine g_goto 8 C d_G_addGroup_84 (by decide) ?_
      refine g_fewer (lv' := [(0, .ref (ad g)), (1, .ref (ad t)), (2, .int (nI s)), (3, .long ((adS mem av s gc ((gr, se, ge, am, ti, tc, wa, 0, -1) : gSt) iL16).2.2.2.2.2.2.2.1)), (5, .int ((adS mem av s gc ((gr, se, ge, am, ti, tc, wa, 0, -1) : gSt) iL16).2.2.2.2.2.2.2.2)), (6, .int x16s81)]) [1, 2, 3, 4, 5, 0] rfl ?_
      refine GW_eq (u2 := gup (gup (gup (gup (gup (gup u t (.inr (4, [.ref (ad (t + 1)), .ref (ad (t + 2)), .ref (ad (t + 3)), .ref (ad (t + 4)), .ref (ad (t + 5)), .int op, .int gc, .int (nI (adS mem av s gc ((gr, se, ge, am, ti, tc, wa, 0, -1) : gSt) (iL16 + 1)).2.2.2.2.2.1), .int ((adS mem av s gc ((gr, se, ge, am, ti, tc, wa, 0, -1) : gSt) (iL16 + 1)).2.2.2.2.2.2.1)]))) (t + 1) (.inl ((X.2 0), 12, .inl ((adS mem av s gc ((gr, se, ge, am, ti, tc, wa, 0, -1) : gSt) (iL16 + 1)).1)))) (t + 2) (.inl ((X.2 0), 12, .inl ((adS mem av s gc ((gr, se, ge, am, ti, tc, wa, 0, -1) : gSt) (iL16 + 1)).2.1)))) (t + 3) (.inl ((X.2 0), 12, .inl ((adS mem av s gc ((gr, se, ge, am, ti, tc, wa, 0, -1) : gSt) (iL16 + 1)).2.2.1)))) (t + 4) (.inl ((X.2 1), 12, .inr (.inl ((adS mem av s gc ((gr, se, ge, am, ti, tc, wa, 0, -1) : gSt) (iL16 + 1)).2.2.2.1))))) (t + 5) (.inl ((X.2 2), 12, .inl ((adS mem av s gc ((gr, se, ge, am, ti, tc, wa, 0, -1) : gSt) (iL16 + 1)).2.2.2.2.1)))) (lv2 := [(0, .ref (ad g)), (1, .ref (ad t)), (2, .int (nI s)), (3, .long ((adS mem av s gc ((gr, se, ge, am, ti, tc, wa, 0, -1) : gSt) (iL16 + 1)).2.2.2.2.2.2.2.1)), (5, .int ((adS mem av s gc ((gr, se, ge, am, ti, tc, wa, 0, -1) : gSt) (iL16 + 1)).2.2.2.2.2.2.2.2)), (6, .int (nI (iL16 + 1)))]) ?_ ?_ (KL16 trivial)
      · funext k
        by_cases hk0 : k = t
        · rw [hk0, hwL16s_3, gup_ne (by omega), gup_ne (by omega), gup_ne (by omega), gup_ne (by omega), gup_ne (by omega), gup_self] <;> (try (rw [adS_f ((bit0 (s := s) (i := iL16) (by omega) (by omega)).mp c16s23)])) <;> (try simp only [ex16s81])
        by_cases hk1 : k = t + 1
        · rw [hk1, hwL16s_4, gup_ne (by omega), gup_ne (by omega), gup_ne (by omega), gup_ne (by omega), gup_self] <;> (try (rw [adS_f ((bit0 (s := s) (i := iL16) (by omega) (by omega)).mp c16s23)])) <;> (try simp only [ex16s81])
        by_cases hk2 : k = t + 2
        · rw [hk2, hwL16s_5, gup_ne (by omega), gup_ne (by omega), gup_ne (by omega), gup_self] <;> (try (rw [adS_f ((bit0 (s := s) (i := iL16) (by omega) (by omega)).mp c16s23)])) <;> (try simp only [ex16s81])
        by_cases hk3 : k = t + 3
        · rw [hk3, hwL16s_6, gup_ne (by omega), gup_ne (by omega), gup_self] <;> (try (rw [adS_f ((bit0 (s := s) (i := iL16) (by omega) (by omega)).mp c16s23)])) <;> (try simp only [ex16s81])
        by_cases hk4 : k = t + 4
        · rw [hk4, hwL16s_7, gup_ne (by omega), gup_self] <;> (try (rw [adS_f ((bit0 (s := s) (i := iL16) (by omega) (by omega)).mp c16s23)])) <;> (try simp only [ex16s81])
        by_cases hk5 : k = t + 5
        · rw [hk5, hwL16s_8, gup_self] <;> (try (rw [adS_f ((bit0 (s := s) (i := iL16) (by omega) (by omega)).mp c16s23)])) <;> (try simp only [ex16s81])
        rw [hwL16s, gup_ne hk5, gup_ne hk4, gup_ne hk3, gup_ne hk2, gup_ne hk1, gup_ne hk0]
        rw [gup_ne hk5, gup_ne hk4, gup_ne hk3, gup_ne hk2, gup_ne hk1, gup_ne hk0]
      · rw [adS_f ((bit0 (s := s) (i := iL16) (by omega) (by omega)).mp c16s23)]; simp only [ex16s81, nI_1]
    · skip
      refine g_iload C d_G_addGroup_26 4 rfl ?_
      refine g_iconst (v := (-1)) C d_G_addGroup_28 (by decide) ?_
      refine g_icmp_eq 46 C d_G_addGroup_29 (by decide) (fun c16s29 => ?_) (fun c16s29 => ?_)
      · skip
        refine g_aload_n C d_G_addGroup_46 rfl 1 rfl ?_
        refine g_get t 0 C hwL16s_3 rfl i_S (by decide) (gmem wd_116 rfl) rfl rfl d_G_addGroup_47 ?_
        refine g_aload_n C d_G_addGroup_50 rfl 0 rfl ?_
        refine g_get g 0 C hwL16s_0 rfl i_G (by decide) (gmem wd_67 rfl) rfl rfl d_G_addGroup_51 ?_
        refine g_iload C d_G_addGroup_54 5 rfl ?_
        refine g_iald (g + 1) 0 C hwL16s_1 rfl (vp_in_nI (by omega) (by decide)) d_G_addGroup_56 ?_
        rw [show Int32.toNatClampNeg (nI iL16) = iL16 from nI_clamp (by omega)]
        refine g_aload_n C d_G_addGroup_57 rfl 1 rfl ?_
        refine g_get t 6 C hwL16s_3 rfl i_S (by decide) (gmem wd_133 rfl) rfl rfl d_G_addGroup_58 ?_
        refine g_iast (t + 1) 0 C hwL16s_4 rfl (hmem iL16 hiL16) d_G_addGroup_61 ?_
        obtain ⟨u16s1, hu16s1⟩ : ∃ z, z = gup wL16s (t + 1) (.inl ((X.2 0), 12, .inl (upd ((adS mem av s gc ((gr, se, ge, am, ti, tc, wa, 0, -1) : gSt) iL16).1) (Int32.toNatClampNeg (mem iL16)) gc))) := ⟨_, rfl⟩
        rw [← hu16s1]
        have hu16s1_0 : u16s1 g = some (.inr (3, [.ref (ad (g + 1)), .ref (ad (g + 2)), q3, .int (nI k)])) := by rw [hu16s1, gup_ne (by omega)]; exact hwL16s_0
        have hu16s1_1 : u16s1 (g + 1) = some (.inl ((X.2 0), 12, .inl mem)) := by rw [hu16s1, gup_ne (by omega)]; exact hwL16s_1
        have hu16s1_2 : u16s1 (g + 2) = some (.inl ((X.2 1), 12, .inr (.inl av))) := by rw [hu16s1, gup_ne (by omega)]; exact hwL16s_2
        have hu16s1_3 : u16s1 t = some (.inr (4, [.ref (ad (t + 1)), .ref (ad (t + 2)), .ref (ad (t + 3)), .ref (ad (t + 4)), .ref (ad (t + 5)), .int op, .int gc, .int (nI (adS mem av s gc ((gr, se, ge, am, ti, tc, wa, 0, -1) : gSt) iL16).2.2.2.2.2.1), .int ((adS mem av s gc ((gr, se, ge, am, ti, tc, wa, 0, -1) : gSt) iL16).2.2.2.2.2.2.1)])) := by rw [hu16s1, gup_ne (by omega)]; exact hwL16s_3
        have hu16s1_4 : u16s1 (t + 1) = some (.inl ((X.2 0), 12, .inl (upd ((adS mem av s gc ((gr, se, ge, am, ti, tc, wa, 0, -1) : gSt) iL16).1) (Int32.toNatClampNeg (mem iL16)) gc))) := by rw [hu16s1]; exact gup_self _ _ _
        have hu16s1_5 : u16s1 (t + 2) = some (.inl ((X.2 0), 12, .inl ((adS mem av s gc ((gr, se, ge, am, ti, tc, wa, 0, -1) : gSt) iL16).2.1))) := by rw [hu16s1, gup_ne (by omega)]; exact hwL16s_5
        have hu16s1_6 : u16s1 (t + 3) = some (.inl ((X.2 0), 12, .inl ((adS mem av s gc ((gr, se, ge, am, ti, tc, wa, 0, -1) : gSt) iL16).2.2.1))) := by rw [hu16s1, gup_ne (by omega)]; exact hwL16s_6
        have hu16s1_7 : u16s1 (t + 4) = some (.inl ((X.2 1), 12, .inr (.inl ((adS mem av s gc ((gr, se, ge, am, ti, tc, wa, 0, -1) : gSt) iL16).2.2.2.1)))) := by rw [hu16s1, gup_ne (by omega)]; exact hwL16s_7
        have hu16s1_8 : u16s1 (t + 5) = some (.inl ((X.2 2), 12, .inl ((adS mem av s gc ((gr, se, ge, am, ti, tc, wa, 0, -1) : gSt) iL16).2.2.2.2.1))) := by rw [hu16s1, gup_ne (by omega)]; exact hwL16s_8
        refine g_aload_n C d_G_addGroup_62 rfl 0 rfl ?_
        refine g_get g 0 C hu16s1_0 rfl i_G (by decide) (gmem wd_67 rfl) rfl rfl d_G_addGroup_63 ?_
        refine g_iload C d_G_addGroup_66 5 rfl ?_
        refine g_iald (g + 1) 0 C hu16s1_1 rfl (vp_in_nI (by omega) (by decide)) d_G_addGroup_68 ?_
        rw [show Int32.toNatClampNeg (nI iL16) = iL16 from nI_clamp (by omega)]
        refine g_topi (fun x16s69 ex16s69 => ?_)
        refine g_istore C d_G_addGroup_69 [(5, .int x16s69), (0, .ref (ad g)), (1, .ref (ad t)), (2, .int (nI s)), (3, .long ((adS mem av s gc ((gr, se, ge, am, ti, tc, wa, 0, -1) : gSt) iL16).2.2.2.2.2.2.2.1)), (6, .int (nI iL16))] (by decide) rfl ?_
        refine g_lload_n C d_G_addGroup_71 rfl 4 rfl ?_
        refine g_aload_n C d_G_addGroup_72 rfl 1 rfl ?_
        refine g_get g 1 C hu16s1_0 rfl i_G (by decide) (gmem wd_68 rfl) rfl rfl d_G_addGroup_73 ?_
        refine g_iload C d_G_addGroup_76 5 rfl ?_
        refine g_lald (g + 2) 1 C hu16s1_2 rfl (vp_in_nI (by omega) (by decide)) d_G_addGroup_78 ?_
        rw [show Int32.toNatClampNeg (nI iL16) = iL16 from nI_clamp (by omega)]
        refine g_ladd C d_G_addGroup_79 ?_
        refine g_topl (fun x16s80 ex16s80 => ?_)
        refine g_lstore_n C d_G_addGroup_80 rfl [(3, .long x16s80), (5, .int x16s69), (0, .ref (ad g)), (1, .ref (ad t)), (2, .int (nI s)), (6, .int (nI iL16))] (by decide) rfl ?_
        obtain ⟨x16s81, ex16s81⟩ : ∃ y : Int32, y = (nI iL16) + 1 := ⟨_, rfl⟩
        refine g_iinc (v := x16s81) C d_G_addGroup_81 5 rfl (by rw [ex16s81]; rfl) [(6, .int x16s81), (3, .long x16s80), (5, .int x16s69), (0, .ref (ad g)), (1, .ref (ad t)), (2, .int (nI s))] (by decide) rfl ?_
        refine g_goto 8 C d_G_addGroup_84 (by decide) ?_
        refine g_fewer (lv' := [(0, .ref (ad g)), (1, .ref (ad t)), (2, .int (nI s)), (3, .long x16s80), (5, .int x16s69), (6, .int x16s81)]) [3, 4, 5, 1, 2, 0] rfl ?_
        refine GW_eq (u2 := gup (gup (gup (gup (gup (gup u t (.inr (4, [.ref (ad (t + 1)), .ref (ad (t + 2)), .ref (ad (t + 3)), .ref (ad (t + 4)), .ref (ad (t + 5)), .int op, .int gc, .int (nI (adS mem av s gc ((gr, se, ge, am, ti, tc, wa, 0, -1) : gSt) (iL16 + 1)).2.2.2.2.2.1), .int ((adS mem av s gc ((gr, se, ge, am, ti, tc, wa, 0, -1) : gSt) (iL16 + 1)).2.2.2.2.2.2.1)]))) (t + 1) (.inl ((X.2 0), 12, .inl ((adS mem av s gc ((gr, se, ge, am, ti, tc, wa, 0, -1) : gSt) (iL16 + 1)).1)))) (t + 2) (.inl ((X.2 0), 12, .inl ((adS mem av s gc ((gr, se, ge, am, ti, tc, wa, 0, -1) : gSt) (iL16 + 1)).2.1)))) (t + 3) (.inl ((X.2 0), 12, .inl ((adS mem av s gc ((gr, se, ge, am, ti, tc, wa, 0, -1) : gSt) (iL16 + 1)).2.2.1)))) (t + 4) (.inl ((X.2 1), 12, .inr (.inl ((adS mem av s gc ((gr, se, ge, am, ti, tc, wa, 0, -1) : gSt) (iL16 + 1)).2.2.2.1))))) (t + 5) (.inl ((X.2 2), 12, .inl ((adS mem av s gc ((gr, se, ge, am, ti, tc, wa, 0, -1) : gSt) (iL16 + 1)).2.2.2.2.1)))) (lv2 := [(0, .ref (ad g)), (1, .ref (ad t)), (2, .int (nI s)), (3, .long ((adS mem av s gc ((gr, se, ge, am, ti, tc, wa, 0, -1) : gSt) (iL16 + 1)).2.2.2.2.2.2.2.1)), (5, .int ((adS mem av s gc ((gr, se, ge, am, ti, tc, wa, 0, -1) : gSt) (iL16 + 1)).2.2.2.2.2.2.2.2)), (6, .int (nI (iL16 + 1)))]) ?_ ?_ (KL16 trivial)
        · funext k
          by_cases hk0 : k = t
          · rw [hk0, hu16s1_3, gup_ne (by omega), gup_ne (by omega), gup_ne (by omega), gup_ne (by omega), gup_ne (by omega), gup_self] <;> (try (rw [adS_n (mt (bit0 (s := s) (i := iL16) (by omega) (by omega)).mpr c16s23) c16s29]; simp only [grS])) <;> (try simp only [ex16s69, ex16s80, ex16s81])
          by_cases hk1 : k = t + 1
          · rw [hk1, hu16s1_4, gup_ne (by omega), gup_ne (by omega), gup_ne (by omega), gup_ne (by omega), gup_self] <;> (try (rw [adS_n (mt (bit0 (s := s) (i := iL16) (by omega) (by omega)).mpr c16s23) c16s29]; simp only [grS])) <;> (try simp only [ex16s69, ex16s80, ex16s81])
          by_cases hk2 : k = t + 2
          · rw [hk2, hu16s1_5, gup_ne (by omega), gup_ne (by omega), gup_ne (by omega), gup_self] <;> (try (rw [adS_n (mt (bit0 (s := s) (i := iL16) (by omega) (by omega)).mpr c16s23) c16s29]; simp only [grS])) <;> (try simp only [ex16s69, ex16s80, ex16s81])
          by_cases hk3 : k = t + 3
          · rw [hk3, hu16s1_6, gup_ne (by omega), gup_ne (by omega), gup_self] <;> (try (rw [adS_n (mt (bit0 (s := s) (i := iL16) (by omega) (by omega)).mpr c16s23) c16s29]; simp only [grS])) <;> (try simp only [ex16s69, ex16s80, ex16s81])
          by_cases hk4 : k = t + 4
          · rw [hk4, hu16s1_7, gup_ne (by omega), gup_self] <;> (try (rw [adS_n (mt (bit0 (s := s) (i := iL16) (by omega) (by omega)).mpr c16s23) c16s29]; simp only [grS])) <;> (try simp only [ex16s69, ex16s80, ex16s81])
          by_cases hk5 : k = t + 5
          · rw [hk5, hu16s1_8, gup_self] <;> (try (rw [adS_n (mt (bit0 (s := s) (i := iL16) (by omega) (by omega)).mpr c16s23) c16s29]; simp only [grS])) <;> (try simp only [ex16s69, ex16s80, ex16s81])
          rw [hu16s1, gup_ne hk1]
          rw [hwL16s, gup_ne hk5, gup_ne hk4, gup_ne hk3, gup_ne hk2, gup_ne hk1, gup_ne hk0]
          rw [gup_ne hk5, gup_ne hk4, gup_ne hk3, gup_ne hk2, gup_ne hk1, gup_ne hk0]
        · rw [adS_n (mt (bit0 (s := s) (i := iL16) (by omega) (by omega)).mpr c16s23) c16s29]; simp only [grS]; simp only [ex16s69, ex16s80, ex16s81, nI_1]
      · skip
        refine g_aload_n C d_G_addGroup_32 rfl 1 rfl ?_
        refine g_iload C d_G_addGroup_33 4 rfl ?_
        refine g_aload_n C d_G_addGroup_35 rfl 0 rfl ?_
        refine g_get g 0 C hwL16s_0 rfl i_G (by decide) (gmem wd_67 rfl) rfl rfl d_G_addGroup_36 ?_
        refine g_iload C d_G_addGroup_39 5 rfl ?_
        refine g_iald (g + 1) 0 C hwL16s_1 rfl (vp_in_nI (by omega) (by decide)) d_G_addGroup_41 ?_
        rw [show Int32.toNatClampNeg (nI iL16) = iL16 from nI_clamp (by omega)]
        refine g_lload_n C d_G_addGroup_42 rfl 3 rfl ?_
        refine g_callV 3 C (k_S_addTransfer _ X ad wL16s sz t (.ref (ad (t + 1))) ((adS mem av s gc ((gr, se, ge, am, ti, tc, wa, 0, -1) : gSt) iL16).2.1) ((adS mem av s gc ((gr, se, ge, am, ti, tc, wa, 0, -1) : gSt) iL16).2.2.1) ((adS mem av s gc ((gr, se, ge, am, ti, tc, wa, 0, -1) : gSt) iL16).2.2.2.1) ((adS mem av s gc ((gr, se, ge, am, ti, tc, wa, 0, -1) : gSt) iL16).2.2.2.2.1) op gc (nI ((adS mem av s gc ((gr, se, ge, am, ti, tc, wa, 0, -1) : gSt) iL16).2.2.2.2.2.1)) ((adS mem av s gc ((gr, se, ge, am, ti, tc, wa, 0, -1) : gSt) iL16).2.2.2.2.2.2.1) ((adS mem av s gc ((gr, se, ge, am, ti, tc, wa, 0, -1) : gSt) iL16).2.2.2.2.2.2.2.2) (mem iL16) ((adS mem av s gc ((gr, se, ge, am, ti, tc, wa, 0, -1) : gSt) iL16).2.2.2.2.2.2.2.1) hwL16s_3 hwL16s_5 hwL16s_6 hwL16s_7 hwL16s_8 (nI_pos (Nat.lt_of_le_of_lt (adS_tc htc iL16) (by decide)))) (gmem wd_388 rfl) (gmem wd_389 rfl) (gmem wd_390 rfl) (gmem wd_6 rfl) (gmem wd_391 rfl) ⟨by decide, by decide, by decide +kernel⟩ ⟨Nat.le_of_ble_eq_true rfl, Nat.le_of_ble_eq_true rfl⟩ hwL16s_3 rfl rfl rfl (Nat.le_of_ble_eq_true rfl) d_G_addGroup_43 ⟨Nat.le_of_ble_eq_true rfl, Nat.le_of_ble_eq_true rfl⟩ ?_
        rintro v9 u16st2 s9 ⟨h9, hs9, hu16st2⟩; rw [h9, hs9]; clear h9 hs9 v9 s9
        have hT12 := adS_tc (mem := mem) (av := av) (s := s) (gc := gc) (x := ((gr, se, ge, am, ti, tc, wa, 0, -1) : gSt)) htc iL16
        by_cases hT : (adS mem av s gc ((gr, se, ge, am, ti, tc, wa, 0, -1) : gSt) iL16).2.2.2.2.2.1 < 12
        · skip
          rw [if_pos ((lt12N (by omega)).mpr hT), nI_clamp (n := (adS mem av s gc ((gr, se, ge, am, ti, tc, wa, 0, -1) : gSt) iL16).2.2.2.2.2.1) (by omega), nI_1] at hu16st2
          have hu16st2 : u16st2 = gup (gup (gup (gup (gup wL16s t (.inr (4, [.ref (ad (t + 1)), .ref (ad (t + 2)), .ref (ad (t + 3)), .ref (ad (t + 4)), .ref (ad (t + 5)), .int op, .int gc, .int (nI ((adS mem av s gc ((gr, se, ge, am, ti, tc, wa, 0, -1) : gSt) iL16).2.2.2.2.2.1 + 1)), .int ((adS mem av s gc ((gr, se, ge, am, ti, tc, wa, 0, -1) : gSt) iL16).2.2.2.2.2.2.1 + 1)]))) (t + 2) (.inl ((X.2 0), 12, .inl (upd ((adS mem av s gc ((gr, se, ge, am, ti, tc, wa, 0, -1) : gSt) iL16).2.1) ((adS mem av s gc ((gr, se, ge, am, ti, tc, wa, 0, -1) : gSt) iL16).2.2.2.2.2.1) (pickI ((adS mem av s gc ((gr, se, ge, am, ti, tc, wa, 0, -1) : gSt) iL16).2.2.2.2.2.2.2.1) (mem iL16) ((adS mem av s gc ((gr, se, ge, am, ti, tc, wa, 0, -1) : gSt) iL16).2.2.2.2.2.2.2.2)))))) (t + 3) (.inl ((X.2 0), 12, .inl (upd ((adS mem av s gc ((gr, se, ge, am, ti, tc, wa, 0, -1) : gSt) iL16).2.2.1) ((adS mem av s gc ((gr, se, ge, am, ti, tc, wa, 0, -1) : gSt) iL16).2.2.2.2.2.1) (pickI ((adS mem av s gc ((gr, se, ge, am, ti, tc, wa, 0, -1) : gSt) iL16).2.2.2.2.2.2.2.1) ((adS mem av s gc ((gr, se, ge, am, ti, tc, wa, 0, -1) : gSt) iL16).2.2.2.2.2.2.2.2) (mem iL16)))))) (t + 4) (.inl ((X.2 1), 12, .inr (.inl (vp_updL ((adS mem av s gc ((gr, se, ge, am, ti, tc, wa, 0, -1) : gSt) iL16).2.2.2.1) ((adS mem av s gc ((gr, se, ge, am, ti, tc, wa, 0, -1) : gSt) iL16).2.2.2.2.2.1) (pickL ((adS mem av s gc ((gr, se, ge, am, ti, tc, wa, 0, -1) : gSt) iL16).2.2.2.2.2.2.2.1))))))) (t + 5) (.inl ((X.2 2), 12, .inl (upd ((adS mem av s gc ((gr, se, ge, am, ti, tc, wa, 0, -1) : gSt) iL16).2.2.2.2.1) ((adS mem av s gc ((gr, se, ge, am, ti, tc, wa, 0, -1) : gSt) iL16).2.2.2.2.2.1) 0))) := hu16st2
          have hu16st2_0 : u16st2 g = some (.inr (3, [.ref (ad (g + 1)), .ref (ad (g + 2)), q3, .int (nI k)])) := by rw [hu16st2, gup_ne (by omega), gup_ne (by omega), gup_ne (by omega), gup_ne (by omega), gup_ne (by omega)]; exact hwL16s_0
          have hu16st2_1 : u16st2 (g + 1) = some (.inl ((X.2 0), 12, .inl mem)) := by rw [hu16st2, gup_ne (by omega), gup_ne (by omega), gup_ne (by omega), gup_ne (by omega), gup_ne (by omega)]; exact hwL16s_1
          have hu16st2_2 : u16st2 (g + 2) = some (.inl ((X.2 1), 12, .inr (.inl av))) := by rw [hu16st2, gup_ne (by omega), gup_ne (by omega), gup_ne (by omega), gup_ne (by omega), gup_ne (by omega)]; exact hwL16s_2
          have hu16st2_3 : u16st2 t = some (.inr (4, [.ref (ad (t + 1)), .ref (ad (t + 2)), .ref (ad (t + 3)), .ref (ad (t + 4)), .ref (ad (t + 5)), .int op, .int gc, .int (nI ((adS mem av s gc ((gr, se, ge, am, ti, tc, wa, 0, -1) : gSt) iL16).2.2.2.2.2.1 + 1)), .int ((adS mem av s gc ((gr, se, ge, am, ti, tc, wa, 0, -1) : gSt) iL16).2.2.2.2.2.2.1 + 1)])) := by rw [hu16st2, gup_ne (by omega), gup_ne (by omega), gup_ne (by omega), gup_ne (by omega), gup_self]
          have hu16st2_4 : u16st2 (t + 1) = some (.inl ((X.2 0), 12, .inl ((adS mem av s gc ((gr, se, ge, am, ti, tc, wa, 0, -1) : gSt) iL16).1))) := by rw [hu16st2, gup_ne (by omega), gup_ne (by omega), gup_ne (by omega), gup_ne (by omega), gup_ne (by omega)]; exact hwL16s_4
          have hu16st2_5 : u16st2 (t + 2) = some (.inl ((X.2 0), 12, .inl (upd ((adS mem av s gc ((gr, se, ge, am, ti, tc, wa, 0, -1) : gSt) iL16).2.1) ((adS mem av s gc ((gr, se, ge, am, ti, tc, wa, 0, -1) : gSt) iL16).2.2.2.2.2.1) (pickI ((adS mem av s gc ((gr, se, ge, am, ti, tc, wa, 0, -1) : gSt) iL16).2.2.2.2.2.2.2.1) (mem iL16) ((adS mem av s gc ((gr, se, ge, am, ti, tc, wa, 0, -1) : gSt) iL16).2.2.2.2.2.2.2.2))))) := by rw [hu16st2, gup_ne (by omega), gup_ne (by omega), gup_ne (by omega), gup_self]
          have hu16st2_6 : u16st2 (t + 3) = some (.inl ((X.2 0), 12, .inl (upd ((adS mem av s gc ((gr, se, ge, am, ti, tc, wa, 0, -1) : gSt) iL16).2.2.1) ((adS mem av s gc ((gr, se, ge, am, ti, tc, wa, 0, -1) : gSt) iL16).2.2.2.2.2.1) (pickI ((adS mem av s gc ((gr, se, ge, am, ti, tc, wa, 0, -1) : gSt) iL16).2.2.2.2.2.2.2.1) ((adS mem av s gc ((gr, se, ge, am, ti, tc, wa, 0, -1) : gSt) iL16).2.2.2.2.2.2.2.2) (mem iL16))))) := by rw [hu16st2, gup_ne (by omega), gup_ne (by omega), gup_self]
          have hu16st2_7 : u16st2 (t + 4) = some (.inl ((X.2 1), 12, .inr (.inl (vp_updL ((adS mem av s gc ((gr, se, ge, am, ti, tc, wa, 0, -1) : gSt) iL16).2.2.2.1) ((adS mem av s gc ((gr, se, ge, am, ti, tc, wa, 0, -1) : gSt) iL16).2.2.2.2.2.1) (pickL ((adS mem av s gc ((gr, se, ge, am, ti, tc, wa, 0, -1) : gSt) iL16).2.2.2.2.2.2.2.1)))))) := by rw [hu16st2, gup_ne (by omega), gup_self]
          have hu16st2_8 : u16st2 (t + 5) = some (.inl ((X.2 2), 12, .inl (upd ((adS mem av s gc ((gr, se, ge, am, ti, tc, wa, 0, -1) : gSt) iL16).2.2.2.2.1) ((adS mem av s gc ((gr, se, ge, am, ti, tc, wa, 0, -1) : gSt) iL16).2.2.2.2.2.1) 0))) := by rw [hu16st2, gup_self]
          show GW Z _ _ _ ad u16st2 sz [(0, .ref (ad g)), (1, .ref (ad t)), (2, .int (nI s)), (3, .long ((adS mem av s gc ((gr, se, ge, am, ti, tc, wa, 0, -1) : gSt) iL16).2.2.2.2.2.2.2.1)), (5, .int ((adS mem av s gc ((gr, se, ge, am, ti, tc, wa, 0, -1) : gSt) iL16).2.2.2.2.2.2.2.2)), (6, .int (nI iL16))] 0 0 46 []
          refine g_aload_n C d_G_addGroup_46 rfl 1 rfl ?_
          refine g_get t 0 C hu16st2_3 rfl i_S (by decide) (gmem wd_116 rfl) rfl rfl d_G_addGroup_47 ?_
          refine g_aload_n C d_G_addGroup_50 rfl 0 rfl ?_
          refine g_get g 0 C hu16st2_0 rfl i_G (by decide) (gmem wd_67 rfl) rfl rfl d_G_addGroup_51 ?_
          refine g_iload C d_G_addGroup_54 5 rfl ?_
          refine g_iald (g + 1) 0 C hu16st2_1 rfl (vp_in_nI (by omega) (by decide)) d_G_addGroup_56 ?_
          rw [show Int32.toNatClampNeg (nI iL16) = iL16 from nI_clamp (by omega)]
          refine g_aload_n C d_G_addGroup_57 rfl 1 rfl ?_
          refine g_get t 6 C hu16st2_3 rfl i_S (by decide) (gmem wd_133 rfl) rfl rfl d_G_addGroup_58 ?_
          refine g_iast (t + 1) 0 C hu16st2_4 rfl (hmem iL16 hiL16) d_G_addGroup_61 ?_
          obtain ⟨u16s3, hu16s3⟩ : ∃ z, z = gup u16st2 (t + 1) (.inl ((X.2 0), 12, .inl (upd ((adS mem av s gc ((gr, se, ge, am, ti, tc, wa, 0, -1) : gSt) iL16).1) (Int32.toNatClampNeg (mem iL16)) gc))) := ⟨_, rfl⟩
          rw [← hu16s3]
          have hu16s3_0 : u16s3 g = some (.inr (3, [.ref (ad (g + 1)), .ref (ad (g + 2)), q3, .int (nI k)])) := by rw [hu16s3, gup_ne (by omega)]; exact hu16st2_0
          have hu16s3_1 : u16s3 (g + 1) = some (.inl ((X.2 0), 12, .inl mem)) := by rw [hu16s3, gup_ne (by omega)]; exact hu16st2_1
          have hu16s3_2 : u16s3 (g + 2) = some (.inl ((X.2 1), 12, .inr (.inl av))) := by rw [hu16s3, gup_ne (by omega)]; exact hu16st2_2
          have hu16s3_3 : u16s3 t = some (.inr (4, [.ref (ad (t + 1)), .ref (ad (t + 2)), .ref (ad (t + 3)), .ref (ad (t + 4)), .ref (ad (t + 5)), .int op, .int gc, .int (nI ((adS mem av s gc ((gr, se, ge, am, ti, tc, wa, 0, -1) : gSt) iL16).2.2.2.2.2.1 + 1)), .int ((adS mem av s gc ((gr, se, ge, am, ti, tc, wa, 0, -1) : gSt) iL16).2.2.2.2.2.2.1 + 1)])) := by rw [hu16s3, gup_ne (by omega)]; exact hu16st2_3
          have hu16s3_4 : u16s3 (t + 1) = some (.inl ((X.2 0), 12, .inl (upd ((adS mem av s gc ((gr, se, ge, am, ti, tc, wa, 0, -1) : gSt) iL16).1) (Int32.toNatClampNeg (mem iL16)) gc))) := by rw [hu16s3]; exact gup_self _ _ _
          have hu16s3_5 : u16s3 (t + 2) = some (.inl ((X.2 0), 12, .inl (upd ((adS mem av s gc ((gr, se, ge, am, ti, tc, wa, 0, -1) : gSt) iL16).2.1) ((adS mem av s gc ((gr, se, ge, am, ti, tc, wa, 0, -1) : gSt) iL16).2.2.2.2.2.1) (pickI ((adS mem av s gc ((gr, se, ge, am, ti, tc, wa, 0, -1) : gSt) iL16).2.2.2.2.2.2.2.1) (mem iL16) ((adS mem av s gc ((gr, se, ge, am, ti, tc, wa, 0, -1) : gSt) iL16).2.2.2.2.2.2.2.2))))) := by rw [hu16s3, gup_ne (by omega)]; exact hu16st2_5
          have hu16s3_6 : u16s3 (t + 3) = some (.inl ((X.2 0), 12, .inl (upd ((adS mem av s gc ((gr, se, ge, am, ti, tc, wa, 0, -1) : gSt) iL16).2.2.1) ((adS mem av s gc ((gr, se, ge, am, ti, tc, wa, 0, -1) : gSt) iL16).2.2.2.2.2.1) (pickI ((adS mem av s gc ((gr, se, ge, am, ti, tc, wa, 0, -1) : gSt) iL16).2.2.2.2.2.2.2.1) ((adS mem av s gc ((gr, se, ge, am, ti, tc, wa, 0, -1) : gSt) iL16).2.2.2.2.2.2.2.2) (mem iL16))))) := by rw [hu16s3, gup_ne (by omega)]; exact hu16st2_6
          have hu16s3_7 : u16s3 (t + 4) = some (.inl ((X.2 1), 12, .inr (.inl (vp_updL ((adS mem av s gc ((gr, se, ge, am, ti, tc, wa, 0, -1) : gSt) iL16).2.2.2.1) ((adS mem av s gc ((gr, se, ge, am, ti, tc, wa, 0, -1) : gSt) iL16).2.2.2.2.2.1) (pickL ((adS mem av s gc ((gr, se, ge, am, ti, tc, wa, 0, -1) : gSt) iL16).2.2.2.2.2.2.2.1)))))) := by rw [hu16s3, gup_ne (by omega)]; exact hu16st2_7
          have hu16s3_8 : u16s3 (t + 5) = some (.inl ((X.2 2), 12, .inl (upd ((adS mem av s gc ((gr, se, ge, am, ti, tc, wa, 0, -1) : gSt) iL16).2.2.2.2.1) ((adS mem av s gc ((gr, se, ge, am, ti, tc, wa, 0, -1) : gSt) iL16).2.2.2.2.2.1) 0))) := by rw [hu16s3, gup_ne (by omega)]; exact hu16st2_8
          refine g_aload_n C d_G_addGroup_62 rfl 0 rfl ?_
          refine g_get g 0 C hu16s3_0 rfl i_G (by decide) (gmem wd_67 rfl) rfl rfl d_G_addGroup_63 ?_
          refine g_iload C d_G_addGroup_66 5 rfl ?_
          refine g_iald (g + 1) 0 C hu16s3_1 rfl (vp_in_nI (by omega) (by decide)) d_G_addGroup_68 ?_
          rw [show Int32.toNatClampNeg (nI iL16) = iL16 from nI_clamp (by omega)]
          refine g_topi (fun x16s69 ex16s69 => ?_)
          refine g_istore C d_G_addGroup_69 [(5, .int x16s69), (0, .ref (ad g)), (1, .ref (ad t)), (2, .int (nI s)), (3, .long ((adS mem av s gc ((gr, se, ge, am, ti, tc, wa, 0, -1) : gSt) iL16).2.2.2.2.2.2.2.1)), (6, .int (nI iL16))] (by decide) rfl ?_
          refine g_lload_n C d_G_addGroup_71 rfl 4 rfl ?_
          refine g_aload_n C d_G_addGroup_72 rfl 1 rfl ?_
          refine g_get g 1 C hu16s3_0 rfl i_G (by decide) (gmem wd_68 rfl) rfl rfl d_G_addGroup_73 ?_
          refine g_iload C d_G_addGroup_76 5 rfl ?_
          refine g_lald (g + 2) 1 C hu16s3_2 rfl (vp_in_nI (by omega) (by decide)) d_G_addGroup_78 ?_
          rw [show Int32.toNatClampNeg (nI iL16) = iL16 from nI_clamp (by omega)]
          refine g_ladd C d_G_addGroup_79 ?_
          refine g_topl (fun x16s80 ex16s80 => ?_)
          refine g_lstore_n C d_G_addGroup_80 rfl [(3, .long x16s80), (5, .int x16s69), (0, .ref (ad g)), (1, .ref (ad t)), (2, .int (nI s)), (6, .int (nI iL16))] (by decide) rfl ?_
          obtain ⟨x16s81, ex16s81⟩ : ∃ y : Int32, y = (nI iL16) + 1 := ⟨_, rfl⟩
          refine g_iinc (v := x16s81) C d_G_addGroup_81 5 rfl (by rw [ex16s81]; rfl) [(6, .int x16s81), (3, .long x16s80), (5, .int x16s69), (0, .ref (ad g)), (1, .ref (ad t)), (2, .int (nI s))] (by decide) rfl ?_
          refine g_goto 8 C d_G_addGroup_84 (by decide) ?_
          refine g_fewer (lv' := [(0, .ref (ad g)), (1, .ref (ad t)), (2, .int (nI s)), (3, .long x16s80), (5, .int x16s69), (6, .int x16s81)]) [3, 4, 5, 1, 2, 0] rfl ?_
          refine GW_eq (u2 := gup (gup (gup (gup (gup (gup u t (.inr (4, [.ref (ad (t + 1)), .ref (ad (t + 2)), .ref (ad (t + 3)), .ref (ad (t + 4)), .ref (ad (t + 5)), .int op, .int gc, .int (nI (adS mem av s gc ((gr, se, ge, am, ti, tc, wa, 0, -1) : gSt) (iL16 + 1)).2.2.2.2.2.1), .int ((adS mem av s gc ((gr, se, ge, am, ti, tc, wa, 0, -1) : gSt) (iL16 + 1)).2.2.2.2.2.2.1)]))) (t + 1) (.inl ((X.2 0), 12, .inl ((adS mem av s gc ((gr, se, ge, am, ti, tc, wa, 0, -1) : gSt) (iL16 + 1)).1)))) (t + 2) (.inl ((X.2 0), 12, .inl ((adS mem av s gc ((gr, se, ge, am, ti, tc, wa, 0, -1) : gSt) (iL16 + 1)).2.1)))) (t + 3) (.inl ((X.2 0), 12, .inl ((adS mem av s gc ((gr, se, ge, am, ti, tc, wa, 0, -1) : gSt) (iL16 + 1)).2.2.1)))) (t + 4) (.inl ((X.2 1), 12, .inr (.inl ((adS mem av s gc ((gr, se, ge, am, ti, tc, wa, 0, -1) : gSt) (iL16 + 1)).2.2.2.1))))) (t + 5) (.inl ((X.2 2), 12, .inl ((adS mem av s gc ((gr, se, ge, am, ti, tc, wa, 0, -1) : gSt) (iL16 + 1)).2.2.2.2.1)))) (lv2 := [(0, .ref (ad g)), (1, .ref (ad t)), (2, .int (nI s)), (3, .long ((adS mem av s gc ((gr, se, ge, am, ti, tc, wa, 0, -1) : gSt) (iL16 + 1)).2.2.2.2.2.2.2.1)), (5, .int ((adS mem av s gc ((gr, se, ge, am, ti, tc, wa, 0, -1) : gSt) (iL16 + 1)).2.2.2.2.2.2.2.2)), (6, .int (nI (iL16 + 1)))]) ?_ ?_ (KL16 trivial)
          · funext k
            by_cases hk0 : k = t
            · rw [hk0, hu16s3_3, gup_ne (by omega), gup_ne (by omega), gup_ne (by omega), gup_ne (by omega), gup_ne (by omega), gup_self] <;> (try (rw [adS_y (mt (bit0 (s := s) (i := iL16) (by omega) (by omega)).mpr c16s23) c16s29]; simp only [grS, trS, if_pos hT])) <;> (try simp only [ex16s69, ex16s80, ex16s81])
            by_cases hk1 : k = t + 1
            · rw [hk1, hu16s3_4, gup_ne (by omega), gup_ne (by omega), gup_ne (by omega), gup_ne (by omega), gup_self] <;> (try (rw [adS_y (mt (bit0 (s := s) (i := iL16) (by omega) (by omega)).mpr c16s23) c16s29]; simp only [grS, trS, if_pos hT])) <;> (try simp only [ex16s69, ex16s80, ex16s81])
            by_cases hk2 : k = t + 2
            · rw [hk2, hu16s3_5, gup_ne (by omega), gup_ne (by omega), gup_ne (by omega), gup_self] <;> (try (rw [adS_y (mt (bit0 (s := s) (i := iL16) (by omega) (by omega)).mpr c16s23) c16s29]; simp only [grS, trS, if_pos hT])) <;> (try simp only [ex16s69, ex16s80, ex16s81])
            by_cases hk3 : k = t + 3
            · rw [hk3, hu16s3_6, gup_ne (by omega), gup_ne (by omega), gup_self] <;> (try (rw [adS_y (mt (bit0 (s := s) (i := iL16) (by omega) (by omega)).mpr c16s23) c16s29]; simp only [grS, trS, if_pos hT])) <;> (try simp only [ex16s69, ex16s80, ex16s81])
            by_cases hk4 : k = t + 4
            · rw [hk4, hu16s3_7, gup_ne (by omega), gup_self] <;> (try (rw [adS_y (mt (bit0 (s := s) (i := iL16) (by omega) (by omega)).mpr c16s23) c16s29]; simp only [grS, trS, if_pos hT])) <;> (try simp only [ex16s69, ex16s80, ex16s81])
            by_cases hk5 : k = t + 5
            · rw [hk5, hu16s3_8, gup_self] <;> (try (rw [adS_y (mt (bit0 (s := s) (i := iL16) (by omega) (by omega)).mpr c16s23) c16s29]; simp only [grS, trS, if_pos hT])) <;> (try simp only [ex16s69, ex16s80, ex16s81])
            rw [hu16s3, gup_ne hk1]
            rw [hu16st2, gup_ne hk5, gup_ne hk4, gup_ne hk3, gup_ne hk2, gup_ne hk0]
            rw [hwL16s, gup_ne hk5, gup_ne hk4, gup_ne hk3, gup_ne hk2, gup_ne hk1, gup_ne hk0]
            rw [gup_ne hk5, gup_ne hk4, gup_ne hk3, gup_ne hk2, gup_ne hk1, gup_ne hk0]
          · rw [adS_y (mt (bit0 (s := s) (i := iL16) (by omega) (by omega)).mpr c16s23) c16s29]; simp only [grS, trS, if_pos hT]; simp only [ex16s69, ex16s80, ex16s81, nI_1]
        · skip
          rw [if_neg (mt (lt12N (by omega)).mp hT)] at hu16st2
          have hu16st2_0 : u16st2 g = some (.inr (3, [.ref (ad (g + 1)), .ref (ad (g + 2)), q3, .int (nI k)])) := by rw [hu16st2]; exact hwL16s_0
          have hu16st2_1 : u16st2 (g + 1) = some (.inl ((X.2 0), 12, .inl mem)) := by rw [hu16st2]; exact hwL16s_1
          have hu16st2_2 : u16st2 (g + 2) = some (.inl ((X.2 1), 12, .inr (.inl av))) := by rw [hu16st2]; exact hwL16s_2
          have hu16st2_3 : u16st2 t = some (.inr (4, [.ref (ad (t + 1)), .ref (ad (t + 2)), .ref (ad (t + 3)), .ref (ad (t + 4)), .ref (ad (t + 5)), .int op, .int gc, .int (nI (adS mem av s gc ((gr, se, ge, am, ti, tc, wa, 0, -1) : gSt) iL16).2.2.2.2.2.1), .int ((adS mem av s gc ((gr, se, ge, am, ti, tc, wa, 0, -1) : gSt) iL16).2.2.2.2.2.2.1)])) := by rw [hu16st2]; exact hwL16s_3
          have hu16st2_4 : u16st2 (t + 1) = some (.inl ((X.2 0), 12, .inl ((adS mem av s gc ((gr, se, ge, am, ti, tc, wa, 0, -1) : gSt) iL16).1))) := by rw [hu16st2]; exact hwL16s_4
          have hu16st2_5 : u16st2 (t + 2) = some (.inl ((X.2 0), 12, .inl ((adS mem av s gc ((gr, se, ge, am, ti, tc, wa, 0, -1) : gSt) iL16).2.1))) := by rw [hu16st2]; exact hwL16s_5
          have hu16st2_6 : u16st2 (t + 3) = some (.inl ((X.2 0), 12, .inl ((adS mem av s gc ((gr, se, ge, am, ti, tc, wa, 0, -1) : gSt) iL16).2.2.1))) := by rw [hu16st2]; exact hwL16s_6
          have hu16st2_7 : u16st2 (t + 4) = some (.inl ((X.2 1), 12, .inr (.inl ((adS mem av s gc ((gr, se, ge, am, ti, tc, wa, 0, -1) : gSt) iL16).2.2.2.1)))) := by rw [hu16st2]; exact hwL16s_7
          have hu16st2_8 : u16st2 (t + 5) = some (.inl ((X.2 2), 12, .inl ((adS mem av s gc ((gr, se, ge, am, ti, tc, wa, 0, -1) : gSt) iL16).2.2.2.2.1))) := by rw [hu16st2]; exact hwL16s_8
          show GW Z _ _ _ ad u16st2 sz [(0, .ref (ad g)), (1, .ref (ad t)), (2, .int (nI s)), (3, .long ((adS mem av s gc ((gr, se, ge, am, ti, tc, wa, 0, -1) : gSt) iL16).2.2.2.2.2.2.2.1)), (5, .int ((adS mem av s gc ((gr, se, ge, am, ti, tc, wa, 0, -1) : gSt) iL16).2.2.2.2.2.2.2.2)), (6, .int (nI iL16))] 0 0 46 []
          refine g_aload_n C d_G_addGroup_46 rfl 1 rfl ?_
          refine g_get t 0 C hu16st2_3 rfl i_S (by decide) (gmem wd_116 rfl) rfl rfl d_G_addGroup_47 ?_
          refine g_aload_n C d_G_addGroup_50 rfl 0 rfl ?_
          refine g_get g 0 C hu16st2_0 rfl i_G (by decide) (gmem wd_67 rfl) rfl rfl d_G_addGroup_51 ?_
          refine g_iload C d_G_addGroup_54 5 rfl ?_
          refine g_iald (g + 1) 0 C hu16st2_1 rfl (vp_in_nI (by omega) (by decide)) d_G_addGroup_56 ?_
          rw [show Int32.toNatClampNeg (nI iL16) = iL16 from nI_clamp (by omega)]
          refine g_aload_n C d_G_addGroup_57 rfl 1 rfl ?_
          refine g_get t 6 C hu16st2_3 rfl i_S (by decide) (gmem wd_133 rfl) rfl rfl d_G_addGroup_58 ?_
          refine g_iast (t + 1) 0 C hu16st2_4 rfl (hmem iL16 hiL16) d_G_addGroup_61 ?_
          obtain ⟨u16s4, hu16s4⟩ : ∃ z, z = gup u16st2 (t + 1) (.inl ((X.2 0), 12, .inl (upd ((adS mem av s gc ((gr, se, ge, am, ti, tc, wa, 0, -1) : gSt) iL16).1) (Int32.toNatClampNeg (mem iL16)) gc))) := ⟨_, rfl⟩
          rw [← hu16s4]
          have hu16s4_0 : u16s4 g = some (.inr (3, [.ref (ad (g + 1)), .ref (ad (g + 2)), q3, .int (nI k)])) := by rw [hu16s4, gup_ne (by omega)]; exact hu16st2_0
          have hu16s4_1 : u16s4 (g + 1) = some (.inl ((X.2 0), 12, .inl mem)) := by rw [hu16s4, gup_ne (by omega)]; exact hu16st2_1
          have hu16s4_2 : u16s4 (g + 2) = some (.inl ((X.2 1), 12, .inr (.inl av))) := by rw [hu16s4, gup_ne (by omega)]; exact hu16st2_2
          have hu16s4_3 : u16s4 t = some (.inr (4, [.ref (ad (t + 1)), .ref (ad (t + 2)), .ref (ad (t + 3)), .ref (ad (t + 4)), .ref (ad (t + 5)), .int op, .int gc, .int (nI (adS mem av s gc ((gr, se, ge, am, ti, tc, wa, 0, -1) : gSt) iL16).2.2.2.2.2.1), .int ((adS mem av s gc ((gr, se, ge, am, ti, tc, wa, 0, -1) : gSt) iL16).2.2.2.2.2.2.1)])) := by rw [hu16s4, gup_ne (by omega)]; exact hu16st2_3
          have hu16s4_4 : u16s4 (t + 1) = some (.inl ((X.2 0), 12, .inl (upd ((adS mem av s gc ((gr, se, ge, am, ti, tc, wa, 0, -1) : gSt) iL16).1) (Int32.toNatClampNeg (mem iL16)) gc))) := by rw [hu16s4]; exact gup_self _ _ _
          have hu16s4_5 : u16s4 (t + 2) = some (.inl ((X.2 0), 12, .inl ((adS mem av s gc ((gr, se, ge, am, ti, tc, wa, 0, -1) : gSt) iL16).2.1))) := by rw [hu16s4, gup_ne (by omega)]; exact hu16st2_5
          have hu16s4_6 : u16s4 (t + 3) = some (.inl ((X.2 0), 12, .inl ((adS mem av s gc ((gr, se, ge, am, ti, tc, wa, 0, -1) : gSt) iL16).2.2.1))) := by rw [hu16s4, gup_ne (by omega)]; exact hu16st2_6
          have hu16s4_7 : u16s4 (t + 4) = some (.inl ((X.2 1), 12, .inr (.inl ((adS mem av s gc ((gr, se, ge, am, ti, tc, wa, 0, -1) : gSt) iL16).2.2.2.1)))) := by rw [hu16s4, gup_ne (by omega)]; exact hu16st2_7
          have hu16s4_8 : u16s4 (t + 5) = some (.inl ((X.2 2), 12, .inl ((adS mem av s gc ((gr, se, ge, am, ti, tc, wa, 0, -1) : gSt) iL16).2.2.2.2.1))) := by rw [hu16s4, gup_ne (by omega)]; exact hu16st2_8
          refine g_aload_n C d_G_addGroup_62 rfl 0 rfl ?_
          refine g_get g 0 C hu16s4_0 rfl i_G (by decide) (gmem wd_67 rfl) rfl rfl d_G_addGroup_63 ?_
          refine g_iload C d_G_addGroup_66 5 rfl ?_
          refine g_iald (g + 1) 0 C hu16s4_1 rfl (vp_in_nI (by omega) (by decide)) d_G_addGroup_68 ?_
          rw [show Int32.toNatClampNeg (nI iL16) = iL16 from nI_clamp (by omega)]
          refine g_topi (fun x16s69 ex16s69 => ?_)
          refine g_istore C d_G_addGroup_69 [(5, .int x16s69), (0, .ref (ad g)), (1, .ref (ad t)), (2, .int (nI s)), (3, .long ((adS mem av s gc ((gr, se, ge, am, ti, tc, wa, 0, -1) : gSt) iL16).2.2.2.2.2.2.2.1)), (6, .int (nI iL16))] (by decide) rfl ?_
          refine g_lload_n C d_G_addGroup_71 rfl 4 rfl ?_
          refine g_aload_n C d_G_addGroup_72 rfl 1 rfl ?_
          refine g_get g 1 C hu16s4_0 rfl i_G (by decide) (gmem wd_68 rfl) rfl rfl d_G_addGroup_73 ?_
          refine g_iload C d_G_addGroup_76 5 rfl ?_
          refine g_lald (g + 2) 1 C hu16s4_2 rfl (vp_in_nI (by omega) (by decide)) d_G_addGroup_78 ?_
          rw [show Int32.toNatClampNeg (nI iL16) = iL16 from nI_clamp (by omega)]
          refine g_ladd C d_G_addGroup_79 ?_
          refine g_topl (fun x16s80 ex16s80 => ?_)
          refine g_lstore_n C d_G_addGroup_80 rfl [(3, .long x16s80), (5, .int x16s69), (0, .ref (ad g)), (1, .ref (ad t)), (2, .int (nI s)), (6, .int (nI iL16))] (by decide) rfl ?_
          obtain ⟨x16s81, ex16s81⟩ : ∃ y : Int32, y = (nI iL16) + 1 := ⟨_, rfl⟩
          refine g_iinc (v := x16s81) C d_G_addGroup_81 5 rfl (by rw [ex16s81]; rfl) [(6, .int x16s81), (3, .long x16s80), (5, .int x16s69), (0, .ref (ad g)), (1, .ref (ad t)), (2, .int (nI s))] (by decide) rfl ?_
          refine g_goto 8 C d_G_addGroup_84 (by decide) ?_
          refine g_fewer (lv' := [(0, .ref (ad g)), (1, .ref (ad t)), (2, .int (nI s)), (3, .long x16s80), (5, .int x16s69), (6, .int x16s81)]) [3, 4, 5, 1, 2, 0] rfl ?_
          refine GW_eq (u2 := gup (gup (gup (gup (gup (gup u t (.inr (4, [.ref (ad (t + 1)), .ref (ad (t + 2)), .ref (ad (t + 3)), .ref (ad (t + 4)), .ref (ad (t + 5)), .int op, .int gc, .int (nI (adS mem av s gc ((gr, se, ge, am, ti, tc, wa, 0, -1) : gSt) (iL16 + 1)).2.2.2.2.2.1), .int ((adS mem av s gc ((gr, se, ge, am, ti, tc, wa, 0, -1) : gSt) (iL16 + 1)).2.2.2.2.2.2.1)]))) (t + 1) (.inl ((X.2 0), 12, .inl ((adS mem av s gc ((gr, se, ge, am, ti, tc, wa, 0, -1) : gSt) (iL16 + 1)).1)))) (t + 2) (.inl ((X.2 0), 12, .inl ((adS mem av s gc ((gr, se, ge, am, ti, tc, wa, 0, -1) : gSt) (iL16 + 1)).2.1)))) (t + 3) (.inl ((X.2 0), 12, .inl ((adS mem av s gc ((gr, se, ge, am, ti, tc, wa, 0, -1) : gSt) (iL16 + 1)).2.2.1)))) (t + 4) (.inl ((X.2 1), 12, .inr (.inl ((adS mem av s gc ((gr, se, ge, am, ti, tc, wa, 0, -1) : gSt) (iL16 + 1)).2.2.2.1))))) (t + 5) (.inl ((X.2 2), 12, .inl ((adS mem av s gc ((gr, se, ge, am, ti, tc, wa, 0, -1) : gSt) (iL16 + 1)).2.2.2.2.1)))) (lv2 := [(0, .ref (ad g)), (1, .ref (ad t)), (2, .int (nI s)), (3, .long ((adS mem av s gc ((gr, se, ge, am, ti, tc, wa, 0, -1) : gSt) (iL16 + 1)).2.2.2.2.2.2.2.1)), (5, .int ((adS mem av s gc ((gr, se, ge, am, ti, tc, wa, 0, -1) : gSt) (iL16 + 1)).2.2.2.2.2.2.2.2)), (6, .int (nI (iL16 + 1)))]) ?_ ?_ (KL16 trivial)
          · funext k
            by_cases hk0 : k = t
            · rw [hk0, hu16s4_3, gup_ne (by omega), gup_ne (by omega), gup_ne (by omega), gup_ne (by omega), gup_ne (by omega), gup_self] <;> (try (rw [adS_y (mt (bit0 (s := s) (i := iL16) (by omega) (by omega)).mpr c16s23) c16s29]; simp only [grS, trS, if_neg hT])) <;> (try simp only [ex16s69, ex16s80, ex16s81])
            by_cases hk1 : k = t + 1
            · rw [hk1, hu16s4_4, gup_ne (by omega), gup_ne (by omega), gup_ne (by omega), gup_ne (by omega), gup_self] <;> (try (rw [adS_y (mt (bit0 (s := s) (i := iL16) (by omega) (by omega)).mpr c16s23) c16s29]; simp only [grS, trS, if_neg hT])) <;> (try simp only [ex16s69, ex16s80, ex16s81])
            by_cases hk2 : k = t + 2
            · rw [hk2, hu16s4_5, gup_ne (by omega), gup_ne (by omega), gup_ne (by omega), gup_self] <;> (try (rw [adS_y (mt (bit0 (s := s) (i := iL16) (by omega) (by omega)).mpr c16s23) c16s29]; simp only [grS, trS, if_neg hT])) <;> (try simp only [ex16s69, ex16s80, ex16s81])
            by_cases hk3 : k = t + 3
            · rw [hk3, hu16s4_6, gup_ne (by omega), gup_ne (by omega), gup_self] <;> (try (rw [adS_y (mt (bit0 (s := s) (i := iL16) (by omega) (by omega)).mpr c16s23) c16s29]; simp only [grS, trS, if_neg hT])) <;> (try simp only [ex16s69, ex16s80, ex16s81])
            by_cases hk4 : k = t + 4
            · rw [hk4, hu16s4_7, gup_ne (by omega), gup_self] <;> (try (rw [adS_y (mt (bit0 (s := s) (i := iL16) (by omega) (by omega)).mpr c16s23) c16s29]; simp only [grS, trS, if_neg hT])) <;> (try simp only [ex16s69, ex16s80, ex16s81])
            by_cases hk5 : k = t + 5
            · rw [hk5, hu16s4_8, gup_self] <;> (try (rw [adS_y (mt (bit0 (s := s) (i := iL16) (by omega) (by omega)).mpr c16s23) c16s29]; simp only [grS, trS, if_neg hT])) <;> (try simp only [ex16s69, ex16s80, ex16s81])
            rw [hu16s4, gup_ne hk1]
            rw [hu16st2]
            rw [hwL16s, gup_ne hk5, gup_ne hk4, gup_ne hk3, gup_ne hk2, gup_ne hk1, gup_ne hk0]
            rw [gup_ne hk5, gup_ne hk4, gup_ne hk3, gup_ne hk2, gup_ne hk1, gup_ne hk0]
          · rw [adS_y (mt (bit0 (s := s) (i := iL16) (by omega) (by omega)).mpr c16s23) c16s29]; simp only [grS, trS, if_neg hT]; simp only [ex16s69, ex16s80, ex16s81, nI_1]
  · skip
    show GW Z _ _ _ ad (gup (gup (gup (gup (gup (gup u t (.inr (4, [.ref (ad (t + 1)), .ref (ad (t + 2)), .ref (ad (t + 3)), .ref (ad (t + 4)), .ref (ad (t + 5)), .int op, .int gc, .int (nI (adS mem av s gc ((gr, se, ge, am, ti, tc, wa, 0, -1) : gSt) k).2.2.2.2.2.1), .int ((adS mem av s gc ((gr, se, ge, am, ti, tc, wa, 0, -1) : gSt) k).2.2.2.2.2.2.1)]))) (t + 1) (.inl ((X.2 0), 12, .inl ((adS mem av s gc ((gr, se, ge, am, ti, tc, wa, 0, -1) : gSt) k).1)))) (t + 2) (.inl ((X.2 0), 12, .inl ((adS mem av s gc ((gr, se, ge, am, ti, tc, wa, 0, -1) : gSt) k).2.1)))) (t + 3) (.inl ((X.2 0), 12, .inl ((adS mem av s gc ((gr, se, ge, am, ti, tc, wa, 0, -1) : gSt) k).2.2.1)))) (t + 4) (.inl ((X.2 1), 12, .inr (.inl ((adS mem av s gc ((gr, se, ge, am, ti, tc, wa, 0, -1) : gSt) k).2.2.2.1))))) (t + 5) (.inl ((X.2 2), 12, .inl ((adS mem av s gc ((gr, se, ge, am, ti, tc, wa, 0, -1) : gSt) k).2.2.2.2.1)))) _ [(0, .ref (ad g)), (1, .ref (ad t)), (2, .int (nI s)), (3, .long ((adS mem av s gc ((gr, se, ge, am, ti, tc, wa, 0, -1) : gSt) k).2.2.2.2.2.2.2.1)), (5, .int ((adS mem av s gc ((gr, se, ge, am, ti, tc, wa, 0, -1) : gSt) k).2.2.2.2.2.2.2.2)), (6, .int (nI k))] _ _ 8 []
    obtain ⟨wL16e, hwL16e⟩ : ∃ z, z = gup (gup (gup (gup (gup (gup u t (.inr (4, [.ref (ad (t + 1)), .ref (ad (t + 2)), .ref (ad (t + 3)), .ref (ad (t + 4)), .ref (ad (t + 5)), .int op, .int gc, .int (nI (adS mem av s gc ((gr, se, ge, am, ti, tc, wa, 0, -1) : gSt) k).2.2.2.2.2.1), .int ((adS mem av s gc ((gr, se, ge, am, ti, tc, wa, 0, -1) : gSt) k).2.2.2.2.2.2.1)]))) (t + 1) (.inl ((X.2 0), 12, .inl ((adS mem av s gc ((gr, se, ge, am, ti, tc, wa, 0, -1) : gSt) k).1)))) (t + 2) (.inl ((X.2 0), 12, .inl ((adS mem av s gc ((gr, se, ge, am, ti, tc, wa, 0, -1) : gSt) k).2.1)))) (t + 3) (.inl ((X.2 0), 12, .inl ((adS mem av s gc ((gr, se, ge, am, ti, tc, wa, 0, -1) : gSt) k).2.2.1)))) (t + 4) (.inl ((X.2 1), 12, .inr (.inl ((adS mem av s gc ((gr, se, ge, am, ti, tc, wa, 0, -1) : gSt) k).2.2.2.1))))) (t + 5) (.inl ((X.2 2), 12, .inl ((adS mem av s gc ((gr, se, ge, am, ti, tc, wa, 0, -1) : gSt) k).2.2.2.2.1))) := ⟨_, rfl⟩
    rw [← hwL16e]
    have hwL16e_0 : wL16e g = some (.inr (3, [.ref (ad (g + 1)), .ref (ad (g + 2)), q3, .int (nI k)])) := by rw [hwL16e, gup_ne (by omega), gup_ne (by omega), gup_ne (by omega), gup_ne (by omega), gup_ne (by omega), gup_ne (by omega)]; exact hg
    have hwL16e_1 : wL16e (g + 1) = some (.inl ((X.2 0), 12, .inl mem)) := by rw [hwL16e, gup_ne (by omega), gup_ne (by omega), gup_ne (by omega), gup_ne (by omega), gup_ne (by omega), gup_ne (by omega)]; exact hg1
    have hwL16e_2 : wL16e (g + 2) = some (.inl ((X.2 1), 12, .inr (.inl av))) := by rw [hwL16e, gup_ne (by omega), gup_ne (by omega), gup_ne (by omega), gup_ne (by omega), gup_ne (by omega), gup_ne (by omega)]; exact hg2
    have hwL16e_3 : wL16e t = some (.inr (4, [.ref (ad (t + 1)), .ref (ad (t + 2)), .ref (ad (t + 3)), .ref (ad (t + 4)), .ref (ad (t + 5)), .int op, .int gc, .int (nI (adS mem av s gc ((gr, se, ge, am, ti, tc, wa, 0, -1) : gSt) k).2.2.2.2.2.1), .int ((adS mem av s gc ((gr, se, ge, am, ti, tc, wa, 0, -1) : gSt) k).2.2.2.2.2.2.1)])) := by rw [hwL16e, gup_ne (by omega), gup_ne (by omega), gup_ne (by omega), gup_ne (by omega), gup_ne (by omega), gup_self]
    have hwL16e_4 : wL16e (t + 1) = some (.inl ((X.2 0), 12, .inl ((adS mem av s gc ((gr, se, ge, am, ti, tc, wa, 0, -1) : gSt) k).1))) := by rw [hwL16e, gup_ne (by omega), gup_ne (by omega), gup_ne (by omega), gup_ne (by omega), gup_self]
    have hwL16e_5 : wL16e (t + 2) = some (.inl ((X.2 0), 12, .inl ((adS mem av s gc ((gr, se, ge, am, ti, tc, wa, 0, -1) : gSt) k).2.1))) := by rw [hwL16e, gup_ne (by omega), gup_ne (by omega), gup_ne (by omega), gup_self]
    have hwL16e_6 : wL16e (t + 3) = some (.inl ((X.2 0), 12, .inl ((adS mem av s gc ((gr, se, ge, am, ti, tc, wa, 0, -1) : gSt) k).2.2.1))) := by rw [hwL16e, gup_ne (by omega), gup_ne (by omega), gup_self]
    have hwL16e_7 : wL16e (t + 4) = some (.inl ((X.2 1), 12, .inr (.inl ((adS mem av s gc ((gr, se, ge, am, ti, tc, wa, 0, -1) : gSt) k).2.2.2.1)))) := by rw [hwL16e, gup_ne (by omega), gup_self]
    have hwL16e_8 : wL16e (t + 5) = some (.inl ((X.2 2), 12, .inl ((adS mem av s gc ((gr, se, ge, am, ti, tc, wa, 0, -1) : gSt) k).2.2.2.2.1))) := by rw [hwL16e, gup_self]
    refine g_iload C d_G_addGroup_8 5 rfl ?_
    refine g_aload_n C d_G_addGroup_10 rfl 0 rfl ?_
    refine g_get g 3 C hwL16e_0 rfl i_G (by decide) (gmem wd_70 rfl) rfl rfl d_G_addGroup_11 ?_
    refine g_icmp_ge 87 C d_G_addGroup_14 (by decide) (fun c16e14 => ?_) (fun c16e14 => ?_)
    rotate_left
    · exact absurd (Int32.le_refl _) c16e14
    refine g_aload_n C d_G_addGroup_87 rfl 1 rfl ?_
    refine g_dup C d_G_addGroup_88 rfl ?_
    refine g_get t 6 C hwL16e_3 rfl i_S (by decide) (gmem wd_133 rfl) rfl rfl d_G_addGroup_89 ?_
    refine g_iconst (v := 1) C d_G_addGroup_92 (by decide) ?_
    refine g_iadd C d_G_addGroup_93 ?_
    refine g_topi (fun x16e94 ex16e94 => ?_)
    refine g_put t 6 C hwL16e_3 rfl i_S t_S t_S_ok n_S (by decide) (gmem wd_133 rfl) rfl rfl rfl rfl (Nat.le_of_ble_eq_true rfl) d_G_addGroup_94 ?_
    show GW Z _ _ _ ad (gup wL16e t (.inr (4, [.ref (ad (t + 1)), .ref (ad (t + 2)), .ref (ad (t + 3)), .ref (ad (t + 4)), .ref (ad (t + 5)), .int op, .int x16e94, .int (nI (adS mem av s gc ((gr, se, ge, am, ti, tc, wa, 0, -1) : gSt) k).2.2.2.2.2.1), .int ((adS mem av s gc ((gr, se, ge, am, ti, tc, wa, 0, -1) : gSt) k).2.2.2.2.2.2.1)]))) _ _ _ _ _ _
    obtain ⟨u16e5, hu16e5⟩ : ∃ z, z = gup wL16e t (.inr (4, [.ref (ad (t + 1)), .ref (ad (t + 2)), .ref (ad (t + 3)), .ref (ad (t + 4)), .ref (ad (t + 5)), .int op, .int x16e94, .int (nI (adS mem av s gc ((gr, se, ge, am, ti, tc, wa, 0, -1) : gSt) k).2.2.2.2.2.1), .int ((adS mem av s gc ((gr, se, ge, am, ti, tc, wa, 0, -1) : gSt) k).2.2.2.2.2.2.1)])) := ⟨_, rfl⟩
    rw [← hu16e5]
    have hu16e5_0 : u16e5 g = some (.inr (3, [.ref (ad (g + 1)), .ref (ad (g + 2)), q3, .int (nI k)])) := by rw [hu16e5, gup_ne (by omega)]; exact hwL16e_0
    have hu16e5_1 : u16e5 (g + 1) = some (.inl ((X.2 0), 12, .inl mem)) := by rw [hu16e5, gup_ne (by omega)]; exact hwL16e_1
    have hu16e5_2 : u16e5 (g + 2) = some (.inl ((X.2 1), 12, .inr (.inl av))) := by rw [hu16e5, gup_ne (by omega)]; exact hwL16e_2
    have hu16e5_3 : u16e5 t = some (.inr (4, [.ref (ad (t + 1)), .ref (ad (t + 2)), .ref (ad (t + 3)), .ref (ad (t + 4)), .ref (ad (t + 5)), .int op, .int x16e94, .int (nI (adS mem av s gc ((gr, se, ge, am, ti, tc, wa, 0, -1) : gSt) k).2.2.2.2.2.1), .int ((adS mem av s gc ((gr, se, ge, am, ti, tc, wa, 0, -1) : gSt) k).2.2.2.2.2.2.1)])) := by rw [hu16e5]; exact gup_self _ _ _
    have hu16e5_4 : u16e5 (t + 1) = some (.inl ((X.2 0), 12, .inl ((adS mem av s gc ((gr, se, ge, am, ti, tc, wa, 0, -1) : gSt) k).1))) := by rw [hu16e5, gup_ne (by omega)]; exact hwL16e_4
    have hu16e5_5 : u16e5 (t + 2) = some (.inl ((X.2 0), 12, .inl ((adS mem av s gc ((gr, se, ge, am, ti, tc, wa, 0, -1) : gSt) k).2.1))) := by rw [hu16e5, gup_ne (by omega)]; exact hwL16e_5
    have hu16e5_6 : u16e5 (t + 3) = some (.inl ((X.2 0), 12, .inl ((adS mem av s gc ((gr, se, ge, am, ti, tc, wa, 0, -1) : gSt) k).2.2.1))) := by rw [hu16e5, gup_ne (by omega)]; exact hwL16e_6
    have hu16e5_7 : u16e5 (t + 4) = some (.inl ((X.2 1), 12, .inr (.inl ((adS mem av s gc ((gr, se, ge, am, ti, tc, wa, 0, -1) : gSt) k).2.2.2.1)))) := by rw [hu16e5, gup_ne (by omega)]; exact hwL16e_7
    have hu16e5_8 : u16e5 (t + 5) = some (.inl ((X.2 2), 12, .inl ((adS mem av s gc ((gr, se, ge, am, ti, tc, wa, 0, -1) : gSt) k).2.2.2.2.1))) := by rw [hu16e5, gup_ne (by omega)]; exact hwL16e_8
    have hfin16e6 : u16e5 = gup (gup (gup (gup (gup (gup u t (.inr (4, [.ref (ad (t + 1)), .ref (ad (t + 2)), .ref (ad (t + 3)), .ref (ad (t + 4)), .ref (ad (t + 5)), .int op, .int (gc + 1), .int (nI (adS mem av s gc ((gr, se, ge, am, ti, tc, wa, 0, -1) : gSt) k).2.2.2.2.2.1), .int ((adS mem av s gc ((gr, se, ge, am, ti, tc, wa, 0, -1) : gSt) k).2.2.2.2.2.2.1)]))) (t + 1) (.inl ((X.2 0), 12, .inl ((adS mem av s gc ((gr, se, ge, am, ti, tc, wa, 0, -1) : gSt) k).1)))) (t + 2) (.inl ((X.2 0), 12, .inl ((adS mem av s gc ((gr, se, ge, am, ti, tc, wa, 0, -1) : gSt) k).2.1)))) (t + 3) (.inl ((X.2 0), 12, .inl ((adS mem av s gc ((gr, se, ge, am, ti, tc, wa, 0, -1) : gSt) k).2.2.1)))) (t + 4) (.inl ((X.2 1), 12, .inr (.inl ((adS mem av s gc ((gr, se, ge, am, ti, tc, wa, 0, -1) : gSt) k).2.2.2.1))))) (t + 5) (.inl ((X.2 2), 12, .inl ((adS mem av s gc ((gr, se, ge, am, ti, tc, wa, 0, -1) : gSt) k).2.2.2.2.1))) := by
      funext k
      by_cases hk0 : k = t
      · rw [hk0, hu16e5_3, gup_ne (by omega), gup_ne (by omega), gup_ne (by omega), gup_ne (by omega), gup_ne (by omega), gup_self] <;> (try simp only [ex16e94])
      by_cases hk1 : k = t + 1
      · rw [hk1, hu16e5_4, gup_ne (by omega), gup_ne (by omega), gup_ne (by omega), gup_ne (by omega), gup_self] <;> (try simp only [ex16e94])
      by_cases hk2 : k = t + 2
      · rw [hk2, hu16e5_5, gup_ne (by omega), gup_ne (by omega), gup_ne (by omega), gup_self] <;> (try simp only [ex16e94])
      by_cases hk3 : k = t + 3
      · rw [hk3, hu16e5_6, gup_ne (by omega), gup_ne (by omega), gup_self] <;> (try simp only [ex16e94])
      by_cases hk4 : k = t + 4
      · rw [hk4, hu16e5_7, gup_ne (by omega), gup_self] <;> (try simp only [ex16e94])
      by_cases hk5 : k = t + 5
      · rw [hk5, hu16e5_8, gup_self] <;> (try simp only [ex16e94])
      rw [hu16e5, gup_ne hk0]
      rw [hwL16e, gup_ne hk5, gup_ne hk4, gup_ne hk3, gup_ne hk2, gup_ne hk1, gup_ne hk0]
      rw [gup_ne hk5, gup_ne hk4, gup_ne hk3, gup_ne hk2, gup_ne hk1, gup_ne hk0]
    exact g_vret C hR hret ⟨rfl, hfin16e6, rfl⟩ d_G_addGroup_97
