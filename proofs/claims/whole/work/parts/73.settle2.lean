/-! settle, the program's side -/
def inS (x : gSt) : Prop := (∀ q, vp_in (x.2.1 q) 12) ∧ ∀ q, vp_in (x.2.2.1 q) 12
theorem mvS_in {bal : Nat → Int64} {c s : Nat} {gc : Int32} {x : gSt} (h : inS x) (hb : x.2.2.2.2.2.2.2.2 = -1) (i : Nat) (hi : i ≤ 12) : inS (mvS bal c s gc x i) ∧ ((mvS bal c s gc x i).2.2.2.2.2.2.2.2 = -1 ∨ vp_in (mvS bal c s gc x i).2.2.2.2.2.2.2.2 12) := by
  induction i with
  | zero => exact ⟨h, Or.inl hb⟩
  | succ i ih =>
    obtain ⟨i1, i2⟩ := ih (by omega)
    by_cases ht : s.testBit i = true
    · by_cases h1 : (mvS bal c s gc x i).2.2.2.2.2.2.2.2 = -1
      · rw [mvS_n ht h1]; exact ⟨i1, Or.inr (in12 (by omega))⟩
      · rw [mvS_y ht h1]
        have hbe := i2.resolve_left h1
        refine ⟨⟨fun q => ?_, fun q => ?_⟩, Or.inr (in12 (by omega))⟩
        · show vp_in (upd (mvS bal c s gc x i).2.1 (11 * c + (mvS bal c s gc x i).2.2.2.2.2.1) (pickI (mvS bal c s gc x i).2.2.2.2.2.2.2.1 (nI i) (mvS bal c s gc x i).2.2.2.2.2.2.2.2) q) 12
          by_cases e : q = 11 * c + (mvS bal c s gc x i).2.2.2.2.2.1
          · rw [e, upd_s]; exact pickI_in (in12 (by omega)) hbe
          · rw [upd_o e]; exact i1.1 q
        · show vp_in (upd (mvS bal c s gc x i).2.2.1 (11 * c + (mvS bal c s gc x i).2.2.2.2.2.1) (pickI (mvS bal c s gc x i).2.2.2.2.2.2.2.1 (mvS bal c s gc x i).2.2.2.2.2.2.2.2 (nI i)) q) 12
          by_cases e : q = 11 * c + (mvS bal c s gc x i).2.2.2.2.2.1
          · rw [e, upd_s]; exact pickI_in hbe (in12 (by omega))
          · rw [upd_o e]; exact i1.2 q
    · rw [mvS_f ht]; exact ⟨i1, i2⟩
theorem seS_in {bal wgh : Nat → Int64} {mst : Nat → Int32} {c a : Nat} {x : gSt} (h : inS x) (i : Nat) : inS (seS bal wgh mst c a x i).2.2 := by
  induction i with
  | zero => exact h
  | succ i ih =>
    by_cases h0 : (seS bal wgh mst c a x i).1 = 0
    · rw [seS_z h0]; exact ih
    · rw [seS_n h0]; exact (mvS_in (x := rzS (seS bal wgh mst c a x i).2.2) ih rfl 12 (Nat.le_refl _)).1
theorem seS_11 {bal wgh : Nat → Int64} {mst : Nat → Int32} {c a : Nat} {x : gSt} (ha : a < 2 ^ 12) (hx : x.2.2.2.2.2.1 = 0) (i : Nat) : (seS bal wgh mst c a x i).2.2.2.2.2.2.2.1 = 0 ∨ (seS bal wgh mst c a x i).2.2.2.2.2.2.2.1 + cntB (seS bal wgh mst c a x i).1 12 ≤ 11 := by
  induction i with
  | zero => exact Or.inl hx
  | succ i ih =>
    by_cases h : (seS bal wgh mst c a x i).1 = 0
    · rw [seS_z h]; exact ih
    · rw [seS_n h]
      have h1 := cntB_mns (a := (seS bal wgh mst c a x i).1) (b := lgN wgh mst (seS bal wgh mst c a x i).1) lgN_sub 12
      have hlt := seS_lt (bal := bal) (wgh := wgh) (mst := mst) (c := c) (x := x) ha i
      have h2 : 0 < cntB (lgN wgh mst (seS bal wgh mst c a x i).1) 12 := cnt_pos (Nat.lt_of_le_of_lt lgN_le hlt) fun e => by
        have := lgN_low (wgh := wgh) (mst := mst) h hlt
        rw [e, Nat.zero_testBit] at this; cases this
      have h4 := seS_be (bal := bal) (wgh := wgh) (mst := mst) (c := c) (a := a) hx i
      rcases mvS_cnt (bal := bal) (c := c) (s := lgN wgh mst (seS bal wgh mst c a x i).1) (gc := (seS bal wgh mst c a x i).2.1) (x := rzS (seS bal wgh mst c a x i).2.2) rfl 12 (Nat.le_refl _) with ⟨_, h3, _⟩ | ⟨_, h3⟩
      · omega
      · have h5 : (rzS (seS bal wgh mst c a x i).2.2).2.2.2.2.2.1 = (seS bal wgh mst c a x i).2.2.2.2.2.2.2.1 := rfl
        right
        show (mvS bal c _ _ (rzS (seS bal wgh mst c a x i).2.2) 12).2.2.2.2.2.1 + cntB (mns _ _) 12 ≤ 11
        omega
theorem untS_all {f : Nat → Int32} {k : Nat} (t : Nat) (h : ∀ j, j < t → f (11 * k + j) = 0) : untS f k t = nI t := by
  induction t with
  | zero => rfl
  | succ t ih => rw [untS, ih fun j hj => h j (by omega), h t (by omega), if_pos rfl, nI_1]
def bfM (M : mM) (c : Int32) : Nat → Int64 := fun x => balM (M.1 1) (M.2.1 1) (M.2.1 9) (M.2.1 11) (M.2.2 13) (M.2.2 12) (M.2.2 15) (nbM M) c (nI x)
def wgM (M : mM) (c : Int32) : Nat → Int64 := weiR (bfM M c) (M.2.2 24) 4095
def msM (M : mM) (c : Int32) : Nat → Int32 := dvS (wgM M c) (M.2.1 25) 4095
def y0M (M : mM) (c : Int32) : gSt := (fillO (M.2.1 18) (12 * c.toNatClampNeg) 12 (-1), M.2.1 20, M.2.1 21, M.2.2 22, M.2.1 23, 0, 0, 0, -1)
noncomputable def seM (M : mM) (c : Int32) : Nat × Int32 × gSt := seS (bfM M c) (wgM M c) (msM M c) c.toNatClampNeg (maskB (bfM M c) 12) (y0M M c) 12
theorem y0M_in {M : mM} {c : Int32} (h1 : ∀ j, vp_in (M.2.1 20 j) 12) (h2 : ∀ j, vp_in (M.2.1 21 j) 12) : inS (y0M M c) := ⟨h1, h2⟩
theorem y0M_tc {M : mM} {c : Int32} : (y0M M c).2.2.2.2.2.1 = 0 := rfl
theorem seM_in {M : mM} {c : Int32} (h1 : ∀ j, vp_in (M.2.1 20 j) 12) (h2 : ∀ j, vp_in (M.2.1 21 j) 12) : inS (seM M c).2.2 := by
  unfold seM
  exact seS_in (bal := bfM M c) (wgh := wgM M c) (mst := msM M c) (c := c.toNatClampNeg) (a := maskB (bfM M c) 12) (x := y0M M c) (y0M_in h1 h2) 12
theorem seM_11 {M : mM} {c : Int32} : (seM M c).2.2.2.2.2.2.2.1 ≤ 11 := by
  unfold seM
  rcases seS_11 (bal := bfM M c) (wgh := wgM M c) (mst := msM M c) (c := c.toNatClampNeg) (a := maskB (bfM M c) 12) (x := y0M M c) (maskB_lt (bfM M c) 12) y0M_tc 12 with q | q
  · rw [q]; omega
  · omega
theorem wgM_0 {M : mM} {c : Int32} (h : M.2.2 24 0 = 0) : wgM M c 0 = 0 := by
  unfold wgM
  rw [weiR_is h 4095 (Nat.le_refl _) 0 (Nat.zero_le _), sumB_0]
theorem seM_eq {M : mM} {k : Nat} (hk : k < 4) : seM M (nI k) = seS (bfM M (nI k)) (weiR (bfM M (nI k)) (M.2.2 24) 4095) (dvS (weiR (bfM M (nI k)) (M.2.2 24) 4095) (M.2.1 25) 4095) k (maskB (bfM M (nI k)) 12) (y0M M (nI k)) 12 := by
  unfold seM msM wgM
  rw [nI_clamp (n := k) (by omega)]
def setM (M : mM) (c : Int32) (w : Nat → Int64) (ms : Nat → Int32) (S : Nat × Int32 × gSt) : mM :=
  sL (sL (sA (sA (sA (sA (sA (sA (sA (sA (sI M 0 0) 16 (upd (M.2.1 16) c.toNatClampNeg 1)) 25 ms) 18 S.2.2.1) 20 S.2.2.2.1) 21 S.2.2.2.2.1) 23 S.2.2.2.2.2.2.1) 19 (upd (M.2.1 19) c.toNatClampNeg (nI S.2.2.2.2.2.2.2.1))) 17 (upd (M.2.1 17) c.toNatClampNeg S.2.1)) 24 w) 22 S.2.2.2.2.2.1
noncomputable def M_settle1 (M : mM) (c : Int32) : mM := setM M c (wgM M c) (msM M c) (seM M c)
def q_settle (M : mM) (c : Int32) : Bool := isMb c (M.1 1) && decide (M.2.1 16 c.toNatClampNeg = 0)
noncomputable def M_settle (M : mM) (c : Int32) : mM := if q_settle M c = true then M_settle1 M c else sI M 0 0
noncomputable def a_settle (M : mM) (c : Int32) : Int32 := if q_settle M c = true then nI (seM M c).2.2.2.2.2.2.2.1 else -1
theorem kD_settle {X : gX} {ad : Nat → Nat} {x : Nat} {M : mM} {u u' : gW} {nC nB k : Nat} {V : mM} {A S : Nat × Int32 × gSt} {w : Nat → Int64} {ms : Nat → Int32} {sz1 : Int32} {mem1 mo1 : Nat → Int32} {am1 : Nat → Int64} (hk : k < nC) (h : kD X ad x M u nC nB) (hV : clW X ad u (x + 16 * k + 32) V) (hR : RC M nB k V)
    (hA : ∀ n, M.2.1 1 k = nI n → n ≤ 12 → gRel k n A.2.2 S.2.2) (hgc : S.2.1 = A.2.1) (hfr : gFr k (y0M M (nI k)) S.2.2) (hin : inS S.2.2) (hT : S.2.2.2.2.2.2.2.1 ≤ 11) (hw : w 0 = 0)
    (hu : u' = gup (gup (gup (gup (gup (gup (gup (gup (gup (gup u (x + 6) (.inr (3, [.ref (ad (x + 6 + 1)), .ref (ad (x + 6 + 2)), .ref (ad (x + 6 + 3)), .int sz1]))) (x + 6 + 1) (.inl ((X.2 0), 12, .inl mem1))) (x + 6 + 2) (.inl ((X.2 1), 12, .inr (.inl am1)))) (x + 6 + 3) (.inl ((X.2 0), 4096, .inl mo1))) (x + 16 * k + 32 + 3) (.inr (4, [.ref (ad (x + 16 * k + 32 + 3 + 1)), .ref (ad (x + 16 * k + 32 + 3 + 2)), .ref (ad (x + 16 * k + 32 + 3 + 3)), .ref (ad (x + 16 * k + 32 + 3 + 4)), .ref (ad (x + 16 * k + 32 + 3 + 5)), .int 1, .int A.2.1, .int (nI A.2.2.2.2.2.2.2.1), .int A.2.2.2.2.2.2.2.2.1]))) (x + 16 * k + 32 + 3 + 1) (.inl ((X.2 0), 12, .inl A.2.2.1))) (x + 16 * k + 32 + 3 + 2) (.inl ((X.2 0), 12, .inl A.2.2.2.1))) (x + 16 * k + 32 + 3 + 3) (.inl ((X.2 0), 12, .inl A.2.2.2.2.1))) (x + 16 * k + 32 + 3 + 4) (.inl ((X.2 1), 12, .inr (.inl A.2.2.2.2.2.1)))) (x + 16 * k + 32 + 3 + 5) (.inl ((X.2 2), 12, .inl A.2.2.2.2.2.2.1))) : kD X ad x (setM M (nI k) w ms S) u' nC nB := by
  have hC := h.1.1
  have ek : (nI k).toNatClampNeg = k := nI_clamp (by omega)
  obtain ⟨n, t, ⟨c1, c2, c3, c4, c5, c6, c7, c8, c9⟩, i0, i1, i2, i3, i4, i5, i6, i7, i8⟩ := hR
  obtain ⟨g1, g2, g3, g4, g5, g6, g7⟩ := hA n c4 c1
  have e16 : (setM M (nI k) w ms S).2.1 16 = upd (M.2.1 16) k 1 := by
    show upd (M.2.1 16) (nI k).toNatClampNeg 1 = _
    rw [ek]
  have e19 : (setM M (nI k) w ms S).2.1 19 = upd (M.2.1 19) k (nI S.2.2.2.2.2.2.2.1) := by
    show upd (M.2.1 19) (nI k).toNatClampNeg (nI S.2.2.2.2.2.2.2.1) = _
    rw [ek]
  have e17 : (setM M (nI k) w ms S).2.1 17 = upd (M.2.1 17) k S.2.1 := by
    show upd (M.2.1 17) (nI k).toNatClampNeg S.2.1 = _
    rw [ek]
  have e18 : (setM M (nI k) w ms S).2.1 18 = S.2.2.1 := rfl
  have e20 : (setM M (nI k) w ms S).2.1 20 = S.2.2.2.1 := rfl
  have e21 : (setM M (nI k) w ms S).2.1 21 = S.2.2.2.2.1 := rfl
  have e22 : (setM M (nI k) w ms S).2.2 22 = S.2.2.2.2.2.1 := rfl
  have e23 : (setM M (nI k) w ms S).2.1 23 = S.2.2.2.2.2.2.1 := rfl
  have e24 : (setM M (nI k) w ms S).2.2 24 0 = 0 := hw
  have hf1 : ∀ k' j, k' ≠ k → j < 12 → S.2.2.1 (12 * k' + j) = M.2.1 18 (12 * k' + j) := fun k' j hk' hj => by
    rw [hfr.1 (12 * k' + j) (by omega)]
    show fillO (M.2.1 18) (12 * (nI k).toNatClampNeg) 12 (-1) (12 * k' + j) = _
    rw [ek, fillO, if_neg (by omega)]
  have hf2 : ∀ k' j, k' ≠ k → j < 11 → S.2.2.2.1 (11 * k' + j) = M.2.1 20 (11 * k' + j) ∧ S.2.2.2.2.1 (11 * k' + j) = M.2.1 21 (11 * k' + j) ∧ S.2.2.2.2.2.1 (11 * k' + j) = M.2.2 22 (11 * k' + j) ∧ S.2.2.2.2.2.2.1 (11 * k' + j) = M.2.1 23 (11 * k' + j) := fun k' j hk' hj => hfr.2 (11 * k' + j) (by omega)
  have hne : ∀ q, (q < x + 6 ∨ x + 10 ≤ q) → (q < x + 16 * k + 35 ∨ x + 16 * k + 41 ≤ q) → u' q = u q := fun q a b => by
    rw [hu, gup_ne (by omega), gup_ne (by omega), gup_ne (by omega), gup_ne (by omega), gup_ne (by omega), gup_ne (by omega), gup_ne (by omega), gup_ne (by omega), gup_ne (by omega), gup_ne (by omega)]
  refine kD_club k hk h ?_ (fun q a b => hne q a (by omega)) ⟨sz1, mem1, mo1, am1, ?_, ?_, ?_, ?_⟩ (fun py wt a b => ⟨a, b⟩) ?_ (fun k' V' hk' e a => RC_ag (M := M) ⟨⟨rfl, rfl, ?_, ?_, ?_⟩, fun j hj => ⟨rfl, ?_, rfl⟩, fun j hj => ?_, rfl, rfl, rfl, rfl, rfl⟩ a) (fun j k' V' hj hk' a => RB_same (M := M) rfl rfl rfl rfl rfl rfl rfl a)
  · obtain ⟨r1, r2, r3, r4, r5, r6, r7, r8, r9, r10, r11, r12, r13⟩ := h.1
    refine ⟨r1, r2, r3, r4, r5, r6, fun k' hk' => ?_, r8, fun q => ?_, fun q => ?_, r11, e24, fun k' a b => ?_⟩
    · rw [e19]
      by_cases e : k' = k
      · rw [e, upd_s]; exact ⟨_, hT, rfl⟩
      · rw [upd_o e]; exact r7 k' hk'
    · rw [e20]; exact hin.1 q
    · rw [e21]; exact hin.2 q
    · obtain ⟨z1, z2, z3, z4, z5, z6⟩ := r13 k' a b
      refine ⟨z1, z2, by rw [e16, upd_o (by omega)]; exact z3, by rw [e17, upd_o (by omega)]; exact z4, by rw [e19, upd_o (by omega)]; exact z5, fun j hj => ⟨(z6 j hj).1, ?_, (z6 j hj).2.2⟩⟩
      rw [e18, hf1 k' j (by omega) hj]; exact (z6 j hj).2.1
  · rw [hu, gup_ne (by omega), gup_ne (by omega), gup_ne (by omega), gup_ne (by omega), gup_ne (by omega), gup_ne (by omega), gup_ne (by omega), gup_ne (by omega), gup_ne (by omega), gup_self]
  · rw [hu, gup_ne (by omega), gup_ne (by omega), gup_ne (by omega), gup_ne (by omega), gup_ne (by omega), gup_ne (by omega), gup_ne (by omega), gup_ne (by omega), gup_self]
  · rw [hu, gup_ne (by omega), gup_ne (by omega), gup_ne (by omega), gup_ne (by omega), gup_ne (by omega), gup_ne (by omega), gup_ne (by omega), gup_self]
  · rw [hu, gup_ne (by omega), gup_ne (by omega), gup_ne (by omega), gup_ne (by omega), gup_ne (by omega), gup_ne (by omega), gup_self]
  · refine ⟨(fun i => if i = 3 then 1 else if i = 4 then A.2.1 else if i = 5 then nI A.2.2.2.2.2.2.2.1 else if i = 6 then A.2.2.2.2.2.2.2.2.1 else V.1 i, fun i => if i = 0 then A.2.2.1 else if i = 1 then A.2.2.2.1 else if i = 2 then A.2.2.2.2.1 else A.2.2.2.2.2.2.1, fun i => if i = 2 then A.2.2.2.2.2.1 else V.2.2 i), ⟨?_, ?_, ?_, ?_, ?_, ?_, ?_, ?_, ?_⟩, n, A.2.2.2.2.2.2.2.1, ⟨c1, by rw [← g3]; exact hT, c3, c4, rfl, by rw [e19, upd_s, g3], c7, by rw [e16, upd_s]; rfl, by rw [e17, upd_s]; exact hgc⟩, i0, ?_, fun j hj => ?_, fun j hj => ?_, ⟨g5, g6, g7⟩, i5, i6, i7, i8⟩
    · exact (hne _ (by omega) (by omega)).trans hV.1
    · exact (hne _ (by omega) (by omega)).trans hV.2.1
    · exact (hne _ (by omega) (by omega)).trans hV.2.2.1
    · rw [hu, gup_ne (by omega), gup_ne (by omega), gup_ne (by omega), gup_ne (by omega), gup_ne (by omega), gup_self]; rfl
    · rw [hu, gup_ne (by omega), gup_ne (by omega), gup_ne (by omega), gup_ne (by omega), gup_self]; rfl
    · rw [hu, gup_ne (by omega), gup_ne (by omega), gup_ne (by omega), gup_self]; rfl
    · rw [hu, gup_ne (by omega), gup_ne (by omega), gup_self]; rfl
    · rw [hu, gup_ne (by omega), gup_self]; rfl
    · rw [hu, gup_self]; rfl
    · show A.2.2.2.2.2.2.2.2.1 = untS ((setM M (nI k) w ms S).2.1 23) k A.2.2.2.2.2.2.2.1
      rw [e23, untS_all _ fun j hj => (g2 j hj).2.2.2.1, g4]
    · rw [e18]; exact g1 j hj
    · obtain ⟨q1, q2, q3, q4, q5⟩ := g2 j hj
      rw [e20, e21, e22, e23]
      exact ⟨q1, q2, q3, q4.trans q5.symm, Or.inl q5⟩
  · rw [e16, upd_o e]
  · rw [e17, upd_o e]
  · rw [e19, upd_o e]
  · rw [e18]; exact hf1 k' j e hj
  · rw [e20, e21, e22, e23]; exact hf2 k' j e hj
theorem t_X_settle (l : Launch) (X : gX) (ad : Nat → Nat) (u : gW) (sz x : Nat) (M : mM) (nC nB : Nat) (c : Int32) (h : kD X ad x M u nC nB) : gMet l (EE X) y_X_settle c_X_settle 3 (some .int) ({ frames := 3, cells := 0, slots := 0, locals := 75 }) [.ref (ad x), .int c] ad u sz (postK X ad x (M_settle M c) (.int (a_settle M c)) u) := by
  have h0 := h
  obtain ⟨R, ⟨h1, h2, h3⟩, -, ⟨sz0, mem, mo, am, gW⟩, h7, -⟩ := h
  have hnb := nbM_eq R
  have R' := R
  obtain ⟨r1, r2, r3, r4, r5, r6, r7, r8, r9, r10, r11, r12, r13⟩ := R'
  by_cases hb : isMb c (nI nC) = true
  · obtain ⟨k, hk, rfl⟩ := isMb_nat (by omega) hb
    obtain ⟨V, hV, hR⟩ := h7 k hk
    have hR' := hR
    obtain ⟨n, t, ⟨c1, c2, c3, c4, c5, c6, c7, c8, c9⟩, -, -, -, -, ⟨i4, i4', -⟩, i5, -, i7, i8⟩ := hR'
    have ek : (nI k).toNatClampNeg = k := nI_clamp (by omega)
    by_cases hop : V.1 3 = 0
    · have hq : q_settle M (nI k) = true := by rw [q_settle, r3, hb, ek, c8, Bool.true_and, decide_eq_true hop]
      have hbf : ∀ j, j < 12 → bfM M (nI k) j = V.2.2 0 j := fun j hj => by
        rw [bfM, balM, memM_k r3 r1 hk c4, hnb, ek, nI_clamp (n := j) (by omega)]
        by_cases hjn : j < n
        · rw [if_pos (isMb_nI (by omega) hjn)]; exact (i5 j hj).symm
        · rw [if_neg (fun q => by obtain ⟨i, q1, q2⟩ := isMb_nat (by omega) q; exact hjn ((nI_eq (by omega) (by omega)).mp q2 ▸ q1)), i7 j (by omega) hj]
      have hbn : ∀ j, j < 12 → ¬ V.2.2 0 j = 0 → j < n := fun j hj q => Decidable.byContradiction fun q2 => q (i7 j (by omega) hj)
      have hS := settle_all (bal := V.2.2 0) (bal' := bfM M (nI k)) (am := am) (w0 := M.2.2 24) (mem := mem) (mo := mo) (mst := M.2.1 25) (c := k) (n := n)
        (x := (fillI (V.2.1 0) (-1) 12, V.2.1 1, V.2.1 2, V.2.2 2, V.2.1 3, 0, 0, 0, -1)) (y := y0M M (nI k)) hbf hbn r12 i8
        ⟨fun j hj => by
          show fillO (M.2.1 18) (12 * (nI k).toNatClampNeg) 12 (-1) (12 * k + j) = fillI (V.2.1 0) (-1) 12 j
          rw [ek, fillO, if_pos (by omega), fillI, if_pos hj], fun j hj => absurd hj (Nat.not_lt_zero _), rfl, rfl, i4, i4', fun j hj => absurd hj (Nat.not_lt_zero _)⟩ rfl 12
      refine gMet_mono (k_X_settle_ok l X ad u sz x nC nB k _ _ _ _ _ _ _ _ _ _ _ _ _ _ _ _ _ h1 h2 hV.1 hV.2.2.2.1 hV.2.1 hV.2.2.2.2.1 hV.2.2.2.2.2.1 hV.2.2.2.2.2.2.1 hV.2.2.2.2.2.2.2.1 hV.2.2.2.2.2.2.2.2 gW.1 gW.2.1 gW.2.2.1 gW.2.2.2 hk r1 hop) fun v u' s ⟨a1, a2, a3⟩ => ?_
      generalize fiS (gaS (V.2.2 0) mem am 12).2.1 (gaS (V.2.2 0) mem am 12).2.2 (moS (gaS (V.2.2 0) mem am 12).2.2 (gaS (V.2.2 0) mem am 12).1 mo (2 ^ (gaS (V.2.2 0) mem am 12).1 - 1)) (gaS (V.2.2 0) mem am 12).1 ((fillI (V.2.1 0) (-1) 12, V.2.1 1, V.2.1 2, V.2.2 2, V.2.1 3, 0, 0, 0, -1) : gSt) 12 = A at hS a1 a2
      have eS := seM_eq (M := M) (k := k) (by omega)
      rw [← eS] at hS
      obtain ⟨-, -, s3, s4, s5⟩ := hS
      have hin := seM_in (M := M) (c := nI k) r9 r10
      have hT := seM_11 (M := M) (c := nI k)
      have hwz := wgM_0 (M := M) (c := nI k) r12
      rw [M_settle, a_settle, if_pos hq, if_pos hq, M_settle1]
      clear eS
      generalize seM M (nI k) = S at *
      refine ⟨by rw [a1, s4.2.2.1], ⟨nC, nB, kD_settle (w := wgM M (nI k)) (ms := msM M (nI k)) hk h0 hV hR (fun n' e1 e2 => ?_) s3 s5 hin hT hwz a2⟩, fun q hq => ?_⟩
      · have : n' = n := (nI_eq (by omega) (by omega)).mp (e1.symm.trans c4)
        rw [this]; exact s4
      · rw [a2, gup_ne (by omega), gup_ne (by omega), gup_ne (by omega), gup_ne (by omega), gup_ne (by omega), gup_ne (by omega), gup_ne (by omega), gup_ne (by omega), gup_ne (by omega), gup_ne (by omega)]
    · have hq : ¬ q_settle M (nI k) = true := by rw [q_settle, ek, c8, decide_eq_false hop, Bool.and_false]; decide
      rw [M_settle, a_settle, if_neg hq, if_neg hq]
      exact gMet_mono (k_X_settle_open l X ad u sz x nC nB k _ _ _ _ _ _ _ h1 h2 hV.1 hV.2.2.2.1 hk r1 hop) fun v u' s ⟨e1, e2, e3⟩ => postK_th h0 e1 e2
  · have hq : ¬ q_settle M c = true := by rw [q_settle, r3, isMb_ff hb, Bool.false_and]; decide
    rw [M_settle, a_settle, if_neg hq, if_neg hq]
    exact gMet_mono (k_X_settle_no l X ad u sz x nC nB c h1 h2 (isMb_ff hb)) fun v u' s ⟨e1, e2, e3⟩ => postK_th h0 e1 e2
