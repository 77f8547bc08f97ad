/-! post, the program's side -/
theorem balR_congr {cof str cof' str' : Nat → Int32} {pai sha pai' sha' : Nat → Int64} {c : Int32} {x : Nat} {s0 : Int64} (n : Nat) (h : ∀ b, b < n → cof' b = cof b ∧ str' b = str b ∧ pai' (12 * b + x) = pai (12 * b + x) ∧ sha' (12 * b + x) = sha (12 * b + x)) : balR cof' str' pai' sha' c x s0 n = balR cof str pai sha c x s0 n := by
  induction n with
  | zero => rfl
  | succ n ih =>
    obtain ⟨h1, h2, h3, h4⟩ := h n (by omega)
    rw [balR, balR, ih fun b hb => h b (by omega), h1, h2, h3, h4]
theorem driR_congr {cof str cof' str' : Nat → Int32} {dri dri' : Nat → Int64} {c : Int32} {x : Nat} (n : Nat) (h : ∀ b, b < n → cof' b = cof b ∧ str' b = str b ∧ dri' (12 * b + x) = dri (12 * b + x)) : driR cof' str' dri' c x n = driR cof str dri c x n := by
  induction n with
  | zero => rfl
  | succ n ih =>
    obtain ⟨h1, h2, h3⟩ := h n (by omega)
    rw [driR, driR, ih fun b hb => h b (by omega), h1, h2, h3]
theorem mapO_out {f g : Nat → Int64} {o i j : Nat} (h : j < o ∨ o + i ≤ j) : mapO f g o i j = f j := by
  rw [mapO, if_neg (by omega)]
theorem totS_nat {c r : Nat} (hc : c ≤ 100000000) (hr : r ≤ 1000000000) : totS (nI c) (nI r) = lN ((c * r + 500000) / 1000000) ∧ (c * r + 500000) / 1000000 < 2 ^ 40 := by
  have h : c * r ≤ 100000000 * 1000000000 := Nat.mul_le_mul hc hr
  refine ⟨?_, by omega⟩
  rw [totS, nI_l (by omega), nI_l (by omega), lN_mul, show (500000 : Int64) = lN 500000 from rfl, lN_add, show (1000000 : Int64) = lN 1000000 from rfl, pk_lDiv (by omega) (by decide) (by decide)]
def lM (M : mM) : Nat := (M.1 6).toNatClampNeg
def dM (M : mM) : Nat := (M.1 2).toNatClampNeg
def s0M (M : mM) : Nat := (M.2.1 2 (dM M)).toNatClampNeg
def hvM (M : mM) : Nat → Int64 := heaV (M.1 3) (M.2.1 5) (M.2.1 7) (M.2.1 6) (lM M)
def hmM (M : mM) : Nat → Int64 := mapL (M.2.2 8) (hvM M) 12
def tM (M : mM) : Int64 := totS (M.1 4) (M.1 5)
def handM (t : Int64) (w : Nat → Int64) (s0 : Nat) (s : Int64) : (Nat → Int64) × Int64 × Nat := handS w s0 (fun j => (parS t (w j) s 63).1) (wantS t (fun j => (parS t (w j) s 63).1) 12) 12
def shM (M : mM) : (Nat → Int64) × Int64 × Nat := handM (tM M) (hmM M) (s0M M) (sumL (hvM M) 12)
def paM (M : mM) : (Nat → Int64) × Int64 × Nat := handM (tM M) (fun j => (M.2.1 4 j).toInt64) 0 (M.1 4).toInt64
noncomputable def wrM (M : mM) : Int32 := wroV (M.2.1 3) (M.2.1 4) (hmM M) (hvM M) (dM M) (M.1 3) (M.1 4) (linS (M.2.1 6) (lM M))
def M_post1 (M : mM) : mM :=
  sL (sL (sL (sL (sL (sA (sA (sA (sI (sI (sI M 0 0) 2 (-1)) 7 (M.1 7 + 1)) 2 (upd (M.2.1 2) (dM M) (nI (shM M).2.2))) 9 (upd (M.2.1 9) (nbM M) (M.1 2))) 11 (upd (M.2.1 11) (nbM M) 0))
    8 (hmM M)) 10 (vp_updL (M.2.2 10) (nbM M) (tM M))) 12 (mapO (M.2.2 12) (shM M).1 (12 * nbM M) 12)) 13 (mapO (M.2.2 13) (paM M).1 (12 * nbM M) 12)) 14 (mapO (M.2.2 14) (driMG (tM M) (sumL (hvM M) 12) (hmM M) (shM M).1) (12 * nbM M) 12)
noncomputable def M_post (M : mM) : mM := if M.1 2 = -1 ∨ ¬ M.2.1 16 (dM M) = 0 ∨ M.1 7 = 64 then sI M 0 0 else if wrM M = 0 then M_post1 M else sL (sI M 0 0) 8 (hmM M)
noncomputable def a_post (M : mM) : Int32 := if M.1 2 = -1 then -1 else if ¬ M.2.1 16 (dM M) = 0 then -2 else if M.1 7 = 64 then -3 else if wrM M = 0 then M.1 7 + 1 - 1 else wrM M
theorem l1_mul (z : Int64) : (1 : Int32).toInt64 * z = z := by rw [show (1 : Int32).toInt64 = 1 by decide, Int64.one_mul]
theorem lN_0 {p : Nat} (h : p < 2 ^ 63) : lN p = 0 ↔ p = 0 := by rw [show (0 : Int64) = lN 0 from rfl, pk_lEQ h (by decide)]
/-- what a draft with nothing wrong says -/
theorem wr0 {M : mM} (h : wrM M = 0) : paS (M.2.1 4) 12 = (M.1 4).toInt64 ∧ ¬ sumL (hvM M) 12 = 0 ∧ fitM (M.1 3) (M.1 4) (sumL (hvM M) 12) (linS (M.2.1 6) (lM M)) = true := by
  rw [wrM, wroV] at h
  by_cases h1 : ∃ j, j < 12 ∧ badM (M.2.1 3) (M.2.1 4) (hmM M) (dM M) j
  · rw [if_pos h1] at h; exact absurd h (by decide)
  · rw [if_neg h1] at h
    by_cases h2 : ¬ paS (M.2.1 4) 12 = (M.1 4).toInt64
    · rw [if_pos h2] at h; exact absurd h (by decide)
    · rw [if_neg h2] at h
      by_cases h3 : sumL (hvM M) 12 = 0
      · rw [if_pos h3] at h; exact absurd h (by decide)
      · rw [if_neg h3] at h
        by_cases h4 : fitM (M.1 3) (M.1 4) (sumL (hvM M) 12) (linS (M.2.1 6) (lM M)) = true
        · exact ⟨Decidable.byContradiction h2, h3, h4⟩
        · rw [if_neg h4] at h; exact absurd h (by decide)
theorem cut_eq2 {W : Nat → Nat} {A S s0 : Nat} {w w' : Nat → Int64} (hS : 0 < S) (hS2 : S < 2 ^ 42) (hWS : sumN W 12 = S) (hA : A < 2 ^ 60) (hw : ∀ j, j < 12 → w j = lN (W j)) (hw' : ∀ j, j < 12 → w' j = lN (W j)) (hs0 : s0 < 12) {t s : Int64} (ht : t = lN A) (hs : s = lN S) :
    (∀ j, j < 12 → cutA t w s0 (fun _ => 0) j = (handM t w' s0 s).1 j) ∧ cutB t w s0 (fun _ => 0) = (handM t w' s0 s).2.2 ∧ (handM t w' s0 s).2.1 ≤ 0 ∧ sumL (cutA t w s0 (fun _ => 0)) 12 = t ∧ (∀ j, j < 12 → W j = 0 → cutA t w s0 (fun _ => 0) j = 0) := by
  have h := cut_eq (p := fun _ => 0) hS hS2 hWS hA hw hw' hs0
  rw [← ht, ← hs] at h
  rw [cutB, handM]
  simp only [cutA]
  exact ⟨h.1, congrArg (fun z => z.2) h.2.1, h.2.2.1, h.2.2.2.1, h.2.2.2.2⟩
/-- the two cuts -/
theorem cuts {M : mM} {py wt : Nat → Int64} {k : Nat} (hR : RD M py wt) (hdr : ¬ M.1 2 = -1) (h0 : wrM M = 0) (hs0 : s0M M < 12) :
    ((∀ j, j < 12 → cutA (tM M) py 0 (fun _ => 0) j = (paM M).1 j) ∧ (paM M).2.1 ≤ 0 ∧ (∀ j, j < 12 → py j = 0 → cutA (tM M) py 0 (fun _ => 0) j = 0)) ∧
    ((∀ j, j < 12 → cutA (tM M) wt (s0M M) (fun _ => 0) j = (shM M).1 j) ∧ cutB (tM M) wt (s0M M) (fun _ => 0) = (shM M).2.2 ∧ (shM M).2.1 ≤ 0 ∧ (∀ j, j < 12 → wt j = 0 → cutA (tM M) wt (s0M M) (fun _ => 0) j = 0)) ∧
    sumL (cutA (tM M) py 0 (fun _ => 0)) 12 = sumL (cutA (tM M) wt (s0M M) (fun _ => 0)) 12 ∧
    (∀ j, j < 12 → driG (tM M) wt (cutA (tM M) wt (s0M M) (fun _ => 0)) j = driMG (tM M) (sumL (hvM M) 12) (hmM M) (shM M).1 j) ∧ ¬ (M.1 4).toInt64 = 0 := by
  obtain ⟨L, hL, l2, l3, l4, l5⟩ := hR
  obtain ⟨hw, ⟨c, c1, c2, c3⟩, ⟨r, r1, r2, r3⟩, -⟩ := l5 hdr
  obtain ⟨w1, w2, w3⟩ := wr0 h0
  have eL : lM M = L := by rw [lM, hL.2.1]; exact nI_clamp (by have := hL.1; omega)
  have hA := totS_nat c2 r2
  have eT : tM M = lN ((c * r + 500000) / 1000000) := by rw [tM, c3, r3]; exact hA.1
  generalize hAd : (c * r + 500000) / 1000000 = A at hA eT
  have ec : (M.1 4).toInt64 = lN c := by rw [c3]; exact nI_l (by omega)
  have hhv : ∀ j, j < 12 → hvM M j = lN (wtN M L j) := fun j hj => by
    rw [hvM, eL]; exact wt_nat (py := py) (wt := wt) hL l3 hj
  have hwt : ∀ j, j < 12 → wt j = lN (wtN M L j) := fun j hj => by
    rw [l4 j hj]; exact wt_nat (py := py) (wt := wt) hL l3 hj
  have hhm : ∀ j, j < 12 → hmM M j = lN (wtN M L j) := fun j hj => by rw [hmM, mapL, if_pos hj]; exact hhv j hj
  have hsum : sumL (hvM M) 12 = lN (sumN (wtN M L) 12) := sumL_N 12 hhv
  have hws := wt_sum hL l3
  have hlc := lc_le hL
  have hS : 0 < sumN (wtN M L) 12 ∧ sumN (wtN M L) 12 < 2 ^ 42 := by
    have hb : sumN (wtN M L) 12 < 2 ^ 62 := by
      by_cases h5 : M.1 3 = 5
      · rw [hws.1 h5]; omega
      · have := hws.2 h5; omega
    refine ⟨?_, ?_⟩
    · rw [hsum, lN_0 (by omega)] at w2; omega
    · by_cases h5 : M.1 3 = 5
      · rw [fitM, h5, if_neg (by decide), if_neg (by decide), if_neg (by decide), decide_eq_true_iff, eL, linS_nat L hL.2.2, ec, pk_lEQ (by omega) (by omega)] at w3
        rw [hws.1 h5, w3]; omega
      · have := hws.2 h5; omega
  -- the payers
  have hpy : ∀ j, j < 12 → py j = lN (M.2.1 4 j).toNatClampNeg ∧ (M.2.1 4 j).toInt64 = lN (M.2.1 4 j).toNatClampNeg ∧ (M.2.1 4 j).toNatClampNeg ≤ 100000000 := fun j hj => by
    obtain ⟨p, p1, p2, p3⟩ := l2 j hj
    rw [p2, nI_clamp (by omega)]; exact ⟨p3, nI_l (by omega), p1⟩
  have hPs : sumN (fun j => (M.2.1 4 j).toNatClampNeg) 12 = c := by
    have h1 := sumN_le (fun j => (M.2.1 4 j).toNatClampNeg) 100000000 12 fun j hj => (hpy j hj).2.2
    rw [paS_eq l2 12 (Nat.le_refl _), sumL_N 12 fun j hj => (hpy j hj).1, ec, pk_lEQ (by omega) (by omega)] at w1
    exact w1
  have C1 := cut_eq2 (W := fun j => (M.2.1 4 j).toNatClampNeg) (A := A) (S := c) (s0 := 0) (w := py) (w' := fun j => (M.2.1 4 j).toInt64) (by omega) (by omega) hPs (by omega) (fun j hj => (hpy j hj).1) (fun j hj => (hpy j hj).2.1) (by omega) eT ec
  have C2 := cut_eq2 (W := wtN M L) (A := A) (S := sumN (wtN M L) 12) (s0 := s0M M) (w := wt) (w' := hmM M) hS.1 hS.2 rfl (by omega) hwt hhm hs0 eT hsum
  refine ⟨⟨fun j hj => by rw [paM]; exact C1.1 j hj, by rw [paM]; exact C1.2.2.1, fun j hj hz => C1.2.2.2.2 j hj ?_⟩, ⟨fun j hj => by rw [shM]; exact C2.1 j hj, by rw [shM]; exact C2.2.1, by rw [shM]; exact C2.2.2.1, fun j hj hz => C2.2.2.2.2 j hj ?_⟩, C1.2.2.2.1.trans C2.2.2.2.1.symm, fun j hj => ?_, ?_⟩
  · rw [(hpy j hj).1, lN_0 (by have := (hpy j hj).2.2; omega)] at hz; exact hz
  · have : wtN M L j ≤ sumN (wtN M L) 12 := le_sumN hj
    rw [hwt j hj, lN_0 (by omega)] at hz; exact hz
  · have hle : wtN M L j ≤ sumN (wtN M L) 12 := le_sumN hj
    have hA3 : (1000 : Int64) * tM M = lN (1000 * A) := by rw [eT, show (1000 : Int64) = lN 1000 from rfl, lN_mul]
    have hsw : sumL wt 12 = lN (sumN (wtN M L) 12) := sumL_N 12 hwt
    rw [driG, driMG, hA3, hsum, hsw, hhm j hj, hwt j hj]
    by_cases hz : wtN M L j = 0
    · rw [if_pos (by rw [hz]; decide), C2.2.2.2.2 j hj hz, hz, por_is (by omega) (by omega) hS.1 hS.2, Nat.mul_zero, Nat.zero_div]
      decide
    · rw [if_neg (by rw [l_pos (by omega)]; exact hz), por_is (by omega) hle hS.1 hS.2, par_is (by omega) hle hS.1 (by omega)]
      rw [C2.1 j hj, shM, hsum]
  · rw [ec, lN_0 (by omega)]; omega
