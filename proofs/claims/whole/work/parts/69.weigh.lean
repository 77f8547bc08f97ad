/-! the weights of a draft, as whole numbers; what is wrong with a draft -/
theorem sizS_cnt {s : Nat} (hs : s < 4096) (n : Nat) (hn : n ≤ 12) : sizS (nI s) n = nI (cntB s n) := by
  induction n with
  | zero => rfl
  | succ n ih =>
    rw [sizS, ih (by omega), cntB]
    by_cases h : s.testBit n = true
    · rw [if_pos h, (bit1 (by omega) (by omega)).mpr h, nI_1]
    · rw [if_neg h, (bit0 (by omega) (by omega)).mpr ((Bool.not_eq_true _).mp h), show (0 : Int32) = nI 0 from rfl, nI_add, Nat.add_zero]
theorem cnt_pos {s : Nat} (hs : s < 4096) (h0 : s ≠ 0) : 0 < cntB s 12 := by
  obtain ⟨j, hj⟩ := ne0_bit h0
  have h12 := bit_lt (k := 12) hs hj
  have h1 : cntB s (j + 1) ≤ cntB s 12 := cntB_mono (by omega)
  rw [cntB, if_pos hj] at h1
  omega
theorem div27 : ∀ c, c < 13 → 0 < c → (27720 / nI c).toInt64 = lN (27720 / c) ∧ c * (27720 / c) = 27720 := by decide +kernel
/-- a member's weight by the first lines -/
def lnN (lis lic : Nat → Int32) (j : Nat) : Nat → Nat
  | 0 => 0
  | i + 1 => lnN lis lic j i + if ((lis i).toNatClampNeg).testBit j = true then 27720 / cntB (lis i).toNatClampNeg 12 * (lic i).toNatClampNeg else 0
def lcN (lic : Nat → Int32) (i : Nat) : Nat := (lic i).toNatClampNeg
/-- lines in their bounds -/
def lnOk (lis lic : Nat → Int32) (L : Nat) : Prop := ∀ i, i < L → (∃ s, s ≠ 0 ∧ s < 4096 ∧ lis i = nI s) ∧ ∃ n, n ≤ 100000000 ∧ lic i = nI n
theorem hsR_nat {lis lic : Nat → Int32} {j : Nat} (hj : j < 12) (L : Nat) (h : lnOk lis lic L) : hsR lis lic j L = lN (lnN lis lic j L) := by
  induction L with
  | zero => rfl
  | succ L ih =>
    obtain ⟨⟨s, s0, s1, s2⟩, n, n1, n2⟩ := h L (by omega)
    have es : (lis L).toNatClampNeg = s := by rw [s2]; exact nI_clamp (by omega)
    have en : (lic L).toNatClampNeg = n := by rw [n2]; exact nI_clamp (by omega)
    have hc := cntB_le s 12
    have hc0 := cnt_pos s1 s0
    rw [hsR, lnN, ih fun i hi => h i (by omega), es, en, s2, n2, sizS_cnt s1 12 (Nat.le_refl _), (div27 _ (by omega) hc0).1, nI_l (by omega), lN_mul]
    by_cases hb : s.testBit j = true
    · rw [if_pos ((bit1 (by omega) (by omega)).mpr hb), if_pos hb, lN_add]
    · rw [if_neg (fun q => hb ((bit1 (by omega) (by omega)).mp q)), if_neg hb, Int64.add_zero]; rfl
theorem sumN_add (f g : Nat → Nat) (n : Nat) : sumN (fun j => f j + g j) n = sumN f n + sumN g n := by
  induction n with
  | zero => rfl
  | succ n ih => simp only [sumN, ih]; omega
theorem sumN_bits (s v n : Nat) : sumN (fun j => if s.testBit j = true then v else 0) n = cntB s n * v := by
  induction n with
  | zero => simp [sumN, cntB]
  | succ n ih =>
    simp only [sumN, cntB, ih]
    split
    · rw [Nat.add_mul, Nat.one_mul]
    · omega
theorem lnN_sum {lis lic : Nat → Int32} (L : Nat) (h : lnOk lis lic L) : sumN (fun j => lnN lis lic j L) 12 = 27720 * sumN (lcN lic) L := by
  induction L with
  | zero => rfl
  | succ L ih =>
    obtain ⟨⟨s, s0, s1, s2⟩, n, n1, n2⟩ := h L (by omega)
    have es : (lis L).toNatClampNeg = s := by rw [s2]; exact nI_clamp (by omega)
    have hc := cntB_le s 12
    have hc0 := cnt_pos s1 s0
    simp only [lnN]
    rw [sumN_add, ih fun i hi => h i (by omega), es, sumN_bits, sumN, Nat.mul_add, ← Nat.mul_assoc, (div27 _ (by omega) hc0).2]
    rfl
theorem linS_nat {lis lic : Nat → Int32} (L : Nat) (h : lnOk lis lic L) : linS lic L = lN (sumN (lcN lic) L) := by
  induction L with
  | zero => rfl
  | succ L ih =>
    obtain ⟨-, n, n1, n2⟩ := h L (by omega)
    rw [linS, sumN, ih fun i hi => h i (by omega), lcN, n2, nI_clamp (by omega), nI_l (by omega), lN_add]
theorem sumN_le (f : Nat → Nat) (b n : Nat) (h : ∀ j, j < n → f j ≤ b) : sumN f n ≤ n * b := by
  induction n with
  | zero => simp [sumN]
  | succ n ih =>
    have := ih fun j hj => h j (by omega)
    have := h n (by omega)
    rw [sumN, Nat.add_mul]; omega
/-- a draft's weights -/
def wtN (M : mM) (L j : Nat) : Nat := if M.1 3 = 5 then lnN (M.2.1 7) (M.2.1 6) j L else (M.2.1 5 j).toNatClampNeg
theorem wt_nat {M : mM} {py wt : Nat → Int64} {L : Nat} (hL : RL M L) (h3 : ∀ j, j < 12 → ∃ q, q ≤ 100000000 ∧ M.2.1 5 j = nI q) {j : Nat} (hj : j < 12) : heaV (M.1 3) (M.2.1 5) (M.2.1 7) (M.2.1 6) L j = lN (wtN M L j) := by
  rw [heaV, wtN]
  split
  · exact hsR_nat hj L hL.2.2
  · obtain ⟨q, q1, q2⟩ := h3 j hj
    rw [q2, nI_clamp (by omega), nI_l (by omega)]
theorem lc_le {M : mM} {L : Nat} (hL : RL M L) : sumN (lcN (M.2.1 6)) L ≤ 1600000000 := by
  have h1 : sumN (lcN (M.2.1 6)) L ≤ L * 100000000 := sumN_le _ _ _ fun i hi => by
    obtain ⟨-, n, n1, n2⟩ := hL.2.2 i hi
    rw [lcN, n2, nI_clamp (by omega)]; exact n1
  have := hL.1
  have h2 : L * 100000000 ≤ 16 * 100000000 := Nat.mul_le_mul_right _ this
  omega
theorem wt_sum {M : mM} {L : Nat} (hL : RL M L) (h3 : ∀ j, j < 12 → ∃ q, q ≤ 100000000 ∧ M.2.1 5 j = nI q) : (M.1 3 = 5 → sumN (wtN M L) 12 = 27720 * sumN (lcN (M.2.1 6)) L) ∧ (¬ M.1 3 = 5 → sumN (wtN M L) 12 ≤ 1200000000) := by
  constructor
  · intro h5
    rw [show wtN M L = fun j => lnN (M.2.1 7) (M.2.1 6) j L from funext fun j => by rw [wtN, if_pos h5]]
    exact lnN_sum L hL.2.2
  · intro h5
    have := sumN_le (wtN M L) 100000000 12 fun j hj => by
      obtain ⟨q, q1, q2⟩ := h3 j hj
      rw [wtN, if_neg h5, q2, nI_clamp (by omega)]; exact q1
    omega
/-- what is due, on both sides -/
theorem due_eq {w : Int32} {c S N : Nat} (hw : ¬ w < 1 ∧ ¬ 5 < w) (hc : c ≤ 100000000) (hS : S < 2 ^ 62) (hN : N ≤ 1600000000) (h5 : w = 5 → S = 27720 * N) : (¬ lN S = dueS w (nI c) (lN S)) ↔ ¬ fitM w (nI c) (lN S) (lN N) = true := by
  rw [dueS, fitM, nI_l (by omega)]
  rcases way_in hw with rfl | rfl | rfl | rfl | rfl
  · simp
  · simp
  · rw [if_pos rfl, if_neg (by decide), if_pos rfl, decide_eq_true_iff]
  · rw [if_neg (by decide), if_pos rfl, if_neg (by decide), if_neg (by decide), if_pos rfl, decide_eq_true_iff]
  · rw [if_neg (by decide), if_neg (by decide), if_pos rfl, if_neg (by decide), if_neg (by decide), if_neg (by decide), decide_eq_true_iff, h5 rfl, show (27720 : Int64) = lN 27720 from rfl, lN_mul, pk_lEQ (by omega) (by omega), pk_lEQ (by omega) (by omega)]
    omega
noncomputable def wroV (lef pay : Nat → Int32) (hv hv2 : Nat → Int64) (d : Nat) (wy ce : Int32) (ls : Int64) : Int32 := @ite _ (∃ j, j < 12 ∧ badM lef pay hv d j) (Classical.propDecidable _) (-4) (if ¬ paS pay 12 = ce.toInt64 then -5 else if sumL hv2 12 = 0 then -6 else if fitM wy ce (sumL hv2 12) ls = true then 0 else -7)
theorem wroV_iff {lef pay : Nat → Int32} {hv hv2 : Nat → Int64} {d : Nat} {wy ce r : Int32} {ls : Int64} : wroR lef pay hv hv2 d wy ce ls r ↔ r = wroV lef pay hv hv2 d wy ce ls := by
  rw [wroR, wroV]
  by_cases h : ∃ j, j < 12 ∧ badM lef pay hv d j
  · rw [if_pos h]
    constructor
    · rintro (⟨-, h1⟩ | ⟨h1, -⟩)
      · exact h1
      · obtain ⟨j, j1, j2⟩ := h; exact absurd j2 (h1 j j1)
    · exact fun e => Or.inl ⟨h, e⟩
  · rw [if_neg h]
    constructor
    · rintro (⟨h1, -⟩ | ⟨-, h1⟩)
      · exact absurd h1 h
      · exact h1
    · exact fun e => Or.inr ⟨fun j j1 j2 => h ⟨j, j1, j2⟩, e⟩
theorem l0_lt {p : Nat} (h : p < 2 ^ 31) : (0 : Int64) < lN p ↔ (0 : Int32) < nI p := by
  rw [show (0 : Int64) = lN 0 from rfl, show (0 : Int32) = nI 0 from rfl, pk_lLT (by decide) (by omega), nI_ltI (by decide) h]
theorem paS_eq {pay : Nat → Int32} {py : Nat → Int64} (h : ∀ j, j < 12 → ∃ p, p ≤ 100000000 ∧ pay j = nI p ∧ py j = lN p) (n : Nat) (hn : n ≤ 12) : paS pay n = sumL py n := by
  induction n with
  | zero => rfl
  | succ n ih =>
    obtain ⟨p, p1, p2, p3⟩ := h n (by omega)
    rw [paS, sumL, ih (by omega), p2, p3, nI_l (by omega)]
/-- the same is wrong on both sides -/
theorem refuse_eq {M : mM} {nB k : Nat} {V : mM} {py wt hea : Nat → Int64} {L : Nat} {r : Int32} (hR : RC M nB k V) (hk : k < 4) (hkd : M.1 2 = nI k) (hL : RL M L) (h2 : ∀ j, j < 12 → ∃ p, p ≤ 100000000 ∧ M.2.1 4 j = nI p ∧ py j = lN p) (h3 : ∀ j, j < 12 → ∃ q, q ≤ 100000000 ∧ M.2.1 5 j = nI q)
    (h4 : ∀ j, j < 12 → wt j = heaV (M.1 3) (M.2.1 5) (M.2.1 7) (M.2.1 6) L j) (hw : ¬ M.1 3 < 1 ∧ ¬ 5 < M.1 3) (hc : ∃ c, 1 ≤ c ∧ c ≤ 100000000 ∧ M.1 4 = nI c) :
    refuse py wt (V.1 1) (M.1 3) (M.1 4) r ↔ r = wroV (M.2.1 3) (M.2.1 4) (mapL hea (heaV (M.1 3) (M.2.1 5) (M.2.1 7) (M.2.1 6) L) 12) (heaV (M.1 3) (M.2.1 5) (M.2.1 7) (M.2.1 6) L) (M.1 2).toNatClampNeg (M.1 3) (M.1 4) (linS (M.2.1 6) L) := by
  rw [← wroV_iff, refuse, wroR]
  obtain ⟨n, t, -, ⟨g, g1, g2, g3⟩, -⟩ := hR
  obtain ⟨c, c1, c2, c3⟩ := hc
  have hwt : ∀ j, j < 12 → heaV (M.1 3) (M.2.1 5) (M.2.1 7) (M.2.1 6) L j = lN (wtN M L j) := fun j hj => wt_nat (py := py) (wt := wt) hL h3 hj
  have hbad : ∀ j, j < 12 → (badL py wt (V.1 1) j ↔ badM (M.2.1 3) (M.2.1 4) (mapL hea (heaV (M.1 3) (M.2.1 5) (M.2.1 7) (M.2.1 6) L) 12) (M.1 2).toNatClampNeg j) := fun j hj => by
    obtain ⟨p, p1, p2, p3⟩ := h2 j hj
    rw [badL, badM, g2, gBit_nat g1 hj, g3 j hj, hkd, nI_clamp (by omega), p2, p3, l0_lt (by omega), mapL, if_pos hj, h4 j hj]
  have hsum : sumL wt 12 = sumL (heaV (M.1 3) (M.2.1 5) (M.2.1 7) (M.2.1 6) L) 12 := sumL_congr 12 h4
  have hsum2 : sumL (heaV (M.1 3) (M.2.1 5) (M.2.1 7) (M.2.1 6) L) 12 = lN (sumN (wtN M L) 12) := sumL_N 12 hwt
  have hws := wt_sum hL h3
  have hlc := lc_le hL
  have hS : sumN (wtN M L) 12 < 2 ^ 62 := by
    by_cases h5 : M.1 3 = 5
    · rw [hws.1 h5]; omega
    · have := hws.2 h5; omega
  have hdue := due_eq (w := M.1 3) (c := c) (S := sumN (wtN M L) 12) (N := sumN (lcN (M.2.1 6)) L) hw c2 hS hlc hws.1
  have e : (if ¬ sumL py 12 = (M.1 4).toInt64 then (-5 : Int32) else if sumL wt 12 = 0 then -6 else if ¬ sumL wt 12 = dueS (M.1 3) (M.1 4) (sumL wt 12) then -7 else 0) = (if ¬ paS (M.2.1 4) 12 = (M.1 4).toInt64 then -5 else if sumL (heaV (M.1 3) (M.2.1 5) (M.2.1 7) (M.2.1 6) L) 12 = 0 then -6 else if fitM (M.1 3) (M.1 4) (sumL (heaV (M.1 3) (M.2.1 5) (M.2.1 7) (M.2.1 6) L) 12) (linS (M.2.1 6) L) = true then 0 else -7) := by
    rw [paS_eq h2 12 (Nat.le_refl _), hsum, hsum2, linS_nat L hL.2.2, c3]
    by_cases q1 : ¬ sumL py 12 = (nI c).toInt64
    · rw [if_pos q1, if_pos q1]
    · rw [if_neg q1, if_neg q1]
      by_cases q2 : lN (sumN (wtN M L) 12) = 0
      · rw [if_pos q2, if_pos q2]
      · rw [if_neg q2, if_neg q2]
        by_cases q3 : fitM (M.1 3) (nI c) (lN (sumN (wtN M L) 12)) (lN (sumN (lcN (M.2.1 6)) L)) = true
        · rw [if_pos q3, if_neg (fun q => (hdue.mp q) q3)]
        · rw [if_neg q3, if_pos (hdue.mpr q3)]
  rw [e]
  constructor
  · rintro (⟨⟨j, j1, j2⟩, h⟩ | ⟨h1, h⟩)
    · exact Or.inl ⟨⟨j, j1, (hbad j j1).mp j2⟩, h⟩
    · exact Or.inr ⟨fun j hj q => h1 j hj ((hbad j hj).mpr q), h⟩
  · rintro (⟨⟨j, j1, j2⟩, h⟩ | ⟨h1, h⟩)
    · exact Or.inl ⟨⟨j, j1, (hbad j j1).mpr j2⟩, h⟩
    · exact Or.inr ⟨fun j hj q => h1 j hj ((hbad j hj).mp q), h⟩
