/-! calls of the program's side, over the whole object: those that read -/
def postK (X : gX) (ad : Nat → Nat) (x : Nat) (M : mM) (a : Value) (u : gW) : Option Value → gW → Nat → Prop := fun v u' _ => v = some a ∧ (∃ nC nB, kD X ad x M u' nC nB) ∧ ∀ n, x + 512 ≤ n → u' n = u n
def postM (X : gX) (ad : Nat → Nat) (m : Nat) (M : mM) (a : Value) (u : gW) : Option Value → gW → Nat → Prop := fun v u' _ => v = some a ∧ mW X ad m M u' ∧ ∀ n, (n < m ∨ m + 26 ≤ n) → u' n = u n
theorem postK_th {X : gX} {ad : Nat → Nat} {x : Nat} {M : mM} {u : gW} {nC nB : Nat} {v : Option Value} {a : Value} {u' : gW} {s : Nat} (h : kD X ad x M u nC nB) (hv : v = some a) (hu : u' = u) : postK X ad x (sI M 0 0) a u v u' s := by
  subst hu; exact ⟨hv, ⟨nC, nB, kD_th 0 h⟩, fun _ _ => rfl⟩
theorem untS_congr {f g : Nat → Int32} {k : Nat} (t : Nat) (h : ∀ j, j < t → f (11 * k + j) = g (11 * k + j)) : untS f k t = untS g k t := by
  induction t with
  | zero => rfl
  | succ t ih => rw [untS, untS, ih fun j hj => h j (by omega), h t (by omega)]
/-- what a club reads of the model is the same -/
def agC (M M' : mM) (k : Nat) : Prop :=
  (M'.2.1 1 k = M.2.1 1 k ∧ M'.2.1 2 k = M.2.1 2 k ∧ M'.2.1 16 k = M.2.1 16 k ∧ M'.2.1 17 k = M.2.1 17 k ∧ M'.2.1 19 k = M.2.1 19 k) ∧
  (∀ j, j < 12 → M'.2.1 3 (12 * k + j) = M.2.1 3 (12 * k + j) ∧ M'.2.1 18 (12 * k + j) = M.2.1 18 (12 * k + j) ∧ M'.2.2 15 (12 * k + j) = M.2.2 15 (12 * k + j)) ∧
  (∀ j, j < 11 → M'.2.1 20 (11 * k + j) = M.2.1 20 (11 * k + j) ∧ M'.2.1 21 (11 * k + j) = M.2.1 21 (11 * k + j) ∧ M'.2.2 22 (11 * k + j) = M.2.2 22 (11 * k + j) ∧ M'.2.1 23 (11 * k + j) = M.2.1 23 (11 * k + j)) ∧
  M'.2.1 9 = M.2.1 9 ∧ M'.2.1 11 = M.2.1 11 ∧ M'.2.2 13 = M.2.2 13 ∧ M'.2.2 12 = M.2.2 12 ∧ M'.2.2 14 = M.2.2 14
theorem RC_ag {M M' : mM} {nB k : Nat} {V : mM} (a : agC M M' k) (h : RC M nB k V) : RC M' nB k V := by
  obtain ⟨⟨a1, a2, a3, a4, a5⟩, b, c, d1, d2, d3, d4, d5⟩ := a
  obtain ⟨n, t, ⟨h1, h2, h3, h4, h5, h6, h7, h8, h9⟩, ⟨g, g1, g2, g3⟩, i1, i2, i3, i4, i5, i6, i7, i8⟩ := h
  refine ⟨n, t, ⟨h1, h2, h3, a1.trans h4, h5, a5.trans h6, a2.trans h7, a3.trans h8, a4.trans h9⟩, ⟨g, g1, g2, fun j hj => by rw [(b j hj).1]; exact g3 j hj⟩, ?_, fun j hj => (b j hj).2.1.trans (i2 j hj), fun j hj => ?_, i4, fun j hj => ?_, fun j hj => ?_, i7, i8⟩
  · rw [i1]; exact untS_congr t fun j hj => (c j (by omega)).2.2.2.symm
  · obtain ⟨e1, e2, e3, e4, e5⟩ := i3 j hj
    obtain ⟨c1, c2, c3, c4⟩ := c j (by omega)
    exact ⟨c1.trans e1, c2.trans e2, c3.trans e3, c4.trans e4, e5⟩
  · rw [d1, d2, d3, d4, (b j hj).2.2]; exact i5 j hj
  · rw [d1, d2, d5]; exact i6 j hj
theorem isMb_ff {c : Int32} {n : Nat} (h : ¬ isMb c (nI n) = true) : isMb c (nI n) = false := (Bool.not_eq_true _).mp h
theorem i32_12 {y : Int32} : (y < 12) ↔ (y ≤ 11) := by
  rw [Int32.lt_iff_toInt_lt, Int32.le_iff_toInt_le, show (12 : Int32).toInt = 12 from rfl, show (11 : Int32).toInt = 11 from rfl]; omega
theorem dec12 (y : Int32) : decide (y < 12) = decide (y ≤ 11) := decide_eq_decide.mpr i32_12
def a_about (M : mM) (b y w : Int32) : Int64 := aboM (M.1 7) b y w (M.2.2 12) (M.2.2 13) (M.2.2 14)
theorem y_in12 {y : Int32} (h : (!decide (y < 0) && decide (y ≤ 11)) = true) : vp_in y 12 := by
  rw [Bool.and_eq_true, Bool.not_eq_true', decide_eq_false_iff_not, decide_eq_true_iff] at h
  exact in12x h.1 (i32_12.mpr h.2)
theorem t_X_about (l : Launch) (X : gX) (ad : Nat → Nat) (u : gW) (sz x : Nat) (M : mM) (nC nB : Nat) (b y w : Int32) (h : kD X ad x M u nC nB) : gMet l (EE X) y_X_about c_X_about 5 (some .long) ({ frames := 1, cells := 0, slots := 0, locals := 21 }) [.ref (ad x), .int b, .int y, .int w] ad u sz (postK X ad x (sI M 0 0) (.long (a_about M b y w)) u) := by
  have h0 := h
  obtain ⟨⟨r1, r2, r3, r4, -⟩, ⟨h1, h2, h3⟩, -, -, -, h8, -⟩ := h
  by_cases hb : isMb b (nI nB) = true
  · obtain ⟨j, hj, rfl⟩ := isMb_nat (by omega) hb
    obtain ⟨k, V, hk, ⟨b0, b1, b2, b3⟩, q1, q2, q3, q4, -⟩ := h8 j hj
    refine gMet_mono (k_X_about_ok l X ad u sz x nC nB j _ _ _ _ _ _ y w h1 h3 b0 b1 b2 b3 hj r2) fun v u' s ⟨e1, e2, e3⟩ => postK_th h0 (e1.trans ?_) e2
    congr 2
    have hb' := hb
    rw [isMb, Bool.and_eq_true] at hb'
    rw [aboX, a_about, aboM, r4, hb'.1, hb'.2, Bool.true_and, Bool.true_and, dec12]
    split
    · rfl
    · split
      · rfl
      · next hy =>
        have hy := (Bool.not_eq_false _).mp hy
        obtain ⟨i, i1, i2, i3⟩ := vp_nat (y_in12 hy) (by decide)
        rw [i3, nI_clamp (n := j) (by omega)]
        obtain ⟨p1, p2, p3⟩ := q4 i i1
        rw [p1, p2, p3]
  · refine gMet_mono (k_X_about_no l X ad u sz x nC nB b y w h1 h3 (isMb_ff hb)) fun v u' s ⟨e1, e2, e3⟩ => postK_th h0 (e1.trans ?_) e2
    congr 2
    rw [a_about, aboM, r4, if_pos]
    have := isMb_ff hb
    rw [isMb] at this
    rw [← Bool.and_assoc, this, Bool.false_and]
def a_total (M : mM) (b : Int32) : Int64 := totM (M.1 7) b (M.2.2 10)
theorem isMb_lt (b n : Int32) : isMb b n = (!decide (b < 0) && decide (b < n)) := by
  rw [isMb]
  congr 1
  rw [← decide_not]
  exact decide_eq_decide.mpr Int32.not_le
theorem t_X_total (l : Launch) (X : gX) (ad : Nat → Nat) (u : gW) (sz x : Nat) (M : mM) (nC nB : Nat) (b : Int32) (h : kD X ad x M u nC nB) : gMet l (EE X) y_X_total c_X_total 3 (some .long) ({ frames := 1, cells := 0, slots := 0, locals := 21 }) [.ref (ad x), .int b] ad u sz (postK X ad x (sI M 0 0) (.long (a_total M b)) u) := by
  have h0 := h
  obtain ⟨⟨r1, r2, r3, r4, -⟩, ⟨h1, h2, h3⟩, -, -, -, h8, -⟩ := h
  by_cases hb : isMb b (nI nB) = true
  · obtain ⟨j, hj, rfl⟩ := isMb_nat (by omega) hb
    obtain ⟨k, V, hk, ⟨b0, b1, b2, b3⟩, q1, q2, q3, q4, -⟩ := h8 j hj
    refine gMet_mono (k_X_total_ok l X ad u sz x nC nB j _ _ _ h1 h3 b0 hj r2) fun v u' s ⟨e1, e2, e3⟩ => postK_th h0 (e1.trans ?_) e2
    congr 2
    rw [a_total, totM, r4, ← isMb_lt, if_pos hb, nI_clamp (by omega), q2]
  · refine gMet_mono (k_X_total_no l X ad u sz x nC nB b h1 h3 (isMb_ff hb)) fun v u' s ⟨e1, e2, e3⟩ => postK_th h0 (e1.trans ?_) e2
    congr 2
    rw [a_total, totM, r4, ← isMb_lt, if_neg hb]
/-- a member of a club, on both sides -/
theorem memM_k {M : mM} {nC k n : Nat} {y : Int32} (h1 : M.1 1 = nI nC) (hC : nC ≤ 4) (hk : k < nC) (h2 : M.2.1 1 k = nI n) : memM (M.1 1) (M.2.1 1) (nI k) y = isMb y (nI n) := by
  rw [memM, h1, isMb_nI (by omega) hk, Bool.true_and, nI_clamp (by omega), h2]; rfl
theorem memM_no {M : mM} {nC : Nat} {c y : Int32} (h1 : M.1 1 = nI nC) (h : ¬ isMb c (nI nC) = true) : memM (M.1 1) (M.2.1 1) c y = false := by
  rw [memM, h1, isMb_ff h, Bool.false_and]
def nbM (M : mM) : Nat := (M.1 7).toNatClampNeg
theorem nbM_eq {M : mM} {nC nB : Nat} (h : R0 M nC nB) : nbM M = nB := by rw [nbM, h.2.2.2.1]; exact nI_clamp (by have := h.2.1; omega)
def a_balance (M : mM) (c y : Int32) : Int64 := balM (M.1 1) (M.2.1 1) (M.2.1 9) (M.2.1 11) (M.2.2 13) (M.2.2 12) (M.2.2 15) (nbM M) c y
theorem nI_le12 {n : Nat} (h : n ≤ 12) : nI n ≤ 12 := by rw [show (12 : Int32) = nI 12 from rfl, nI_leI (by omega) (by decide)]; exact h
theorem t_X_balance (l : Launch) (X : gX) (ad : Nat → Nat) (u : gW) (sz x : Nat) (M : mM) (nC nB : Nat) (c y : Int32) (h : kD X ad x M u nC nB) : gMet l (EE X) y_X_balance c_X_balance 4 (some .long) ({ frames := 1, cells := 0, slots := 0, locals := 21 }) [.ref (ad x), .int c, .int y] ad u sz (postK X ad x (sI M 0 0) (.long (a_balance M c y)) u) := by
  have h0 := h
  obtain ⟨r0, ⟨h1, h2, h3⟩, -, -, h7, -⟩ := h
  have hnb := nbM_eq r0
  obtain ⟨r1, r2, r3, r4, -⟩ := r0
  by_cases hb : isMb c (nI nC) = true
  · obtain ⟨k, hk, rfl⟩ := isMb_nat (by omega) hb
    obtain ⟨V, ⟨b0, b1, b2, b3, b4, b5, b6, b7, b8⟩, n, t, ⟨c1, c2, c3, c4, c5, c6, c7, c8, c9⟩, -, -, -, -, -, i5, -⟩ := h7 k hk
    refine gMet_mono (k_X_balance_ok l X ad u sz x nC nB k _ _ _ _ y h1 h2 b0 b1 hk r1 (by rw [c3]; exact nI_le12 c1)) fun v u' s ⟨e1, e2, e3⟩ => postK_th h0 (e1.trans ?_) e2
    congr 2
    rw [a_balance, balM, memM_k r3 r1 hk c4, c3]
    split
    · next hy =>
      obtain ⟨i, i1, rfl⟩ := isMb_nat (by omega) hy
      rw [nI_clamp (n := i) (by omega), nI_clamp (n := k) (by omega), i5 i (by omega), hnb]
    · rfl
  · refine gMet_mono (k_X_balance_no l X ad u sz x nC nB c y h1 h2 (isMb_ff hb)) fun v u' s ⟨e1, e2, e3⟩ => postK_th h0 (e1.trans ?_) e2
    congr 2
    rw [a_balance, balM, memM_no r3 hb, if_neg (by decide)]
def a_drift (M : mM) (c y : Int32) : Int64 := driM (M.1 1) (M.2.1 1) (M.2.1 9) (M.2.1 11) (M.2.2 14) (nbM M) c y
theorem t_X_drift (l : Launch) (X : gX) (ad : Nat → Nat) (u : gW) (sz x : Nat) (M : mM) (nC nB : Nat) (c y : Int32) (h : kD X ad x M u nC nB) : gMet l (EE X) y_X_drift c_X_drift 4 (some .long) ({ frames := 1, cells := 0, slots := 0, locals := 21 }) [.ref (ad x), .int c, .int y] ad u sz (postK X ad x (sI M 0 0) (.long (a_drift M c y)) u) := by
  have h0 := h
  obtain ⟨r0, ⟨h1, h2, h3⟩, -, -, h7, -⟩ := h
  have hnb := nbM_eq r0
  obtain ⟨r1, r2, r3, r4, -⟩ := r0
  by_cases hb : isMb c (nI nC) = true
  · obtain ⟨k, hk, rfl⟩ := isMb_nat (by omega) hb
    obtain ⟨V, ⟨b0, b1, b2, b3, b4, b5, b6, b7, b8⟩, n, t, ⟨c1, c2, c3, c4, c5, c6, c7, c8, c9⟩, -, -, -, -, -, -, i6, -⟩ := h7 k hk
    refine gMet_mono (k_X_drift_ok l X ad u sz x nC nB k _ _ _ _ y h1 h2 b0 b2 hk r1 (by rw [c3]; exact nI_le12 c1)) fun v u' s ⟨e1, e2, e3⟩ => postK_th h0 (e1.trans ?_) e2
    congr 2
    rw [a_drift, driM, memM_k r3 r1 hk c4, c3]
    split
    · next hy =>
      obtain ⟨i, i1, rfl⟩ := isMb_nat (by omega) hy
      rw [nI_clamp (n := i) (by omega), i6 i (by omega), hnb]
    · rfl
  · refine gMet_mono (k_X_drift_no l X ad u sz x nC nB c y h1 h2 (isMb_ff hb)) fun v u' s ⟨e1, e2, e3⟩ => postK_th h0 (e1.trans ?_) e2
    congr 2
    rw [a_drift, driM, memM_no r3 hb, if_neg (by decide)]
def a_count (M : mM) (c w : Int32) : Int32 := couM (M.1 1) (M.2.1 1) (M.2.1 16) (M.2.1 17) (M.2.1 19) (M.2.1 23) (M.2.1 2) c w
theorem t_X_count (l : Launch) (X : gX) (ad : Nat → Nat) (u : gW) (sz x : Nat) (M : mM) (nC nB : Nat) (c w : Int32) (h : kD X ad x M u nC nB) : gMet l (EE X) y_X_count c_X_count 4 (some .int) ({ frames := 1, cells := 0, slots := 0, locals := 21 }) [.ref (ad x), .int c, .int w] ad u sz (postK X ad x (sI M 0 0) (.int (a_count M c w)) u) := by
  have h0 := h
  obtain ⟨⟨r1, r2, r3, r4, -⟩, ⟨h1, h2, h3⟩, -, -, h7, -⟩ := h
  by_cases hb : isMb c (nI nC) = true
  · obtain ⟨k, hk, rfl⟩ := isMb_nat (by omega) hb
    obtain ⟨V, ⟨b0, b1, b2, b3, b4, b5, b6, b7, b8⟩, n, t, ⟨c1, c2, c3, c4, c5, c6, c7, c8, c9⟩, -, i1, -⟩ := h7 k hk
    refine gMet_mono (k_X_count_ok l X ad u sz x nC nB k _ _ _ _ _ _ _ w h1 h2 b0 b3 hk r1) fun v u' s ⟨e1, e2, e3⟩ => postK_th h0 (e1.trans ?_) e2
    congr 2
    rw [couX, a_count, couM, r3, hb, if_neg (show ¬ (true = false) by decide), nI_clamp (by omega), c4, c7, c8, c9, c3, untM, c6, nI_clamp (by omega), ← i1]
  · refine gMet_mono (k_X_count_no l X ad u sz x nC nB c w h1 h2 (isMb_ff hb)) fun v u' s ⟨e1, e2, e3⟩ => postK_th h0 (e1.trans ?_) e2
    congr 2
    rw [a_count, couM, r3, isMb_ff hb, if_pos rfl]
def a_groupOf (M : mM) (c y : Int32) : Int32 := grpM (M.1 1) (M.2.1 1) (M.2.1 16) (M.2.1 18) c y
theorem t_X_groupOf (l : Launch) (X : gX) (ad : Nat → Nat) (u : gW) (sz x : Nat) (M : mM) (nC nB : Nat) (c y : Int32) (h : kD X ad x M u nC nB) : gMet l (EE X) y_X_groupOf c_X_groupOf 4 (some .int) ({ frames := 1, cells := 0, slots := 0, locals := 21 }) [.ref (ad x), .int c, .int y] ad u sz (postK X ad x (sI M 0 0) (.int (a_groupOf M c y)) u) := by
  have h0 := h
  obtain ⟨⟨r1, r2, r3, r4, -⟩, ⟨h1, h2, h3⟩, -, -, h7, -⟩ := h
  by_cases hb : isMb c (nI nC) = true
  · obtain ⟨k, hk, rfl⟩ := isMb_nat (by omega) hb
    obtain ⟨V, ⟨b0, b1, b2, b3, b4, b5, b6, b7, b8⟩, n, t, ⟨c1, c2, c3, c4, c5, c6, c7, c8, c9⟩, -, -, i2, -⟩ := h7 k hk
    refine gMet_mono (k_X_groupOf_ok l X ad u sz x nC nB k _ _ _ _ _ _ _ _ y h1 h2 b0 b3 b4 hk r1 (by rw [c3]; exact nI_le12 c1)) fun v u' s ⟨e1, e2, e3⟩ => postK_th h0 (e1.trans ?_) e2
    congr 2
    rw [a_groupOf, grpM, memM_k r3 r1 hk c4, c3, nI_clamp (n := k) (by omega), c8]
    by_cases hy : isMb y (nI n) = true
    · rw [if_pos hy, if_pos hy]
      obtain ⟨i, i1, rfl⟩ := isMb_nat (by omega) hy
      rw [nI_clamp (n := i) (by omega), i2 i (by omega)]
    · rw [if_neg hy, if_neg hy]
      split <;> rfl
  · refine gMet_mono (k_X_groupOf_no l X ad u sz x nC nB c y h1 h2 (isMb_ff hb)) fun v u' s ⟨e1, e2, e3⟩ => postK_th h0 (e1.trans ?_) e2
    congr 2
    rw [a_groupOf, grpM, memM_no r3 hb, if_neg (by decide)]
