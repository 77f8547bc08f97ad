/-! settle: program and model side by side -/
theorem upd_s (f : Nat → Int32) (i : Nat) (v : Int32) : upd f i v i = v := if_pos rfl
theorem upd_o {f : Nat → Int32} {i j : Nat} {v : Int32} (h : j ≠ i) : upd f i v j = f j := if_neg h
theorem updL_s (f : Nat → Int64) (i : Nat) (v : Int64) : vp_updL f i v i = v := if_pos rfl
theorem updL_o {f : Nat → Int64} {i j : Nat} {v : Int64} (h : j ≠ i) : vp_updL f i v j = f j := if_neg h
section GA
variable {bal am : Nat → Int64} {mem : Nat → Int32}
theorem gaS_mono {m m' : Nat} (h : m ≤ m') : (gaS bal mem am m).1 ≤ (gaS bal mem am m').1 := by
  induction m' with
  | zero => rw [show m = 0 by omega]; exact Nat.le_refl _
  | succ m' ih =>
    by_cases e : m = m' + 1
    · rw [e]; exact Nat.le_refl _
    · have := ih (by omega)
      by_cases hb : bal m' = 0
      · rw [gaS_t hb]; exact this
      · rw [gaS_f hb]; show _ ≤ (gaS bal mem am m').1 + 1; omega
theorem gaS_keep {m m' i : Nat} (h : m ≤ m') (hi : i < (gaS bal mem am m).1) : (gaS bal mem am m').2.1 i = (gaS bal mem am m).2.1 i ∧ (gaS bal mem am m').2.2 i = (gaS bal mem am m).2.2 i := by
  induction m' with
  | zero => rw [show m = 0 by omega]; exact ⟨rfl, rfl⟩
  | succ m' ih =>
    by_cases e : m = m' + 1
    · rw [e]; exact ⟨rfl, rfl⟩
    · have h1 := ih (by omega)
      by_cases hb : bal m' = 0
      · rw [gaS_t hb]; exact h1
      · rw [gaS_f hb]
        have h2 : (gaS bal mem am m).1 ≤ (gaS bal mem am m').1 := gaS_mono (by omega)
        exact ⟨(upd_o (by omega)).trans h1.1, (updL_o (by omega)).trans h1.2⟩
theorem gaS_new {m : Nat} (hm : m < 12) (hb : ¬ bal m = 0) : (gaS bal mem am m).1 < (gaS bal mem am 12).1 ∧ (gaS bal mem am 12).2.1 (gaS bal mem am m).1 = nI m ∧ (gaS bal mem am 12).2.2 (gaS bal mem am m).1 = bal m := by
  have e := gaS_f (mem := mem) (am := am) hb
  have h1 : (gaS bal mem am (m + 1)).1 = (gaS bal mem am m).1 + 1 := by rw [e]
  have h2 : (gaS bal mem am (m + 1)).1 ≤ (gaS bal mem am 12).1 := gaS_mono (by omega)
  have h3 := gaS_keep (bal := bal) (mem := mem) (am := am) (m := m + 1) (m' := 12) (i := (gaS bal mem am m).1) (by omega) (by omega)
  refine ⟨by omega, h3.1.trans ?_, h3.2.trans ?_⟩
  · rw [e]; exact upd_s _ _ _
  · rw [e]; exact updL_s _ _ _
/-- which member stands at place i -/
def miG (bal : Nat → Int64) (mem : Nat → Int32) (am : Nat → Int64) (i : Nat) : Nat := ((gaS bal mem am 12).2.1 i).toNatClampNeg
theorem gaS_find (m : Nat) (hm : m ≤ 12) : ∀ i, i < (gaS bal mem am m).1 → ∃ j, j < m ∧ ¬ bal j = 0 ∧ (gaS bal mem am j).1 = i := by
  induction m with
  | zero => exact fun i h => absurd h (Nat.not_lt_zero _)
  | succ m ih =>
    by_cases hb : bal m = 0
    · rw [gaS_t hb]; intro i hi; obtain ⟨j, h1, h2, h3⟩ := ih (by omega) i hi; exact ⟨j, by omega, h2, h3⟩
    · rw [gaS_f hb]; intro i hi
      by_cases e : i = (gaS bal mem am m).1
      · exact ⟨m, by omega, hb, e.symm⟩
      · obtain ⟨j, h1, h2, h3⟩ := ih (by omega) i (by have : i < (gaS bal mem am m).1 + 1 := hi; omega); exact ⟨j, by omega, h2, h3⟩
theorem miG_at {m : Nat} (hm : m < 12) (hb : ¬ bal m = 0) : miG bal mem am (gaS bal mem am m).1 = m := by
  rw [miG, (gaS_new hm hb).2.1]; exact nI_clamp (by omega)
theorem miG_ok {i : Nat} (hi : i < (gaS bal mem am 12).1) : miG bal mem am i < 12 ∧ ¬ bal (miG bal mem am i) = 0 ∧ (gaS bal mem am (miG bal mem am i)).1 = i ∧ (gaS bal mem am 12).2.1 i = nI (miG bal mem am i) ∧ (gaS bal mem am 12).2.2 i = bal (miG bal mem am i) := by
  obtain ⟨j, h1, h2, h3⟩ := gaS_find 12 (Nat.le_refl _) i hi
  have e : miG bal mem am i = j := by rw [← h3]; exact miG_at h1 h2
  obtain ⟨-, g2, g3⟩ := gaS_new (mem := mem) (am := am) h1 h2
  rw [h3] at g2 g3
  rw [e]
  exact ⟨h1, h2, h3, g2, g3⟩
theorem miG_inc : incM (miG bal mem am) (gaS bal mem am 12).1 12 := by
  refine ⟨fun i j hij hj => ?_, fun i hi => (miG_ok hi).1⟩
  obtain ⟨a1, -, a3, -, -⟩ := miG_ok (bal := bal) (mem := mem) (am := am) (i := i) (by omega)
  obtain ⟨b1, -, b3, -, -⟩ := miG_ok (bal := bal) (mem := mem) (am := am) hj
  rcases Nat.lt_or_ge (miG bal mem am i) (miG bal mem am j) with h | h
  · exact h
  · have := gaS_mono (bal := bal) (mem := mem) (am := am) h
    rw [a3, b3] at this; omega
theorem maskB_in {m j : Nat} : (maskB bal m).testBit j = true ↔ j < m ∧ ¬ bal j = 0 := by
  induction m with
  | zero => simp [maskB]
  | succ m ih =>
    simp only [maskB]
    split
    · next h =>
      rw [ih]
      constructor
      · rintro ⟨h1, h2⟩; exact ⟨by omega, h2⟩
      · rintro ⟨h1, h2⟩
        exact ⟨by rcases Nat.lt_or_ge j m with q | q; exact q; exact absurd h (by rw [show m = j by omega]; exact h2), h2⟩
    · next h =>
      rw [or_in, ih, pow_in]
      constructor
      · rintro (⟨h1, h2⟩ | h1)
        · exact ⟨by omega, h2⟩
        · subst h1; exact ⟨by omega, h⟩
      · rintro ⟨h1, h2⟩
        by_cases e : m = j
        · exact Or.inr e
        · exact Or.inl ⟨by omega, h2⟩
theorem mask_full : exN (miG bal mem am) (2 ^ (gaS bal mem am 12).1 - 1) (gaS bal mem am 12).1 = maskB bal 12 := by
  apply tb_ext
  intro j
  rw [exN_in, maskB_in]
  constructor
  · rintro ⟨i, h1, -, h3⟩
    have := miG_ok (bal := bal) (mem := mem) (am := am) h1
    rw [h3] at this
    exact ⟨this.1, this.2.1⟩
  · rintro ⟨h1, h2⟩
    refine ⟨_, (gaS_new (mem := mem) (am := am) h1 h2).1, ?_, miG_at h1 h2⟩
    rw [Nat.testBit_two_pow_sub_one, decide_eq_true_iff]
    exact (gaS_new h1 h2).1
theorem sumB_all {s : Nat} (n : Nat) (h : ∀ j, j < n → ¬ s.testBit j = true → bal j = 0) : sumB bal s n = sumL bal n := by
  induction n with
  | zero => rfl
  | succ n ih =>
    have := ih fun j hj => h j (by omega)
    by_cases hb : s.testBit n = true
    · rw [sumB_t hb, this]; rfl
    · rw [sumB_f hb, this, sumL, h n (by omega) hb, Int64.add_zero]
end GA
/-- the settlement of the program (x) and of the model's club c (y) -/
def gRel (c n : Nat) (x y : gSt) : Prop :=
  (∀ j, j < 12 → y.1 (12 * c + j) = x.1 j) ∧ (∀ j, j < x.2.2.2.2.2.1 → y.2.1 (11 * c + j) = x.2.1 j ∧ y.2.2.1 (11 * c + j) = x.2.2.1 j ∧ y.2.2.2.1 (11 * c + j) = x.2.2.2.1 j ∧ y.2.2.2.2.1 (11 * c + j) = 0 ∧ x.2.2.2.2.1 j = 0) ∧
  y.2.2.2.2.2.1 = x.2.2.2.2.2.1 ∧ x.2.2.2.2.2.2.1 = nI x.2.2.2.2.2.1 ∧ (∀ j, vp_in (x.2.1 j) 12) ∧ (∀ j, vp_in (x.2.2.1 j) 12) ∧ ∀ j, j < x.2.2.2.2.2.1 → ∃ a b, a < n ∧ b < n ∧ x.2.1 j = nI a ∧ x.2.2.1 j = nI b
def gRun (n : Nat) (x y : gSt) : Prop := y.2.2.2.2.2.2.2.1 = x.2.2.2.2.2.2.2.1 ∧ y.2.2.2.2.2.2.2.2 = x.2.2.2.2.2.2.2.2 ∧ (x.2.2.2.2.2.2.2.2 = -1 ∨ ∃ a, a < n ∧ a < 12 ∧ x.2.2.2.2.2.2.2.2 = nI a)
/-- nothing of another club is touched -/
def gFr (c : Nat) (y0 y : gSt) : Prop := (∀ q, ¬ (12 * c ≤ q ∧ q < 12 * c + 12) → y.1 q = y0.1 q) ∧ ∀ q, ¬ (11 * c ≤ q ∧ q < 11 * c + 11) → y.2.1 q = y0.2.1 q ∧ y.2.2.1 q = y0.2.2.1 q ∧ y.2.2.2.1 q = y0.2.2.2.1 q ∧ y.2.2.2.2.1 q = y0.2.2.2.2.1 q
theorem gFr.trans {c : Nat} {a b d : gSt} (h1 : gFr c a b) (h2 : gFr c b d) : gFr c a d :=
  ⟨fun q hq => (h2.1 q hq).trans (h1.1 q hq), fun q hq => ⟨(h2.2 q hq).1.trans (h1.2 q hq).1, (h2.2 q hq).2.1.trans (h1.2 q hq).2.1, (h2.2 q hq).2.2.1.trans (h1.2 q hq).2.2.1, (h2.2 q hq).2.2.2.trans (h1.2 q hq).2.2.2⟩⟩
theorem gRel_gr {c n m : Nat} {x y : gSt} {gc : Int32} {a : Int64} (hm : m < 12) (hn : m < n) (h : gRel c n x y) (hr : gRun n x y) : gRel c n (grS x (nI m) gc a) (mgS c y m gc a) ∧ gRun n (grS x (nI m) gc a) (mgS c y m gc a) := by
  obtain ⟨h1, h2, h3, h4, h5, h6, h7⟩ := h
  refine ⟨⟨fun j hj => ?_, h2, h3, h4, h5, h6, h7⟩, ⟨?_, rfl, Or.inr ⟨m, hn, hm, rfl⟩⟩⟩
  · show upd y.1 (12 * c + m) gc (12 * c + j) = upd x.1 (nI m).toNatClampNeg gc j
    rw [nI_clamp (by omega)]
    by_cases e : j = m
    · rw [e, upd_s, upd_s]
    · rw [upd_o (by omega), upd_o e]; exact h1 j hj
  · show y.2.2.2.2.2.2.2.1 + a = x.2.2.2.2.2.2.2.1 + a
    rw [hr.1]
theorem pickI_in {s : Int64} {a b : Int32} (ha : vp_in a 12) (hb : vp_in b 12) : vp_in (pickI s a b) 12 := by
  unfold pickI; split <;> assumption
theorem gRel_tr {c n m : Nat} {x y : gSt} (hm : m < 12) (hn : m < n) (ht : x.2.2.2.2.2.1 < 11) (h : gRel c n x y) (hr : gRun n x y) (hne : ¬ x.2.2.2.2.2.2.2.2 = -1) : gRel c n (trS x (nI m)) (mtS c y (nI m)) ∧ gRun n (trS x (nI m)) (mtS c y (nI m)) := by
  obtain ⟨h1, h2, h3, h4, h5, h6, h7⟩ := h
  obtain ⟨r1, r2, r3⟩ := hr
  obtain ⟨a, ha1, ha2, ha3⟩ := r3.resolve_left hne
  have hbe : vp_in x.2.2.2.2.2.2.2.2 12 := by rw [ha3]; exact in12 ha2
  rw [trS, if_pos (by omega)]
  refine ⟨⟨h1, fun j hj => ?_, ?_, ?_, fun j => ?_, fun j => ?_, fun j hj => ?_⟩, ⟨r1, r2, r3⟩⟩
  · have hj : j < x.2.2.2.2.2.1 + 1 := hj
    simp only [mtS, h3, r1, r2]
    by_cases e : j = x.2.2.2.2.2.1
    · rw [e]; exact ⟨by rw [upd_s, upd_s], by rw [upd_s, upd_s], by rw [updL_s, updL_s], by rw [upd_s], by rw [upd_s]⟩
    · rw [upd_o (by omega), upd_o e, upd_o (by omega), upd_o e, updL_o (by omega), updL_o e, upd_o (by omega), upd_o e]
      exact h2 j (by omega)
  · show y.2.2.2.2.2.1 + 1 = x.2.2.2.2.2.1 + 1
    rw [h3]
  · show x.2.2.2.2.2.2.1 + 1 = nI (x.2.2.2.2.2.1 + 1)
    rw [h4, nI_1]
  · show vp_in (upd x.2.1 x.2.2.2.2.2.1 _ j) 12
    by_cases e : j = x.2.2.2.2.2.1
    · rw [e, upd_s]; exact pickI_in (in12 hm) hbe
    · rw [upd_o e]; exact h5 j
  · show vp_in (upd x.2.2.1 x.2.2.2.2.2.1 _ j) 12
    by_cases e : j = x.2.2.2.2.2.1
    · rw [e, upd_s]; exact pickI_in hbe (in12 hm)
    · rw [upd_o e]; exact h6 j
  · have hj : j < x.2.2.2.2.2.1 + 1 := hj
    show ∃ a b, a < n ∧ b < n ∧ upd x.2.1 x.2.2.2.2.2.1 _ j = nI a ∧ upd x.2.2.1 x.2.2.2.2.2.1 _ j = nI b
    by_cases e : j = x.2.2.2.2.2.1
    · rw [e, upd_s, upd_s, ha3]
      unfold pickI
      by_cases q : 0 ≤ x.2.2.2.2.2.2.2.1
      · rw [if_pos q, if_pos q]; exact ⟨m, a, hn, ha1, rfl, rfl⟩
      · rw [if_neg q, if_neg q]; exact ⟨a, m, ha1, hn, rfl, rfl⟩
    · rw [upd_o e, upd_o e]; exact h7 j (by omega)
theorem gFr_tr {c : Nat} {y : gSt} {b : Int32} (ht : y.2.2.2.2.2.1 < 11) : gFr c y (mtS c y b) :=
  ⟨fun q hq => rfl, fun q hq => ⟨upd_o (by omega), upd_o (by omega), updL_o (by omega), upd_o (by omega)⟩⟩
theorem gFr_gr {c m : Nat} {y : gSt} {gc : Int32} {a : Int64} (hm : m < 12) : gFr c y (mgS c y m gc a) :=
  ⟨fun q hq => upd_o (by omega), fun q hq => ⟨rfl, rfl, rfl, rfl⟩⟩
theorem gFr.refl (c : Nat) (y : gSt) : gFr c y y := ⟨fun _ _ => rfl, fun _ _ => ⟨rfl, rfl, rfl, rfl⟩⟩
/-- one group -/
theorem group_eq {bal bal' am : Nat → Int64} {mem : Nat → Int32} {c n t : Nat} {gc : Int32} {x y : gSt} (hb : ∀ j, j < 12 → bal' j = bal j) (hbn : ∀ j, j < 12 → ¬ bal j = 0 → j < n) (h : gRel c n x y) (hr : gRun n x y)
    (hok : mvOk bal' c (exN (miG bal mem am) t (gaS bal mem am 12).1) gc y) (m : Nat) (hm : m ≤ 12) :
    gRel c n (adS (gaS bal mem am 12).2.1 (gaS bal mem am 12).2.2 t gc x (gaS bal mem am m).1) (mvS bal' c (exN (miG bal mem am) t (gaS bal mem am 12).1) gc y m) ∧
    gRun n (adS (gaS bal mem am 12).2.1 (gaS bal mem am 12).2.2 t gc x (gaS bal mem am m).1) (mvS bal' c (exN (miG bal mem am) t (gaS bal mem am 12).1) gc y m) ∧
    gFr c y (mvS bal' c (exN (miG bal mem am) t (gaS bal mem am 12).1) gc y m) := by
  induction m with
  | zero => exact ⟨h, hr, gFr.refl _ _⟩
  | succ m ih =>
    obtain ⟨i1, i2, i3⟩ := ih (by omega)
    by_cases hz : bal m = 0
    · rw [gaS_t hz, mvS_f (fun q => by
        obtain ⟨i, q1, -, q3⟩ := exN_in.mp q
        have := (miG_ok q1).2.1
        rw [q3] at this; exact this hz)]
      exact ⟨i1, i2, i3⟩
    · obtain ⟨g1, g2, g3⟩ := gaS_new (mem := mem) (am := am) (show m < 12 by omega) hz
      have e1 : (gaS bal mem am (m + 1)).1 = (gaS bal mem am m).1 + 1 := by rw [gaS_f hz]
      have eb : (exN (miG bal mem am) t (gaS bal mem am 12).1).testBit m = true ↔ t.testBit (gaS bal mem am m).1 = true := by
        have := exN_at (t := t) (miG_inc (bal := bal) (mem := mem) (am := am)) g1
        rwa [miG_at (by omega) hz] at this
      rw [e1]
      by_cases hbit : t.testBit (gaS bal mem am m).1 = true
      · have hbm := eb.mpr hbit
        have hnf : ¬ t.testBit (gaS bal mem am m).1 = false := by rw [hbit]; decide
        by_cases hbe : (adS (gaS bal mem am 12).2.1 (gaS bal mem am 12).2.2 t gc x (gaS bal mem am m).1).2.2.2.2.2.2.2.2 = -1
        · rw [adS_n hnf hbe, mvS_n hbm (by rw [i2.2.1]; exact hbe), g2, g3, hb m (by omega)]
          have := gRel_gr (gc := gc) (a := bal m) (show m < 12 by omega) (hbn m (by omega) hz) i1 i2
          exact ⟨this.1, this.2, i3.trans (gFr_gr (by omega))⟩
        · have hbe' : ¬ (mvS bal' c (exN (miG bal mem am) t (gaS bal mem am 12).1) gc y m).2.2.2.2.2.2.2.2 = -1 := by rw [i2.2.1]; exact hbe
          have ht := hok m (by omega) hbm hbe'
          rw [adS_y hnf hbe, mvS_y hbm hbe', g2, g3, hb m (by omega)]
          have a := gRel_tr (show m < 12 by omega) (hbn m (by omega) hz) (by rw [← i1.2.2.1]; exact ht) i1 i2 hbe
          have := gRel_gr (gc := gc) (a := bal m) (show m < 12 by omega) (hbn m (by omega) hz) a.1 a.2
          exact ⟨this.1, this.2, (i3.trans (gFr_tr ht)).trans (gFr_gr (by omega))⟩
      · rw [adS_f ((Bool.not_eq_true _).mp hbit), mvS_f (fun q => hbit (eb.mp q))]
        exact ⟨i1, i2, i3⟩
/-- all the groups -/
theorem settle_all {bal bal' am w0 : Nat → Int64} {mem mo mst : Nat → Int32} {c n : Nat} {x y : gSt} (hb : ∀ j, j < 12 → bal' j = bal j) (hbn : ∀ j, j < 12 → ¬ bal j = 0 → j < n) (hw0 : w0 0 = 0) (hz : sumL bal 12 = 0) (h : gRel c n x y) (hy : y.2.2.2.2.2.1 = 0) (i : Nat) :
    (seS bal' (weiR bal' w0 4095) (dvS (weiR bal' w0 4095) mst 4095) c (maskB bal' 12) y i).1 = exN (miG bal mem am) (fiS (gaS bal mem am 12).2.1 (gaS bal mem am 12).2.2 (moS (gaS bal mem am 12).2.2 (gaS bal mem am 12).1 mo (2 ^ (gaS bal mem am 12).1 - 1)) (gaS bal mem am 12).1 x i).1 (gaS bal mem am 12).1 ∧
    weiR bal' w0 4095 (seS bal' (weiR bal' w0 4095) (dvS (weiR bal' w0 4095) mst 4095) c (maskB bal' 12) y i).1 = 0 ∧
    (seS bal' (weiR bal' w0 4095) (dvS (weiR bal' w0 4095) mst 4095) c (maskB bal' 12) y i).2.1 = (fiS (gaS bal mem am 12).2.1 (gaS bal mem am 12).2.2 (moS (gaS bal mem am 12).2.2 (gaS bal mem am 12).1 mo (2 ^ (gaS bal mem am 12).1 - 1)) (gaS bal mem am 12).1 x i).2.1 ∧
    gRel c n (fiS (gaS bal mem am 12).2.1 (gaS bal mem am 12).2.2 (moS (gaS bal mem am 12).2.2 (gaS bal mem am 12).1 mo (2 ^ (gaS bal mem am 12).1 - 1)) (gaS bal mem am 12).1 x i).2.2 (seS bal' (weiR bal' w0 4095) (dvS (weiR bal' w0 4095) mst 4095) c (maskB bal' 12) y i).2.2 ∧
    gFr c y (seS bal' (weiR bal' w0 4095) (dvS (weiR bal' w0 4095) mst 4095) c (maskB bal' 12) y i).2.2 := by
  have hmask : maskB bal' 12 = maskB bal 12 := tb_ext fun j => by
    rw [maskB_in, maskB_in]
    constructor
    · rintro ⟨h1, h2⟩; exact ⟨h1, by rw [← hb j h1]; exact h2⟩
    · rintro ⟨h1, h2⟩; exact ⟨h1, by rw [hb j h1]; exact h2⟩
  have hwg : ∀ s, s < 4096 → weiR bal' w0 4095 s = sumB bal s 12 := fun s hs => by
    rw [weiR_is hw0 4095 (Nat.le_refl _) s (by omega)]
    exact sumB_congr 12 fun i hi _ => hb i hi
  have hs := sOk_of hwg
  have hM : mTab (weiR bal' w0 4095) (dvS (weiR bal' w0 4095) mst 4095) := dvS_is hs.1 hs.2.1
  have hK : (gaS bal mem am 12).1 ≤ 12 := gaS_le bal mem am 12
  have hpw : 2 ^ (gaS bal mem am 12).1 ≤ 4096 := pw12 hK
  have hpp : 0 < 2 ^ (gaS bal mem am 12).1 := Nat.pow_pos (by decide)
  have hi : incM (miG bal mem am) (gaS bal mem am 12).1 12 := miG_inc
  have hF : cTab (gaS bal mem am 12).2.2 (moS (gaS bal mem am 12).2.2 (gaS bal mem am 12).1 mo (2 ^ (gaS bal mem am 12).1 - 1)) (gaS bal mem am 12).1 := fun t ht => moS_is (by omega) t (by omega)
  have hw : ∀ t, t < 2 ^ (gaS bal mem am 12).1 → sumB (gaS bal mem am 12).2.2 t (gaS bal mem am 12).1 = weiR bal' w0 4095 (exN (miG bal mem am) t (gaS bal mem am 12).1) := fun t ht => by
    rw [hwg _ (exN_lt hi)]
    exact sumB_ex _ hi fun i h1 => (miG_ok h1).2.2.2.2
  generalize hWG : weiR bal' w0 4095 = wgh at hwg hs hM hw ⊢
  generalize hMS : dvS wgh mst 4095 = M at hM ⊢
  generalize hFF : moS (gaS bal mem am 12).2.2 (gaS bal mem am 12).1 mo (2 ^ (gaS bal mem am 12).1 - 1) = F at hF ⊢
  induction i with
  | zero =>
    refine ⟨by show maskB bal' 12 = _; rw [hmask]; exact mask_full.symm, ?_, rfl, h, gFr.refl _ _⟩
    show wgh (maskB bal' 12) = 0
    rw [hmask, hwg _ (maskB_lt _ _), sumB_all 12 (fun j hj hn => by
      by_cases e : bal j = 0
      · exact e
      · exact absurd (maskB_in.mpr ⟨hj, e⟩) hn), hz]
  | succ i ih =>
    obtain ⟨a1, a2, a3, a4, a5⟩ := ih
    have hlt := fiS_lt (mem := (gaS bal mem am 12).2.1) (av := (gaS bal mem am 12).2.2) (mo := F) (k := (gaS bal mem am 12).1) (x := x) i
    by_cases h0 : (fiS (gaS bal mem am 12).2.1 (gaS bal mem am 12).2.2 F (gaS bal mem am 12).1 x i).1 = 0
    · have h0' : (seS bal' wgh M c (maskB bal' 12) y i).1 = 0 := by rw [a1, h0, exN_0]
      rw [fiS_z h0, seS_z h0']
      exact ⟨a1, a2, a3, a4, a5⟩
    · have h0' : ¬ (seS bal' wgh M c (maskB bal' 12) y i).1 = 0 := by rw [a1]; exact exN_ne0 hi hlt h0
      have hok := seS_ok (bal := bal') (wgh := wgh) (mst := M) (c := c) (a := maskB bal' 12) (x := y) hy i
      rw [fiS_n h0, seS_n h0']
      have eg : lgN wgh M (seS bal' wgh M c (maskB bal' 12) y i).1 = exN (miG bal mem am) (fgN (gaS bal mem am 12).2.2 F (gaS bal mem am 12).1 (fiS (gaS bal mem am 12).2.1 (gaS bal mem am 12).2.2 F (gaS bal mem am 12).1 x i).1) (gaS bal mem am 12).1 := by
        rw [a1]; exact grp_eq hK hM hs hF hi hw hlt h0 (by rw [← a1]; exact a2)
      have hgz := grp_zero hK hM hs hF hi hw hlt (by rw [← a1]; exact a2)
      rw [eg] at hok ⊢
      have hsub : sub (fgN (gaS bal mem am 12).2.2 F (gaS bal mem am 12).1 (fiS (gaS bal mem am 12).2.1 (gaS bal mem am 12).2.2 F (gaS bal mem am 12).1 x i).1) (fiS (gaS bal mem am 12).2.1 (gaS bal mem am 12).2.2 F (gaS bal mem am 12).1 x i).1 := fgN_sub
      have hG := group_eq (bal := bal) (bal' := bal') (am := am) (mem := mem) (c := c) (t := fgN (gaS bal mem am 12).2.2 F (gaS bal mem am 12).1 (fiS (gaS bal mem am 12).2.1 (gaS bal mem am 12).2.2 F (gaS bal mem am 12).1 x i).1) (gc := (seS bal' wgh M c (maskB bal' 12) y i).2.1)
        (x := reS (fiS (gaS bal mem am 12).2.1 (gaS bal mem am 12).2.2 F (gaS bal mem am 12).1 x i).2.2) (y := rzS (seS bal' wgh M c (maskB bal' 12) y i).2.2) hb hbn a4 ⟨rfl, rfl, Or.inl rfl⟩ hok 12 (Nat.le_refl _)
      refine ⟨?_, ?_, ?_, ?_, ?_⟩
      · show mns _ _ = exN _ (mns _ _) _
        rw [exN_mns hi hlt, ← a1]
      · show wgh (mns _ _) = 0
        refine hs.2.1 _ _ ?_ ?_ a2 hgz
        · rw [a1]; exact exN_lt hi
        · rw [a1]; exact (exN_sub hi (sub_lt hsub hlt)).mpr hsub
      · show _ + 1 = _ + 1
        rw [a3]
      · rw [← a3]; exact hG.1
      · exact a5.trans hG.2.2
