/-! sums over sets; the most groups, by the program (cN) and by the model (rN): the same on sets that sum up to 0 -/
theorem sumB_t {am : Nat → Int64} {s i : Nat} (h : s.testBit i = true) : sumB am s (i + 1) = sumB am s i + am i := by
  rw [sumB, if_neg (by rw [h]; decide)]
theorem sumB_f {am : Nat → Int64} {s i : Nat} (h : ¬ s.testBit i = true) : sumB am s (i + 1) = sumB am s i := by
  rw [sumB, if_pos ((Bool.not_eq_true _).mp h)]
theorem sumB_0 (am : Nat → Int64) (k : Nat) : sumB am 0 k = 0 := by
  induction k with
  | zero => rfl
  | succ k ih => rw [sumB_f (by simp), ih]
theorem sumB_congr {am am' : Nat → Int64} {s : Nat} (k : Nat) (h : ∀ i, i < k → s.testBit i = true → am i = am' i) : sumB am s k = sumB am' s k := by
  induction k with
  | zero => rfl
  | succ k ih =>
    have := ih fun i hi => h i (by omega)
    by_cases hb : s.testBit k = true
    · rw [sumB_t hb, sumB_t hb, this, h k (by omega) hb]
    · rw [sumB_f hb, sumB_f hb, this]
theorem sumB_mns {am : Nat → Int64} {a b : Nat} (h : sub b a) (k : Nat) : sumB am (mns a b) k + sumB am b k = sumB am a k := by
  induction k with
  | zero => rfl
  | succ k ih =>
    by_cases hb : b.testBit k = true
    · rw [sumB_t hb, sumB_t (h k hb), sumB_f (fun q => (mns_in.mp q).2 hb), ← ih]
      exact (Int64.add_assoc _ _ _).symm
    · by_cases ha : a.testBit k = true
      · rw [sumB_f hb, sumB_t ha, sumB_t (mns_in.mpr ⟨ha, hb⟩), ← ih]
        rw [Int64.add_assoc, Int64.add_assoc, Int64.add_comm (am k)]
      · rw [sumB_f hb, sumB_f ha, sumB_f (fun q => ha (mns_in.mp q).1), ih]
theorem sumB_pow {am : Nat → Int64} {i : Nat} (k : Nat) : sumB am (2 ^ i) k = if i < k then am i else 0 := by
  induction k with
  | zero => rw [if_neg (by omega)]; rfl
  | succ k ih =>
    by_cases e : i = k
    · subst e
      rw [sumB_t (pow_in.mpr rfl), ih, if_neg (by omega), if_pos (by omega), Int64.zero_add]
    · rw [sumB_f (fun q => e (pow_in.mp q)), ih]
      by_cases h : i < k
      · rw [if_pos h, if_pos (by omega)]
      · rw [if_neg h, if_neg (by omega)]
theorem sumB_or {am : Nat → Int64} {a i k : Nat} (h : ¬ a.testBit i = true) (hi : i < k) : sumB am (a ||| 2 ^ i) k = sumB am a k + am i := by
  have h1 := sumB_mns (am := am) (a := a ||| 2 ^ i) (b := 2 ^ i) (fun j hj => or_in.mpr (Or.inr hj)) k
  rw [show mns (a ||| 2 ^ i) (2 ^ i) = a from tb_ext fun j => by
    rw [mns_in, or_in, pow_in]
    constructor
    · rintro ⟨h1 | h1, h2⟩
      · exact h1
      · exact absurd h1 h2
    · intro hj
      exact ⟨Or.inl hj, fun e => h (by rw [e]; exact hj)⟩, sumB_pow, if_pos hi] at h1
  exact h1.symm
theorem sumB_ex {mi : Nat → Nat} {n : Nat} {av bal : Nat → Int64} {t : Nat} (k : Nat) (h : incM mi k n) (hv : ∀ i, i < k → av i = bal (mi i)) : sumB av t k = sumB bal (exN mi t k) n := by
  induction k with
  | zero => exact (sumB_0 _ _).symm
  | succ k ih =>
    have h' : incM mi k n := ⟨fun i j h1 h2 => h.1 i j h1 (by omega), fun i h1 => h.2 i (by omega)⟩
    have := ih h' fun i hi => hv i (by omega)
    by_cases hb : t.testBit k = true
    · rw [sumB_t hb, exN, if_pos hb, sumB_or ?_ (h.2 k (by omega)), this, hv k (by omega)]
      intro q
      obtain ⟨i, h1, -, h3⟩ := exN_in.mp q
      have := h.1 i k h1 (by omega); omega
    · rw [sumB_f hb, exN, if_neg hb, this]
theorem weiR_is {bal w0 : Nat → Int64} (h0 : w0 0 = 0) (J : Nat) (hJ : J ≤ 4095) : ∀ s, s ≤ J → weiR bal w0 J s = sumB bal s 12 := by
  induction J with
  | zero => intro s hs; rw [show s = 0 by omega, sumB_0]; exact h0
  | succ J ih =>
    have ih := ih (by omega)
    intro s hs
    rw [show weiR bal w0 (J + 1) = vp_updL (weiR bal w0 J) (J + 1) (weiR bal w0 J (mns (J + 1) (2 ^ lowI (J + 1))) + bal (lowI (J + 1))) from rfl]
    by_cases e : s = J + 1
    · subst e
      simp only [vp_updL, if_pos]
      have hl := lowI_bit (s := J + 1) (by omega) (by omega)
      have hlt := lowI_lt (s := J + 1) (by omega) (by omega)
      have h2 := mns_lt_self (b := 2 ^ lowI (J + 1)) hl (pow_in.mpr rfl)
      rw [ih _ (by omega)]
      have h3 := sumB_mns (am := bal) (a := J + 1) (b := 2 ^ lowI (J + 1)) (fun j hj => by rw [← pow_in.mp hj]; exact hl) 12
      rw [sumB_pow, if_pos hlt] at h3
      exact h3
    · simp only [vp_updL, if_neg e]
      exact ih s (by omega)
/-! the program -/
theorem innS_1 {am : Nat → Int64} {mo : Nat → Int32} {s : Nat} (k : Nat) : (innS am mo s k).1 = sumB am s k := by
  induction k with
  | zero => rfl
  | succ k ih =>
    by_cases h : s.testBit k = false
    · rw [innS_f h, sumB, if_pos h, ih]
    · rw [innS_t h, sumB, if_neg h, ← ih]
/-- the highest among the sets with one less -/
def hN (c : Nat → Nat) (s : Nat) : Nat → Nat
  | 0 => 0
  | i + 1 => if s.testBit i = true then max (hN c s i) (c (s ^^^ 2 ^ i)) else hN c s i
theorem hN_ge {c : Nat → Nat} {s i k : Nat} (hi : i < k) (h : s.testBit i = true) : c (s ^^^ 2 ^ i) ≤ hN c s k := by
  induction k with
  | zero => omega
  | succ k ih =>
    simp only [hN]
    by_cases e : i = k
    · subst e; rw [if_pos h]; exact Nat.le_max_right _ _
    · have := ih (by omega)
      split
      · exact Nat.le_trans this (Nat.le_max_left _ _)
      · exact this
theorem hN_is {c : Nat → Nat} {s k : Nat} : hN c s k = 0 ∨ ∃ i, i < k ∧ s.testBit i = true ∧ hN c s k = c (s ^^^ 2 ^ i) := by
  induction k with
  | zero => exact Or.inl rfl
  | succ k ih =>
    simp only [hN]
    split
    · next h =>
      rcases Nat.le_total (hN c s k) (c (s ^^^ 2 ^ k)) with q | q
      · rw [Nat.max_eq_right q]; exact Or.inr ⟨k, by omega, h, rfl⟩
      · rw [Nat.max_eq_left q]
        rcases ih with h1 | ⟨i, h1, h2, h3⟩
        · exact Or.inl h1
        · exact Or.inr ⟨i, by omega, h2, h3⟩
    · rcases ih with h1 | ⟨i, h1, h2, h3⟩
      · exact Or.inl h1
      · exact Or.inr ⟨i, by omega, h2, h3⟩
theorem xor_pow_lt {s i : Nat} (h : s.testBit i = true) : s ^^^ 2 ^ i < s := by
  rw [xor_sub (fun j hj => by rw [← pow_in.mp hj]; exact h)]
  exact mns_lt_self h (pow_in.mpr rfl)
theorem innS_2 {am : Nat → Int64} {mo : Nat → Int32} {c : Nat → Nat} {s : Nat} (hs : s < 4096) (hc : ∀ q, q < s → mo q = nI (c q) ∧ c q ≤ q) (k : Nat) : (innS am mo s k).2 = nI (hN c s k) ∧ hN c s k < s + 1 := by
  induction k with
  | zero => exact ⟨rfl, by simp only [hN]; omega⟩
  | succ k ih =>
    by_cases h : s.testBit k = true
    · rw [innS_t (by rw [h]; decide)]
      simp only [hN, if_pos h]
      obtain ⟨h1, h2⟩ := hc _ (xor_pow_lt h)
      have h3 := xor_pow_lt h
      rw [ih.1, h1]
      by_cases q : hN c s k < c (s ^^^ 2 ^ k)
      · rw [if_pos ((nI_ltI (by omega) (by omega)).mpr q), Nat.max_eq_right (by omega)]
        exact ⟨rfl, by omega⟩
      · rw [if_neg (fun z => q ((nI_ltI (by omega) (by omega)).mp z)), Nat.max_eq_left (by omega)]
        exact ⟨rfl, by omega⟩
    · rw [innS_f ((Bool.not_eq_true _).mp h)]
      simp only [hN, if_neg h]
      exact ih
theorem hN_lt {c : Nat → Nat} {s : Nat} (h0 : s ≠ 0) (hc : ∀ q, q < s → c q ≤ q) (k : Nat) : hN c s k < s := by
  rcases hN_is (c := c) (s := s) (k := k) with h | ⟨i, h1, h2, h3⟩
  · omega
  · have h4 := xor_pow_lt h2
    have h5 := hc _ h4
    omega
theorem moS_fin {am : Nat → Int64} {mo : Nat → Int32} {k J t : Nat} (h : t ≤ J) : moS am k mo J t = moS am k mo t t := by
  induction J with
  | zero => rw [show t = 0 by omega]
  | succ J ih =>
    by_cases e : t = J + 1
    · rw [e]
    · rw [show moS am k mo (J + 1) = upd (moS am k mo J) (J + 1) (moV am (moS am k mo J) k (J + 1)) from rfl]
      simp only [upd, if_neg e]
      exact ih (by omega)
/-- the program's most groups, as a number -/
def cN (mo : Nat → Int32) (t : Nat) : Nat := (mo t).toNatClampNeg
theorem moS_is {am : Nat → Int64} {mo : Nat → Int32} {k J : Nat} (hJ : J < 4096) : ∀ t, t ≤ J → moS am k mo J t = nI (cN (moS am k mo J) t) ∧ cN (moS am k mo J) t ≤ t ∧ (t = 0 → cN (moS am k mo J) t = 0) ∧ (t ≠ 0 → cN (moS am k mo J) t = hN (cN (moS am k mo J)) t k + (if sumB am t k = 0 then 1 else 0)) := by
  intro t
  induction t using Nat.strongRecOn with
  | _ t ih =>
    intro ht
    have key : ∀ n, n < 4096 → moS am k mo J t = nI n → moS am k mo J t = nI (cN (moS am k mo J) t) ∧ cN (moS am k mo J) t = n := by
      intro n hn e
      have : cN (moS am k mo J) t = n := by rw [cN, e]; exact nI_clamp (by omega)
      exact ⟨by rw [this]; exact e, this⟩
    by_cases h0 : t = 0
    · subst h0
      have e : moS am k mo J 0 = nI 0 := by
        rw [moS_fin (Nat.zero_le J)]
        show upd mo 0 0 0 = nI 0
        simp [upd]; rfl
      obtain ⟨h1, h2⟩ := key 0 (by omega) e
      exact ⟨h1, by omega, fun _ => h2, fun h => absurd rfl h⟩
    · obtain ⟨j, rfl⟩ : ∃ j, t = j + 1 := ⟨t - 1, by omega⟩
      have hc : ∀ q, q < j + 1 → moS am k mo J q = nI (cN (moS am k mo J) q) ∧ cN (moS am k mo J) q ≤ q := fun q hq => ⟨(ih q hq (by omega)).1, (ih q hq (by omega)).2.1⟩
      have e : moS am k mo J (j + 1) = moV am (moS am k mo j) k (j + 1) := by
        rw [moS_fin ht]
        show upd _ _ _ _ = _
        simp [upd]
      have hc2 : ∀ q, q < j + 1 → moS am k mo j q = nI (cN (moS am k mo J) q) ∧ cN (moS am k mo J) q ≤ q := fun q hq => by
        have := hc q hq
        rw [moS_fin (show q ≤ J by omega)] at this
        rw [moS_fin (show q ≤ j by omega)]
        exact this
      have h2 := innS_2 (am := am) (by omega : j + 1 < 4096) hc2 k
      have h3 := hN_lt (c := cN (moS am k mo J)) (s := j + 1) (by omega) (fun q hq => (hc q hq).2) k
      rw [moV, innS_1, h2.1] at e
      by_cases hz : sumB am (j + 1) k = 0
      · rw [if_pos hz, nI_1] at e
        obtain ⟨h4, h5⟩ := key _ (by omega) e
        exact ⟨h4, by omega, fun h => absurd h h0, fun _ => by rw [h5, if_pos hz]⟩
      · rw [if_neg hz] at e
        obtain ⟨h4, h5⟩ := key _ (by omega) e
        exact ⟨h4, by omega, fun h => absurd h h0, fun _ => by rw [h5, if_neg hz]; rfl⟩
/-! the model -/
theorem dvI_congr {wgh : Nat → Int64} {mst mst' : Nat → Int32} {s f r : Nat} (hf : ∃ j, f.testBit j = true ∧ s.testBit j = true) (h : ∀ q, q < s → mst q = mst' q) (i : Nat) : dvI wgh mst s f r i = dvI wgh mst' s f r i := by
  induction i with
  | zero => rfl
  | succ i ih =>
    by_cases hz : (dvI wgh mst s f r i).2.1 = false
    · rw [dvI_z hz, dvI_z (by rw [← ih]; exact hz), ih]
    · rw [dvI_n hz, dvI_n (by rw [← ih]; exact hz), ← ih]
      obtain ⟨j, h1, h2⟩ := hf
      have h3 : mns s ((dvI wgh mst s f r i).1 ||| f) < s := mns_lt_self h2 (or_in.mpr (Or.inr h1))
      have e : ∀ v, upd mst s v (mns s ((dvI wgh mst s f r i).1 ||| f)) = upd mst' s v (mns s ((dvI wgh mst s f r i).1 ||| f)) := by
        intro v
        simp only [upd, if_neg (show ¬ mns s ((dvI wgh mst s f r i).1 ||| f) = s by omega)]
        exact h _ h3
      simp only [e]
theorem dvS_fin {wgh : Nat → Int64} {mst : Nat → Int32} {J t : Nat} (h : t ≤ J) : dvS wgh mst J t = dvS wgh mst t t := by
  induction J with
  | zero => rw [show t = 0 by omega]
  | succ J ih =>
    by_cases e : t = J + 1
    · rw [e]
    · rw [show dvS wgh mst (J + 1) = upd (dvS wgh mst J) (J + 1) (dvV wgh (dvS wgh mst J) (J + 1)) from rfl]
      simp only [upd, if_neg e]
      exact ih (by omega)
/-- the model's most groups, as a number -/
def rN (mst : Nat → Int32) (t : Nat) : Nat := (mst t).toNatClampNeg
/-- what is known of the model's table below s -/
def rOk (wgh : Nat → Int64) (mst : Nat → Int32) (q : Nat) : Prop := (wgh q = 0 → mst q = nI (rN mst q) ∧ rN mst q ≤ q) ∧ (¬ wgh q = 0 → mst q = -1)
/-- the best of the groups T = p with the lowest one, p any of the submasks that V names -/
def bestD (wgh : Nat → Int64) (mst : Nat → Int32) (s f r : Nat) (V : Nat → Prop) (v : Int32) : Prop :=
  (v = -1 ∧ ∀ p, sub p r → V p → ¬ wgh (p ||| f) = 0) ∨ ∃ p, sub p r ∧ V p ∧ wgh (p ||| f) = 0 ∧ v = nI (rN mst (mns s (p ||| f)) + 1) ∧ ∀ p', sub p' r → V p' → wgh (p' ||| f) = 0 → rN mst (mns s (p' ||| f)) ≤ rN mst (mns s (p ||| f))
theorem dvI_best {wgh : Nat → Int64} {mst : Nat → Int32} {s f r : Nat} (hs : s < 4096) (hf : ∃ j, f.testBit j = true ∧ s.testBit j = true) (hok : ∀ q, q < s → rOk wgh mst q) (hw : ∀ p, sub p r → wgh (p ||| f) = 0 → wgh (mns s (p ||| f)) = 0) (i : Nat) :
    ((dvI wgh mst s f r i).2.1 = true → sub (dvI wgh mst s f r i).1 r ∧ bestD wgh mst s f r (fun p => (dvI wgh mst s f r i).1 < p) (dvI wgh mst s f r i).2.2) ∧
    ((dvI wgh mst s f r i).2.1 = false → bestD wgh mst s f r (fun _ => True) (dvI wgh mst s f r i).2.2) := by
  induction i with
  | zero =>
    refine ⟨fun _ => ⟨sub.refl _, Or.inl ⟨rfl, fun p h1 h2 => ?_⟩⟩, fun h => by cases h⟩
    have := sub_le h1
    exact absurd h2 (by show ¬ r < p; omega)
  | succ i ih =>
    by_cases hz : (dvI wgh mst s f r i).2.1 = false
    · rw [dvI_z hz]; exact ih
    · have ih := ih.1 ((Bool.not_eq_false _).mp hz)
      rw [dvI_n hz]
      generalize dvI wgh mst s f r i = D at ih ⊢
      obtain ⟨P, B, v⟩ := D
      obtain ⟨hP, hv⟩ := ih
      simp only at hP hv ⊢
      obtain ⟨j, hj1, hj2⟩ := hf
      have hlt : ∀ p, mns s (p ||| f) < s := fun p => mns_lt_self hj2 (or_in.mpr (Or.inr hj1))
      have eU : upd mst s v (mns s (P ||| f)) = mst (mns s (P ||| f)) := by
        have := hlt P
        simp only [upd, if_neg (show ¬ mns s (P ||| f) = s by omega)]
      rw [eU]
      -- the value with P too
      have hv' : bestD wgh mst s f r (fun p => P ≤ p) (if wgh (P ||| f) = 0 ∧ ¬ mst (mns s (P ||| f)) = -1 ∧ ¬ mst (mns s (P ||| f)) + 1 ≤ v then mst (mns s (P ||| f)) + 1 else v) := by
        by_cases hwP : wgh (P ||| f) = 0
        · have hq := hw P hP hwP
          obtain ⟨m1, m2⟩ := (hok _ (hlt P)).1 hq
          have hne : ¬ mst (mns s (P ||| f)) = -1 := by rw [m1]; exact nI_ne1 (by have := hlt P; omega)
          rcases hv with ⟨e, hn⟩ | ⟨p, p1, p2, p3, p4, p5⟩
          · rw [if_pos ⟨hwP, hne, by
              rw [e, m1, nI_1]
              intro q
              have h1 := nI_pos (n := rN mst (mns s (P ||| f)) + 1) (by have := hlt P; omega)
              have h2 := Int32.lt_of_le_of_lt q (by decide : (-1 : Int32) < 0)
              exact h1 h2⟩]
            refine Or.inr ⟨P, hP, Nat.le_refl _, hwP, by rw [m1, nI_1], fun p' q1 q2 q3 => ?_⟩
            by_cases e' : p' = P
            · rw [e']; exact Nat.le_refl _
            · exact absurd q3 (hn p' q1 (by have : P ≤ p' := q2; show P < p'; omega))
          · have l1 := hlt P
            have l2 := hlt p
            obtain ⟨m3, m4⟩ := (hok _ (hlt p)).1 (hw p p1 p3)
            by_cases hle : mst (mns s (P ||| f)) + 1 ≤ v
            · rw [if_neg (fun q => q.2.2 hle)]
              refine Or.inr ⟨p, p1, by have : P < p := p2; show P ≤ p; omega, p3, p4, fun p' q1 q2 q3 => ?_⟩
              by_cases e' : p' = P
              · rw [e']
                rw [m1, nI_1, p4, nI_leI (by omega) (by omega)] at hle
                omega
              · exact p5 p' q1 (by have : P ≤ p' := q2; show P < p'; omega) q3
            · rw [if_pos ⟨hwP, hne, hle⟩]
              refine Or.inr ⟨P, hP, Nat.le_refl _, hwP, by rw [m1, nI_1], fun p' q1 q2 q3 => ?_⟩
              by_cases e' : p' = P
              · rw [e']; exact Nat.le_refl _
              · have h5 := p5 p' q1 (by have : P ≤ p' := q2; show P < p'; omega) q3
                rw [m1, nI_1, p4, nI_leI (by omega) (by omega)] at hle
                omega
        · rw [if_neg (fun q => hwP q.1)]
          rcases hv with ⟨e, hn⟩ | ⟨p, p1, p2, p3, p4, p5⟩
          · refine Or.inl ⟨e, fun p' q1 q2 => ?_⟩
            by_cases e' : p' = P
            · rw [e']; exact hwP
            · exact hn p' q1 (by have : P ≤ p' := q2; show P < p'; omega)
          · refine Or.inr ⟨p, p1, by have : P < p := p2; show P ≤ p; omega, p3, p4, fun p' q1 q2 q3 => ?_⟩
            by_cases e' : p' = P
            · rw [e'] at q3; exact absurd q3 hwP
            · exact p5 p' q1 (by have : P ≤ p' := q2; show P < p'; omega) q3
      generalize (if wgh (P ||| f) = 0 ∧ ¬ mst (mns s (P ||| f)) = -1 ∧ ¬ mst (mns s (P ||| f)) + 1 ≤ v then mst (mns s (P ||| f)) + 1 else v) = v' at hv' ⊢
      have hV : ∀ {V W : Nat → Prop}, (∀ p, sub p r → (V p ↔ W p)) → bestD wgh mst s f r V v' → bestD wgh mst s f r W v' := by
        intro V W hVW hb
        rcases hb with ⟨e, hn⟩ | ⟨p, p1, p2, p3, p4, p5⟩
        · exact Or.inl ⟨e, fun p q1 q2 => hn p q1 ((hVW p q1).mpr q2)⟩
        · exact Or.inr ⟨p, p1, (hVW p p1).mp p2, p3, p4, fun p' q1 q2 q3 => p5 p' q1 ((hVW p' q1).mpr q2) q3⟩
      by_cases h0 : P = 0
      · subst h0
        refine ⟨fun h => absurd h (by simp), fun _ => hV (fun p _ => ⟨fun _ => trivial, fun _ => Nat.zero_le _⟩) hv'⟩
      · rw [if_neg h0]
        refine ⟨fun _ => ⟨and_sub ?_, hV (fun p hp => ?_) hv'⟩, fun h => absurd h (by simp [h0])⟩
        · rw [Nat.and_assoc, Nat.and_self]
        · constructor
          · intro hle
            have h1 : (P - 1) &&& r ≤ P - 1 := Nat.and_le_left
            show (P - 1) &&& r < p
            omega
          · intro hlt'
            rcases Nat.lt_or_ge p P with q | q
            · have := submask_pred P r p (sub_and hP) (sub_and hp) q
              have h2 : (P - 1) &&& r < p := hlt'
              omega
            · exact q
/-- the model's table: sets that don't sum up to 0 have no groups; the others: the best first group and the rest -/
theorem dvS_is {wgh : Nat → Int64} {mst : Nat → Int32} (h00 : wgh 0 = 0) (hd : ∀ a b, a < 4096 → sub b a → wgh a = 0 → wgh b = 0 → wgh (mns a b) = 0) : ∀ s, s ≤ 4095 →
    rOk wgh (dvS wgh mst 4095) s ∧ (s = 0 → rN (dvS wgh mst 4095) s = 0) ∧ (s ≠ 0 → wgh s = 0 →
      (∀ T, sub T s → T.testBit (lowI s) = true → wgh T = 0 → rN (dvS wgh mst 4095) (mns s T) + 1 ≤ rN (dvS wgh mst 4095) s) ∧
      ∃ T, sub T s ∧ T.testBit (lowI s) = true ∧ wgh T = 0 ∧ rN (dvS wgh mst 4095) s = rN (dvS wgh mst 4095) (mns s T) + 1) := by
  intro s
  induction s using Nat.strongRecOn with
  | _ s ih =>
    intro hs
    by_cases h0 : s = 0
    · subst h0
      have e : dvS wgh mst 4095 0 = nI 0 := by
        rw [dvS_fin (Nat.zero_le 4095)]
        show upd mst 0 0 0 = nI 0
        simp [upd]; rfl
      have e2 : rN (dvS wgh mst 4095) 0 = 0 := by rw [rN, e]; exact nI_clamp (by decide)
      exact ⟨⟨fun _ => ⟨by rw [e2]; exact e, by omega⟩, fun h => absurd h00 h⟩, fun _ => e2, fun h => absurd rfl h⟩
    · obtain ⟨j, rfl⟩ : ∃ j, s = j + 1 := ⟨s - 1, by omega⟩
      have hl := lowI_bit (s := j + 1) (by omega) (by omega)
      have e : dvS wgh mst 4095 (j + 1) = dvV wgh (dvS wgh mst j) (j + 1) := by
        rw [dvS_fin hs]
        show upd _ _ _ _ = _
        simp [upd]
      by_cases hw : wgh (j + 1) = 0
      · rw [dvV, if_pos hw] at e
        have hf : ∃ i, (2 ^ lowI (j + 1)).testBit i = true ∧ (j + 1).testBit i = true := ⟨_, pow_in.mpr rfl, hl⟩
        rw [dvI_congr (mst' := dvS wgh mst 4095) hf (fun q hq => by rw [dvS_fin (show q ≤ j by omega), dvS_fin (show q ≤ 4095 by omega)]) 4096] at e
        have hpT : ∀ p, sub p (mns (j + 1) (2 ^ lowI (j + 1))) → sub (p ||| 2 ^ lowI (j + 1)) (j + 1) := by
          intro p hp i hi
          rcases or_in.mp hi with h | h
          · exact (mns_in.mp (hp i h)).1
          · rw [← pow_in.mp h]; exact hl
        have hB := (dvI_best (wgh := wgh) (mst := dvS wgh mst 4095) (s := j + 1) (f := 2 ^ lowI (j + 1)) (r := mns (j + 1) (2 ^ lowI (j + 1))) (by omega) hf (fun q hq => (ih q hq (by omega)).1)
          (fun p hp h => hd _ _ (by omega) (hpT p hp) hw h) 4096).2 (dvI_end (mns_lt (n := 12) (by omega)))
        rw [← e] at hB
        have hTp : ∀ T, sub T (j + 1) → T.testBit (lowI (j + 1)) = true → sub (mns T (2 ^ lowI (j + 1))) (mns (j + 1) (2 ^ lowI (j + 1))) ∧ mns T (2 ^ lowI (j + 1)) ||| 2 ^ lowI (j + 1) = T := by
          intro T hT hb
          refine ⟨fun i hi => ?_, tb_ext fun i => ?_⟩
          · have := mns_in.mp hi
            exact mns_in.mpr ⟨hT i this.1, this.2⟩
          · rw [or_in, mns_in]
            constructor
            · rintro (h | h)
              · exact h.1
              · rw [← pow_in.mp h]; exact hb
            · intro h
              by_cases q : (2 ^ lowI (j + 1)).testBit i = true
              · exact Or.inr q
              · exact Or.inl ⟨h, q⟩
        rcases hB with ⟨-, hn⟩ | ⟨p, p1, -, p3, p4, p5⟩
        · exfalso
          obtain ⟨a1, a2⟩ := hTp (j + 1) (sub.refl _) hl
          exact hn _ a1 trivial (by rw [a2]; exact hw)
        · have hlt : mns (j + 1) (p ||| 2 ^ lowI (j + 1)) < j + 1 := mns_lt_self hl (or_in.mpr (Or.inr (pow_in.mpr rfl)))
          have hr := (ih _ hlt (by omega)).1.1 (hd _ _ (by omega) (hpT p p1) hw p3)
          have e2 : rN (dvS wgh mst 4095) (j + 1) = rN (dvS wgh mst 4095) (mns (j + 1) (p ||| 2 ^ lowI (j + 1))) + 1 := by
            rw [show rN (dvS wgh mst 4095) (j + 1) = (dvS wgh mst 4095 (j + 1)).toNatClampNeg from rfl, p4]
            exact nI_clamp (by omega)
          refine ⟨⟨fun _ => ⟨by rw [e2]; exact p4, by omega⟩, fun h => absurd hw h⟩, fun h => absurd h h0, fun _ _ => ⟨fun T t1 t2 t3 => ?_, p ||| 2 ^ lowI (j + 1), hpT p p1, or_in.mpr (Or.inr (pow_in.mpr rfl)), p3, e2⟩⟩
          obtain ⟨a1, a2⟩ := hTp T t1 t2
          have := p5 _ a1 trivial (by rw [a2]; exact t3)
          rw [a2] at this
          omega
      · rw [dvV, if_neg hw] at e
        exact ⟨⟨fun h => absurd h hw, fun _ => e⟩, fun h => absurd h h0, fun _ h => absurd h hw⟩
