/-! an amount cut by weights: what is wanting is handed out, all of it; program and model alike -/
def sumN (f : Nat → Nat) : Nat → Nat
  | 0 => 0
  | i + 1 => sumN f i + f i
theorem sumL_N {g : Nat → Int64} {f : Nat → Nat} (n : Nat) (h : ∀ j, j < n → g j = lN (f j)) : sumL g n = lN (sumN f n) := by
  induction n with
  | zero => rfl
  | succ n ih => rw [sumL, sumN, ih fun j hj => h j (by omega), h n (by omega), lN_add]
theorem sumL_congr {f g : Nat → Int64} (n : Nat) (h : ∀ j, j < n → f j = g j) : sumL f n = sumL g n := by
  induction n with
  | zero => rfl
  | succ n ih => rw [sumL, sumL, ih fun j hj => h j (by omega), h n (by omega)]
theorem sumL_upd {p : Nat → Int64} {i n : Nat} (x : Int64) (h : i < n) : sumL (vp_updL p i (p i + x)) n = sumL p n + x := by
  induction n with
  | zero => omega
  | succ n ih =>
    by_cases e : i = n
    · subst e
      rw [sumL, sumL, updL_s, sumL_congr i (fun j hj => updL_o (by omega)), Int64.add_assoc]
    · rw [sumL, sumL, ih (by omega), updL_o (by omega), Int64.add_assoc, Int64.add_assoc, Int64.add_comm x]
theorem wantS_eq (a : Int64) (g : Nat → Int64) (n : Nat) : wantS a g n = a - sumL g n := by
  induction n with
  | zero => rw [wantS, sumL, Int64.sub_zero]
  | succ n ih => rw [wantS, sumL, ih, Int64.sub_sub]
theorem wantS_congr {f g : Nat → Int64} (a : Int64) (n : Nat) (h : ∀ j, j < n → f j = g j) : wantS a f n = wantS a g n := by rw [wantS_eq, wantS_eq, sumL_congr n h]
theorem hand_sum {w p0 : Nat → Int64} {s0 : Nat} {w0 : Int64} (k : Nat) : sumL (handS w s0 p0 w0 k).1 12 + (handS w s0 p0 w0 k).2.1 = sumL p0 12 + w0 := by
  induction k with
  | zero => rfl
  | succ k ih =>
    by_cases h1 : (handS w s0 p0 w0 k).2.1 ≤ 0
    · rw [handS_f1 h1]; exact ih
    · by_cases h2 : w ((s0 + k) % 12) ≤ 0
      · rw [handS_f2 h2]; exact ih
      · rw [handS_t h1 h2, ← ih]
        show sumL (vp_updL _ _ _) 12 + (_ - 1) = _
        rw [sumL_upd 1 (Nat.mod_lt _ (by decide)), Int64.add_assoc, Int64.add_comm 1, Int64.sub_add_cancel]
theorem hand_congr {w w' p p' : Nat → Int64} {s0 : Nat} {w0 w0' : Int64} (hw : ∀ j, j < 12 → w j = w' j) (hp : ∀ j, j < 12 → p j = p' j) (h0 : w0 = w0') (k : Nat) : (∀ j, j < 12 → (handS w s0 p w0 k).1 j = (handS w' s0 p' w0' k).1 j) ∧ (handS w s0 p w0 k).2 = (handS w' s0 p' w0' k).2 := by
  induction k with
  | zero => exact ⟨hp, by rw [handS, handS, h0]⟩
  | succ k ih =>
    have hm : (s0 + k) % 12 < 12 := Nat.mod_lt _ (by decide)
    have e1 : (handS w s0 p w0 k).2.1 = (handS w' s0 p' w0' k).2.1 := by rw [ih.2]
    by_cases h1 : (handS w s0 p w0 k).2.1 ≤ 0
    · rw [handS_f1 h1, handS_f1 (by rw [← e1]; exact h1)]; exact ih
    · by_cases h2 : w ((s0 + k) % 12) ≤ 0
      · rw [handS_f2 h2, handS_f2 (by rw [← hw _ hm]; exact h2)]; exact ih
      · rw [handS_t h1 h2, handS_t (by rw [← e1]; exact h1) (by rw [← hw _ hm]; exact h2)]
        refine ⟨fun j hj => ?_, by rw [e1]⟩
        show vp_updL _ _ _ j = vp_updL _ _ _ j
        by_cases e : j = (s0 + k) % 12
        · rw [e, updL_s, updL_s, ih.1 _ hm]
        · rw [updL_o e, updL_o e, ih.1 j hj]
theorem hand_zero {w p0 : Nat → Int64} {s0 : Nat} {w0 : Int64} {j : Nat} (h : w j ≤ 0) (k : Nat) : (handS w s0 p0 w0 k).1 j = p0 j := by
  induction k with
  | zero => rfl
  | succ k ih =>
    by_cases h1 : (handS w s0 p0 w0 k).2.1 ≤ 0
    · rw [handS_f1 h1]; exact ih
    · by_cases h2 : w ((s0 + k) % 12) ≤ 0
      · rw [handS_f2 h2]; exact ih
      · rw [handS_t h1 h2]
        show vp_updL _ _ _ j = _
        rw [updL_o (fun e => h2 (by rw [← e]; exact h)), ih]
/-- who has a weight: 1, else 0 -/
def posN (W : Nat → Nat) (j : Nat) : Nat := if W j = 0 then 0 else 1
theorem rotN (f : Nat → Nat) (s0 : Nat) (h : s0 < 12) : sumN (fun k => f ((s0 + k) % 12)) 12 = sumN f 12 := by
  rcases (show s0 = 0 ∨ s0 = 1 ∨ s0 = 2 ∨ s0 = 3 ∨ s0 = 4 ∨ s0 = 5 ∨ s0 = 6 ∨ s0 = 7 ∨ s0 = 8 ∨ s0 = 9 ∨ s0 = 10 ∨ s0 = 11 by omega) with rfl | rfl | rfl | rfl | rfl | rfl | rfl | rfl | rfl | rfl | rfl | rfl <;> simp only [sumN, Nat.reduceAdd, Nat.reduceMod] <;> omega
theorem l_pos {n : Nat} (h : n < 2 ^ 63) : lN n ≤ 0 ↔ n = 0 := by
  rw [show (0 : Int64) = lN 0 from rfl, pk_lLE h (by decide)]; omega
theorem hand_left {w p0 : Nat → Int64} {W : Nat → Nat} {s0 n : Nat} (hW : ∀ j, j < 12 → w j = lN (W j) ∧ W j < 2 ^ 63) (hn : n < 2 ^ 63) (k : Nat) : (handS w s0 p0 (lN n) k).2.1 = lN (n - sumN (fun k => posN W ((s0 + k) % 12)) k) := by
  induction k with
  | zero => rfl
  | succ k ih =>
    have hm : (s0 + k) % 12 < 12 := Nat.mod_lt _ (by decide)
    obtain ⟨h1, h2⟩ := hW _ hm
    simp only [sumN]
    by_cases hz : n - sumN (fun k => posN W ((s0 + k) % 12)) k = 0
    · rw [handS_f1 (by rw [ih, hz]; decide), ih, hz, Nat.sub_add_eq, hz, Nat.zero_sub]
    · have h3 : ¬ (handS w s0 p0 (lN n) k).2.1 ≤ 0 := by rw [ih, l_pos (by omega)]; exact hz
      by_cases h4 : W ((s0 + k) % 12) = 0
      · rw [handS_f2 (by rw [h1, h4]; decide), ih, posN, if_pos h4, Nat.add_zero]
      · rw [handS_t h3 (by rw [h1, l_pos h2]; exact h4), posN, if_neg h4]
        show (handS w s0 p0 (lN n) k).2.1 - 1 = _
        rw [ih, show (1 : Int64) = lN 1 from rfl, lN_sub (by omega), Nat.sub_add_eq]
/-- what is wanting is less than those who have a weight -/
theorem wants_lt {W : Nat → Nat} {A S : Nat} (hS : 0 < S) (n : Nat) : A * sumN W n = S * sumN (fun j => A * W j / S) n + sumN (fun j => A * W j % S) n ∧ sumN (fun j => A * W j % S) n ≤ sumN (posN W) n * (S - 1) := by
  induction n with
  | zero => exact ⟨by simp [sumN], by simp [sumN]⟩
  | succ n ih =>
    obtain ⟨h1, h2⟩ := ih
    simp only [sumN]
    have h3 := Nat.div_add_mod (A * W n) S
    have h4 := Nat.mod_lt (A * W n) hS
    refine ⟨by rw [Nat.mul_add, Nat.mul_add]; omega, ?_⟩
    rw [Nat.add_mul]
    by_cases e : W n = 0
    · rw [posN, if_pos e, e, Nat.mul_zero, Nat.zero_mod]; omega
    · rw [posN, if_neg e]; omega
theorem wants_ok {W : Nat → Nat} {A S : Nat} (hS : 0 < S) (hW : sumN W 12 = S) : sumN (fun j => A * W j / S) 12 ≤ A ∧ A - sumN (fun j => A * W j / S) 12 ≤ sumN (posN W) 12 := by
  obtain ⟨h1, h2⟩ := wants_lt (W := W) (A := A) hS 12
  rw [hW] at h1
  have h3 : sumN (fun j => A * W j / S) 12 ≤ A := by
    apply Nat.le_of_mul_le_mul_left _ hS
    rw [Nat.mul_comm S A]; omega
  refine ⟨h3, ?_⟩
  apply Nat.le_of_mul_le_mul_left _ hS
  rw [Nat.mul_sub, Nat.mul_comm S A]
  have h4 : sumN (posN W) 12 * (S - 1) ≤ S * sumN (posN W) 12 := by
    rw [Nat.mul_comm]; exact Nat.mul_le_mul_right _ (by omega)
  omega
theorem le_sumN {W : Nat → Nat} {j n : Nat} (h : j < n) : W j ≤ sumN W n := by
  induction n with
  | zero => omega
  | succ n ih =>
    simp only [sumN]
    by_cases e : j = n
    · subst e; omega
    · have := ih (by omega); omega
/-- cut, by the program and by the model -/
theorem cut_eq {W : Nat → Nat} {A S s0 : Nat} {w w' p : Nat → Int64} (hS : 0 < S) (hS2 : S < 2 ^ 42) (hWS : sumN W 12 = S) (hA : A < 2 ^ 60) (hw : ∀ j, j < 12 → w j = lN (W j)) (hw' : ∀ j, j < 12 → w' j = lN (W j)) (hs0 : s0 < 12) :
    (∀ j, j < 12 → (handS w s0 (mapL p (cutG (lN A) w) 12) (wantS (lN A) (cutG (lN A) w) 12) 12).1 j = (handS w' s0 (fun j => (parS (lN A) (w' j) (lN S) 63).1) (wantS (lN A) (fun j => (parS (lN A) (w' j) (lN S) 63).1) 12) 12).1 j) ∧
    (handS w s0 (mapL p (cutG (lN A) w) 12) (wantS (lN A) (cutG (lN A) w) 12) 12).2 = (handS w' s0 (fun j => (parS (lN A) (w' j) (lN S) 63).1) (wantS (lN A) (fun j => (parS (lN A) (w' j) (lN S) 63).1) 12) 12).2 ∧
    (handS w' s0 (fun j => (parS (lN A) (w' j) (lN S) 63).1) (wantS (lN A) (fun j => (parS (lN A) (w' j) (lN S) 63).1) 12) 12).2.1 ≤ 0 ∧
    sumL (handS w s0 (mapL p (cutG (lN A) w) 12) (wantS (lN A) (cutG (lN A) w) 12) 12).1 12 = lN A ∧
    (∀ j, j < 12 → W j = 0 → (handS w s0 (mapL p (cutG (lN A) w) 12) (wantS (lN A) (cutG (lN A) w) 12) 12).1 j = 0) := by
  have hle : ∀ j, j < 12 → W j ≤ S := fun j hj => by rw [← hWS]; exact le_sumN hj
  have hsum : sumL w 12 = lN S := by rw [sumL_N 12 hw, hWS]
  have hg : ∀ j, j < 12 → cutG (lN A) w j = lN (A * W j / S) := fun j hj => by
    rw [cutG, hsum, hw j hj]; exact por_is hA (hle j hj) hS hS2
  have hp : ∀ j, j < 12 → (parS (lN A) (w' j) (lN S) 63).1 = lN (A * W j / S) := fun j hj => by
    rw [hw' j hj]; exact par_is (by omega) (hle j hj) hS (by omega)
  have hm : ∀ j, j < 12 → mapL p (cutG (lN A) w) 12 j = lN (A * W j / S) := fun j hj => by
    rw [mapL, if_pos hj]; exact hg j hj
  obtain ⟨q1, q2⟩ := wants_ok (W := W) (A := A) hS hWS
  have hwant : wantS (lN A) (cutG (lN A) w) 12 = lN (A - sumN (fun j => A * W j / S) 12) := by
    rw [wantS_eq, sumL_N 12 hg, lN_sub q1]
  have hC := hand_congr (w := w) (w' := w') (p := mapL p (cutG (lN A) w) 12) (p' := fun j => (parS (lN A) (w' j) (lN S) 63).1) (s0 := s0) (w0 := wantS (lN A) (cutG (lN A) w) 12) (w0' := wantS (lN A) (fun j => (parS (lN A) (w' j) (lN S) 63).1) 12)
    (fun j hj => (hw j hj).trans (hw' j hj).symm) (fun j hj => (hm j hj).trans (hp j hj).symm) (wantS_congr _ 12 fun j hj => (hg j hj).trans (hp j hj).symm) 12
  have h0 : (handS w s0 (mapL p (cutG (lN A) w) 12) (wantS (lN A) (cutG (lN A) w) 12) 12).2.1 = 0 := by
    rw [hwant, hand_left (W := W) (fun j hj => ⟨hw j hj, by have := hle j hj; omega⟩) (by omega) 12, rotN (posN W) s0 hs0, Nat.sub_eq_zero_of_le q2]
    rfl
  refine ⟨hC.1, hC.2, ?_, ?_, fun j hj hz => ?_⟩
  · rw [← hC.2, h0]; exact Int64.le_refl _
  · have h1 := hand_sum (w := w) (p0 := mapL p (cutG (lN A) w) 12) (s0 := s0) (w0 := wantS (lN A) (cutG (lN A) w) 12) 12
    rw [h0, Int64.add_zero] at h1
    rw [h1, hwant, sumL_N 12 hm, lN_add, Nat.add_sub_cancel' q1]
  · rw [hand_zero (by rw [hw j hj, hz]; decide), hm j hj, hz, Nat.mul_zero, Nat.zero_div]
    rfl
