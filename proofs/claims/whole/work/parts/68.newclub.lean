/-! club -/
theorem balR_none {cof str : Nat → Int32} {pai sha : Nat → Int64} {c : Int32} {x : Nat} {s0 : Int64} (n : Nat) (h : ∀ b, b < n → ¬ cof b = c) : balR cof str pai sha c x s0 n = s0 := by
  induction n with
  | zero => rfl
  | succ n ih => rw [balR, ih fun b hb => h b (by omega), if_neg (h n (by omega)), Int64.add_zero]
theorem driR_none {cof str : Nat → Int32} {dri : Nat → Int64} {c : Int32} {x : Nat} (n : Nat) (h : ∀ b, b < n → ¬ cof b = c) : driR cof str dri c x n = 0 := by
  induction n with
  | zero => rfl
  | succ n ih => rw [driR, ih fun b hb => h b (by omega), if_neg (h n (by omega)), Int64.add_zero]
def M_club (M : mM) : mM := if M.1 1 = 4 then sI M 0 0 else sI (sI M 0 0) 1 (M.1 1 + 1)
def a_club (M : mM) : Int32 := if M.1 1 = 4 then -1 else M.1 1 + 1 - 1
def V0 : mM := (fun _ => 0, fun _ _ => 0, fun _ _ => 0)
theorem vp_0 : vp_in (0 : Int32) 12 := vp_in_nI (n := 0) (by decide) (by decide)
theorem nI_4 {n : Nat} (h : n ≤ 4) : nI n < 4 ↔ ¬ nI n = 4 := by
  rw [show (4 : Int32) = nI 4 from rfl, nI_ltI (by omega) (by decide), nI_eq (by omega) (by decide)]; omega
theorem t_X_club (l : Launch) (X : gX) (ad : Nat → Nat) (u : gW) (sz x : Nat) (M : mM) (nC nB : Nat) (h : kD X ad x M u nC nB) (hp : ∀ o, o < 9 → ad (x + 16 * nC + 32 + o) = sz + o) : gMet l (EE X) y_X_club c_X_club 1 (some .int) ({ frames := 3, cells := 9, slots := 99, locals := 60 }) [.ref (ad x)] ad u sz (postK X ad x (M_club M) (.int (a_club M)) u) := by
  have h0 := h
  obtain ⟨R, ⟨h1, h2, h3⟩, ⟨py, wt, hdW, hD⟩, ⟨sz0, mem, mo, am, hgW⟩, h7, h8, h9, h10⟩ := h
  obtain ⟨r1, r2, r3, r4, r5, r6, r7, r8, r9, r10, r11, r12, r13⟩ := R
  have f := h9 nC (Nat.le_refl _) (by omega)
  refine gMet_mono (k_X_club l X ad u sz x nC nB h1 h2 r1 (f 0 (by omega)) (hp 0 (by omega)) (f 1 (by omega)) (hp 1 (by omega)) (f 2 (by omega)) (hp 2 (by omega)) (f 3 (by omega)) (hp 3 (by omega)) (f 4 (by omega)) (hp 4 (by omega)) (f 5 (by omega)) (hp 5 (by omega)) (f 6 (by omega)) (hp 6 (by omega)) (f 7 (by omega)) (hp 7 (by omega)) (f 8 (by omega)) (hp 8 (by omega))) fun v u' s hh => ?_
  rcases hh with ⟨a1, a2, a3, a4⟩ | ⟨a1, a2, a3, a4⟩
  · have hq : M.1 1 = 4 := by rw [r3]; exact Decidable.byContradiction fun q => a1 ((nI_4 r1).mpr q)
    rw [M_club, a_club, if_pos hq, if_pos hq]
    exact postK_th h0 a2 a3
  · have hq : ¬ M.1 1 = 4 := by rw [r3]; exact (nI_4 r1).mp a1
    have hn4 : nC < 4 := by
      rw [r3, show (4 : Int32) = nI 4 from rfl, nI_eq (by omega) (by decide)] at hq; omega
    rw [M_club, a_club, if_neg hq, if_neg hq]
    have hne : ∀ n, n ≠ x → n ≠ x + 1 → (n < x + 16 * nC + 32 ∨ x + 16 * nC + 41 ≤ n) → u' n = u n := fun n p q r => by
      rw [a3, gup_ne (by omega), gup_ne (by omega), gup_ne (by omega), gup_ne (by omega), gup_ne (by omega), gup_ne (by omega), gup_ne (by omega), gup_ne (by omega), gup_ne (by omega), gup_ne (by omega), gup_ne (by omega)]
    refine ⟨by rw [a2, r3, nI_1], ⟨nC + 1, nB, ⟨by omega, r2, by show M.1 1 + 1 = _; rw [r3, nI_1], r4, r5, r6, r7, fun b hb => ?_, r9, r10, fun hd => ?_, r12, fun k p q => r13 k (by omega) q⟩, ⟨?_, ?_, (hne _ (by omega) (by omega) (by omega)).trans h3⟩, ⟨py, wt, ?_, hD⟩, ⟨sz0, mem, mo, am, ?_⟩, fun k hk => ?_, fun j hj => ?_, fun k p q o ho => ?_, fun j p q o ho => ?_⟩, fun n hn => hne n (by omega) (by omega) (by omega)⟩
    · obtain ⟨k, k1, k2⟩ := r8 b hb; exact ⟨k, by omega, k2⟩
    · obtain ⟨k, k1, k2⟩ := r11 hd; exact ⟨k, by omega, k2⟩
    · rw [a3, gup_ne (by omega), gup_ne (by omega), gup_ne (by omega), gup_ne (by omega), gup_ne (by omega), gup_ne (by omega), gup_ne (by omega), gup_ne (by omega), gup_ne (by omega), gup_ne (by omega), gup_self]
    · rw [a3, gup_ne (by omega), gup_ne (by omega), gup_ne (by omega), gup_ne (by omega), gup_ne (by omega), gup_ne (by omega), gup_ne (by omega), gup_ne (by omega), gup_ne (by omega), gup_self]
    · obtain ⟨d0, d1, d2⟩ := hdW
      exact ⟨(hne _ (by omega) (by omega) (by omega)).trans d0, (hne _ (by omega) (by omega) (by omega)).trans d1, (hne _ (by omega) (by omega) (by omega)).trans d2⟩
    · obtain ⟨d0, d1, d2, d3⟩ := hgW
      exact ⟨(hne _ (by omega) (by omega) (by omega)).trans d0, (hne _ (by omega) (by omega) (by omega)).trans d1, (hne _ (by omega) (by omega) (by omega)).trans d2, (hne _ (by omega) (by omega) (by omega)).trans d3⟩
    · by_cases e : k = nC
      · subst e
        obtain ⟨z1, z2, z3, z4, z5, z6⟩ := r13 k (Nat.le_refl _) hn4
        have hcof : ∀ b, b < nB → ¬ M.2.1 9 b = nI k := fun b hb q => by
          obtain ⟨k', k1, k2⟩ := r8 b hb
          have := (nI_eq (by omega) (by omega)).mp (k2.symm.trans q)
          omega
        refine ⟨V0, ⟨?_, ?_, ?_, ?_, ?_, ?_, ?_, ?_, ?_⟩, 0, 0, ⟨by omega, by omega, rfl, z1, rfl, z5, z2, z3, z4⟩, ⟨0, by omega, rfl, fun j hj => ?_⟩, rfl, fun j hj => (z6 j hj).2.1, fun j hj => absurd hj (Nat.not_lt_zero _), ⟨fun _ => vp_0, fun _ => vp_0, fun j hj => absurd hj (Nat.not_lt_zero _)⟩, fun j hj => ?_, fun j hj => ?_, fun _ _ _ => rfl, by decide⟩
        · rw [a3, gup_ne (by omega), gup_ne (by omega), gup_ne (by omega), gup_ne (by omega), gup_ne (by omega), gup_ne (by omega), gup_ne (by omega), gup_ne (by omega), gup_self]; rfl
        · rw [a3, gup_ne (by omega), gup_ne (by omega), gup_ne (by omega), gup_ne (by omega), gup_ne (by omega), gup_ne (by omega), gup_ne (by omega), gup_self]; rfl
        · rw [a3, gup_ne (by omega), gup_ne (by omega), gup_ne (by omega), gup_ne (by omega), gup_ne (by omega), gup_ne (by omega), gup_self]; rfl
        · rw [a3, gup_ne (by omega), gup_ne (by omega), gup_ne (by omega), gup_ne (by omega), gup_ne (by omega), gup_self]; rfl
        · rw [a3, gup_ne (by omega), gup_ne (by omega), gup_ne (by omega), gup_ne (by omega), gup_self]; rfl
        · rw [a3, gup_ne (by omega), gup_ne (by omega), gup_ne (by omega), gup_self]; rfl
        · rw [a3, gup_ne (by omega), gup_ne (by omega), gup_self]; rfl
        · rw [a3, gup_ne (by omega), gup_self]; rfl
        · rw [a3, gup_self]; rfl
        · have := (z6 j hj).1
          rw [Nat.zero_testBit]
          exact ⟨fun q => (by cases q), fun q => absurd this q⟩
        · exact ((balR_none nB hcof).trans (z6 j hj).2.2).symm
        · exact (driR_none nB hcof).symm
      · obtain ⟨V, p, q⟩ := h7 k (by omega)
        exact ⟨V, clW_fr p fun n p q => hne n (by omega) (by omega) (by omega), q⟩
    · obtain ⟨k, W, f1, f2, f3⟩ := h8 j hj
      exact ⟨k, W, by omega, biW_fr f2 fun n p q => hne n (by omega) (by omega) (by omega), f3⟩
    · rw [hne _ (by omega) (by omega) (by omega)]; exact h9 k (by omega) q o ho
    · rw [hne _ (by omega) (by omega) (by omega)]; exact h10 j p q o ho
