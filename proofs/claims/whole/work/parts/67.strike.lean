/-! strike, club -/
theorem l_swap (a b c : Int64) : a - b + c = a + c - b := by rw [l_subneg, l_subneg, Int64.add_assoc, Int64.add_assoc, Int64.add_comm (-b)]
theorem balR_sk {cof str : Nat → Int32} {pai sha : Nat → Int64} {c : Int32} {x j : Nat} {s0 : Int64} (n : Nat) (hz : str j = 0) : balR cof (upd str j 1) pai sha c x s0 n = balR cof str pai sha c x s0 n - (if j < n ∧ cof j = c then pai (12 * j + x) - sha (12 * j + x) else 0) := by
  induction n with
  | zero => rw [if_neg (by omega), Int64.sub_zero]; rfl
  | succ n ih =>
    rw [balR, balR, ih]
    by_cases e : j = n
    · subst e
      rw [if_neg (by omega), Int64.sub_zero, upd_s, if_neg (show ¬ (1 : Int32) = 0 by decide), hz, if_pos rfl]
      by_cases hc : cof j = c
      · rw [if_pos hc, if_pos hc, if_pos ⟨by omega, hc⟩, Int64.add_zero, Int64.add_sub_cancel]
      · rw [if_neg hc, if_neg hc, if_neg (fun q => hc q.2), Int64.sub_zero]
    · rw [upd_o (Ne.symm e)]
      rw [show (if j < n + 1 ∧ cof j = c then pai (12 * j + x) - sha (12 * j + x) else 0) = (if j < n ∧ cof j = c then pai (12 * j + x) - sha (12 * j + x) else 0) by
        by_cases q : j < n ∧ cof j = c
        · rw [if_pos q, if_pos ⟨by omega, q.2⟩]
        · rw [if_neg q, if_neg (fun q' => q ⟨by omega, q'.2⟩)]]
      exact l_swap _ _ _
theorem driR_sk {cof str : Nat → Int32} {dri : Nat → Int64} {c : Int32} {x j : Nat} (n : Nat) (hz : str j = 0) : driR cof (upd str j 1) dri c x n = driR cof str dri c x n - (if j < n ∧ cof j = c then dri (12 * j + x) else 0) := by
  induction n with
  | zero => rw [if_neg (by omega), Int64.sub_zero]; rfl
  | succ n ih =>
    rw [driR, driR, ih]
    by_cases e : j = n
    · subst e
      rw [if_neg (by omega), Int64.sub_zero, upd_s, if_neg (show ¬ (1 : Int32) = 0 by decide), hz, if_pos rfl]
      by_cases hc : cof j = c
      · rw [if_pos hc, if_pos hc, if_pos ⟨by omega, hc⟩, Int64.add_zero, Int64.add_sub_cancel]
      · rw [if_neg hc, if_neg hc, if_neg (fun q => hc q.2), Int64.sub_zero]
    · rw [upd_o (Ne.symm e)]
      rw [show (if j < n + 1 ∧ cof j = c then dri (12 * j + x) else 0) = (if j < n ∧ cof j = c then dri (12 * j + x) else 0) by
        by_cases q : j < n ∧ cof j = c
        · rw [if_pos q, if_pos ⟨by omega, q.2⟩]
        · rw [if_neg q, if_neg (fun q' => q ⟨by omega, q'.2⟩)]]
      exact l_swap _ _ _
theorem l_m1 (z : Int64) : (-1 : Int32).toInt64 * z = -z := by
  rw [show (-1 : Int32).toInt64 = -1 by decide, Int64.neg_mul, Int64.one_mul]
theorem sumL_addf (f g : Nat → Int64) (n : Nat) : sumL (fun j => f j + g j) n = sumL f n + sumL g n := by
  induction n with
  | zero => rfl
  | succ n ih => rw [sumL, sumL, sumL, ih, Int64.add_assoc, Int64.add_assoc]; congr 1; rw [← Int64.add_assoc, ← Int64.add_assoc, Int64.add_comm (f n)]
theorem sumL_negf (f : Nat → Int64) (n : Nat) : sumL (fun j => -(f j)) n = -(sumL f n) := by
  induction n with
  | zero => show (0 : Int64) = -0; decide
  | succ n ih => rw [sumL, sumL, ih, Int64.neg_add, l_subneg]
theorem sumL_subf (f g : Nat → Int64) (n : Nat) : sumL (fun j => f j - g j) n = sumL f n - sumL g n := by
  rw [show (fun j => f j - g j) = (fun j => f j + -(g j)) from funext fun j => l_subneg _ _, sumL_addf, sumL_negf, l_subneg]
def q_strike (M : mM) (b : Int32) : Bool := okStr (M.1 7) (M.2.1 11) (M.2.1 16) (M.2.1 9) b
def M_strike1 (M : mM) (b : Int32) : mM := sA (sI M 0 0) 11 (upd (M.2.1 11) b.toNatClampNeg 1)
def M_strike (M : mM) (b : Int32) : mM := if q_strike M b = true then M_strike1 M b else sI M 0 0
theorem t_X_strike (l : Launch) (X : gX) (ad : Nat → Nat) (u : gW) (sz x : Nat) (M : mM) (nC nB : Nat) (b : Int32) (h : kD X ad x M u nC nB) : gMet l (EE X) y_X_strike c_X_strike 3 (some .boolean) ({ frames := 1, cells := 0, slots := 0, locals := 23 }) [.ref (ad x), .int b] ad u sz (postK X ad x (M_strike M b) (.int (bI (q_strike M b))) u) := by
  have h0 := h
  obtain ⟨R, ⟨h1, h2, h3⟩, ⟨py, wt, hdW, hD⟩, ⟨sz0, mem, mo, am, hgW⟩, h7, h8, h9, h10⟩ := h
  have R' := R
  obtain ⟨r1, r2, r3, r4, -⟩ := R'
  by_cases hb : isMb b (nI nB) = true
  · obtain ⟨j, hj, rfl⟩ := isMb_nat (by omega) hb
    obtain ⟨k, W, hk, ⟨b0, b1, b2, b3⟩, hB⟩ := h8 j hj
    have hB' := hB
    obtain ⟨q1, q2, q3, q4, q5, n', q6, q7, q8⟩ := hB'
    obtain ⟨V, hV, hR⟩ := h7 k hk
    have hR' := hR
    obtain ⟨n, t, ⟨c1, c2, c3, c4, c5, c6, c7, c8, c9⟩, i0, i1, i2, i3, i4, i5, i6, i7, i8⟩ := hR'
    have en : n' = n := (nI_eq (by omega) (by omega)).mp (q7.symm.trans c4)
    subst en
    have ej : (nI j).toNatClampNeg = j := nI_clamp (by omega)
    have hq : (decide (W.1 0 = 0) && decide (V.1 3 = 0)) = q_strike M (nI j) := by
      rw [q_strike, okStr, r4, ej, q3, q1, nI_clamp (n := k) (by omega), c8]
      have : (!decide (nI j < 0) && !decide (nI nB ≤ nI j)) = true := hb
      rw [this, Bool.true_and]
    refine gMet_mono (k_X_strike_ok l X ad u sz x nC nB k j _ _ _ _ _ _ _ _ _ _ _ _ _ _ h1 h3 b0 hV.1 hV.2.2.2.1 hV.2.1 hV.2.2.1 b1 b2 b3 hj r2 (by omega)) fun v u' s ⟨e0, hh⟩ => ?_
    rw [hq] at hh
    rcases hh with ⟨a1, a2, a3⟩ | ⟨a1, a2, a3⟩
    · rw [M_strike, if_pos a1, a1]
      rw [← hq, Bool.and_eq_true, decide_eq_true_iff, decide_eq_true_iff] at a1
      have hz : M.2.1 11 j = 0 := q3.trans a1.1
      have e1 : ∀ i, (M_strike1 M (nI j)).2.1 11 i = upd (M.2.1 11) j 1 i := fun i => by
        show upd (M.2.1 11) (nI j).toNatClampNeg 1 i = _
        rw [ej]
      have e1' : (M_strike1 M (nI j)).2.1 11 = upd (M.2.1 11) j 1 := funext e1
      generalize hF : mapL (V.2.2 0) (fun i => V.2.2 0 i + (-1 : Int32).toInt64 * (W.2.2 0 i - W.2.2 1 i)) 12 = F at a3
      generalize hG : mapL (V.2.2 1) (fun i => V.2.2 1 i + (-1 : Int32).toInt64 * W.2.2 2 i) 12 = G at a3
      have hne : ∀ n, n ≠ x + 4 * j + 128 → n ≠ x + 16 * k + 32 + 1 → n ≠ x + 16 * k + 32 + 2 → u' n = u n := fun n p q r => by rw [a3, gup_ne r, gup_ne q, gup_ne p]
      refine ⟨a2, ⟨nC, nB, R, ⟨(hne _ (by omega) (by omega) (by omega)).trans h1, (hne _ (by omega) (by omega) (by omega)).trans h2, (hne _ (by omega) (by omega) (by omega)).trans h3⟩, ⟨py, wt, drW_fr hdW fun n p q => hne n (by omega) (by omega) (by omega), hD⟩, ⟨sz0, mem, mo, am, grW_fr hgW fun n p q => hne n (by omega) (by omega) (by omega)⟩, fun k' hk' => ?_, fun j' hj' => ?_, fun k' p q o ho => ?_, fun j' p q o ho => ?_⟩, fun n hn => hne n (by omega) (by omega) (by omega)⟩
      · by_cases e : k' = k
        · subst e
          refine ⟨sL (sL V 0 F) 1 G, ?_, n', t, ⟨c1, c2, c3, c4, c5, c6, c7, c8, c9⟩, i0, i1, i2, i3, i4, fun i hi => ?_, fun i hi => ?_, fun i p1 p2 => ?_, ?_⟩
          · obtain ⟨v0, v1, v2, v3, v4, v5, v6, v7, v8⟩ := hV
            refine ⟨(hne _ (by omega) (by omega) (by omega)).trans v0, ?_, ?_, (hne _ (by omega) (by omega) (by omega)).trans v3, (hne _ (by omega) (by omega) (by omega)).trans v4, (hne _ (by omega) (by omega) (by omega)).trans v5, (hne _ (by omega) (by omega) (by omega)).trans v6, (hne _ (by omega) (by omega) (by omega)).trans v7, (hne _ (by omega) (by omega) (by omega)).trans v8⟩
            · rw [a3, gup_ne (by omega), gup_self]; rfl
            · rw [a3, gup_self]; rfl
          · show F i = balR (M.2.1 9) ((M_strike1 M (nI j)).2.1 11) (M.2.2 13) (M.2.2 12) (nI k') i (M.2.2 15 (12 * k' + i)) nB
            rw [← hF, mapL, if_pos hi, l_m1, e1', balR_sk nB hz, if_pos ⟨hj, q1⟩, ← i5 i hi, (q4 i hi).1, (q4 i hi).2.1, ← l_subneg]
          · show G i = driR (M.2.1 9) ((M_strike1 M (nI j)).2.1 11) (M.2.2 14) (nI k') i nB
            rw [← hG, mapL, if_pos hi, l_m1, e1', driR_sk nB hz, if_pos ⟨hj, q1⟩, ← i6 i hi, (q4 i hi).2.2, ← l_subneg]
          · show F i = 0
            rw [← hF, mapL, if_pos p2, i7 i p1 p2, (q8 i p1 p2).1, (q8 i p1 p2).2]; decide
          · show sumL F 12 = 0
            rw [← hF, sumL_congr (g := fun i => V.2.2 0 i - (W.2.2 0 i - W.2.2 1 i)) 12 (fun i hi => by rw [mapL, if_pos hi, l_m1, ← l_subneg]), sumL_subf, sumL_subf, q5, i8, Int64.sub_self, Int64.sub_self]
        · obtain ⟨V', p, q⟩ := h7 k' hk'
          refine ⟨V', clW_fr p fun n p q => hne n (by omega) (by omega) (by omega), ?_⟩
          obtain ⟨n2, t2, o1, o2, o3, o4, o5, o6, o7, o8, o9⟩ := q
          have hck : ¬ M.2.1 9 j = nI k' := fun q => e ((nI_eq (by omega) (by omega)).mp (q.symm.trans q1))
          refine ⟨n2, t2, o1, o2, o3, o4, o5, o6, fun i hi => ?_, fun i hi => ?_, o9⟩
          · show _ = balR (M.2.1 9) ((M_strike1 M (nI j)).2.1 11) (M.2.2 13) (M.2.2 12) (nI k') i (M.2.2 15 (12 * k' + i)) nB
            rw [e1', balR_sk nB hz, if_neg (fun q => hck q.2), Int64.sub_zero]; exact o7 i hi
          · show _ = driR (M.2.1 9) ((M_strike1 M (nI j)).2.1 11) (M.2.2 14) (nI k') i nB
            rw [e1', driR_sk nB hz, if_neg (fun q => hck q.2), Int64.sub_zero]; exact o8 i hi
      · by_cases e : j' = j
        · subst e
          refine ⟨k, sI W 0 1, hk, ⟨?_, (hne _ (by omega) (by omega) (by omega)).trans b1, (hne _ (by omega) (by omega) (by omega)).trans b2, (hne _ (by omega) (by omega) (by omega)).trans b3⟩, q1, q2, ?_, q4, q5, n', q6, q7, q8⟩
          · rw [a3, gup_ne (by omega), gup_ne (by omega), gup_self]; rfl
          · rw [e1, upd_s]; rfl
        · obtain ⟨k2, W2, f1, f2, f3, f4, f5, f6⟩ := h8 j' hj'
          exact ⟨k2, W2, f1, biW_fr f2 fun n p q => hne n (by omega) (by omega) (by omega), f3, f4, by rw [e1, upd_o e]; exact f5, f6⟩
      · rw [hne _ (by omega) (by omega) (by omega)]; exact h9 k' p q o ho
      · rw [hne _ (by omega) (by omega) (by omega)]; exact h10 j' p q o ho
    · rw [M_strike, if_neg (by rw [a1]; decide), a1]
      exact postK_th h0 a2 a3
  · have hq : q_strike M b = false := by
      rw [q_strike, okStr, r4]
      have : (!decide (b < 0) && !decide (nI nB ≤ b)) = false := isMb_ff hb
      rw [this, Bool.false_and]
    rw [M_strike, if_neg (by rw [hq]; decide), hq]
    exact gMet_mono (k_X_strike_no l X ad u sz x nC nB b h1 h3 (isMb_ff hb)) fun v u' s ⟨e1, e2, e3⟩ => postK_th h0 e1 e2
