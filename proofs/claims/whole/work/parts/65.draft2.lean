/-! bill, payer, weight -/
theorem kD_draft {X : gX} {ad : Nat → Nat} {x : Nat} {M M' : mM} {u u' : gW} {nC nB : Nat} (h : kD X ad x M u nC nB) (h0 : R0 M' nC nB) (hu : ∀ n, (n < x + 3 ∨ x + 6 ≤ n) → u' n = u n)
    (hd : ∃ py wt, drW X ad u' x M' py wt ∧ RD M' py wt) (hc : ∀ k V, k < nC → RC M nB k V → RC M' nB k V) (hb : ∀ j k V, j < nB → RB M j k V → RB M' j k V) : kD X ad x M' u' nC nB := by
  obtain ⟨g0, ⟨h1, h2, h3⟩, -, ⟨sz0, mem, mo, am, g4⟩, h7, h8, h9, h10⟩ := h
  have hC := g0.1
  have hB := g0.2.1
  refine ⟨h0, ⟨(hu _ (by omega)).trans h1, (hu _ (by omega)).trans h2, (hu _ (by omega)).trans h3⟩, hd, ⟨sz0, mem, mo, am, ?_⟩, fun k hk => ?_, fun j hj => ?_, fun k a b o ho => ?_, fun j a b o ho => ?_⟩
  · obtain ⟨a0, a1, a2, a3⟩ := g4
    exact ⟨(hu _ (by omega)).trans a0, (hu _ (by omega)).trans a1, (hu _ (by omega)).trans a2, (hu _ (by omega)).trans a3⟩
  · obtain ⟨V, a, b⟩ := h7 k hk
    exact ⟨V, clW_fr a fun n c d => hu n (by omega), hc k V hk b⟩
  · obtain ⟨k, V, c, a, b⟩ := h8 j hj
    exact ⟨k, V, c, biW_fr a fun n c d => hu n (by omega), hb j k V hj b⟩
  · rw [hu _ (by omega)]; exact h9 k a b o ho
  · rw [hu _ (by omega)]; exact h10 j a b o ho
theorem dvW_k {ad : Nat → Nat} {x k : Nat} (hk : k < 4) : dvW ad x (nI k) = .ref (ad (x + 16 * k + 32)) := by
  rw [dvW, if_neg (nI_ne1 (by omega)), nI_clamp (by omega)]
theorem dec_nlt {a b : Int32} : decide (a ≤ b) = !decide (b < a) := by
  rw [← decide_not]; exact decide_eq_decide.mpr Int32.not_lt.symm
theorem okBX_eq (w n r : Int32) : okBX w n r = (withM w 1 5 && (withM n 1 100000000 && withM r 1 1000000000)) := by
  rw [okBX, withM, withM, withM, dec_nlt]; simp only [Bool.and_assoc]
/-- a whole number between bounds -/
theorem nat_of {v : Int32} {lo hi : Nat} (hl : lo < 2 ^ 31) (hh : hi < 2 ^ 31) (h : withM v (nI lo) (nI hi) = true) : ∃ c, lo ≤ c ∧ c ≤ hi ∧ v = nI c := by
  rw [withM, Bool.and_eq_true, Bool.not_eq_true', Bool.not_eq_true', decide_eq_false_iff_not, decide_eq_false_iff_not] at h
  have h0 : ¬ v < 0 := fun q => h.1 (Int32.lt_of_lt_of_le q (by
    rw [show (0 : Int32) = nI 0 from rfl, nI_leI (by decide) hl]; exact Nat.zero_le _))
  obtain ⟨c, c1, rfl⟩ := nI_of h0
  refine ⟨c, ?_, ?_, rfl⟩
  · exact Nat.le_of_not_lt fun q => h.1 ((nI_ltI c1 hl).mpr q)
  · exact Nat.le_of_not_lt fun q => h.2 ((nI_ltI hh c1).mpr q)
def M_bill1 (M : mM) (c w n r : Int32) : mM := sA (sA (sI (sI (sI (sI (sI (sI M 0 0) 2 c) 3 w) 4 n) 5 r) 6 0) 4 (fillI (M.2.1 4) 0 12)) 5 (fillI (M.2.1 5) 0 12)
def q_bill (M : mM) (c w n r : Int32) : Bool := okBill (M.1 1) c w n r
def M_bill (M : mM) (c w n r : Int32) : mM := if q_bill M c w n r = true then M_bill1 M c w n r else sI M 0 0
theorem t_X_bill (l : Launch) (X : gX) (ad : Nat → Nat) (u : gW) (sz x : Nat) (M : mM) (nC nB : Nat) (c w n r : Int32) (h : kD X ad x M u nC nB) : gMet l (EE X) y_X_bill c_X_bill 6 (some .boolean) ({ frames := 1, cells := 0, slots := 0, locals := 25 }) [.ref (ad x), .int c, .int w, .int n, .int r] ad u sz (postK X ad x (M_bill M c w n r) (.int (bI (q_bill M c w n r))) u) := by
  have h0 := h
  obtain ⟨R, ⟨h1, h2, h3⟩, ⟨py, wt, ⟨d0, d1, d2⟩, -⟩, -, h7, -⟩ := h
  obtain ⟨r1, r2, r3, r4, r5, r6, r7, r8, r9, r10, r11, r12, r13⟩ := R
  by_cases hb : isMb c (nI nC) = true
  · obtain ⟨k, hk, rfl⟩ := isMb_nat (by omega) hb
    have hq : okBX w n r = q_bill M (nI k) w n r := by rw [q_bill, okBill, r3, hb, Bool.true_and, okBX_eq]
    refine gMet_mono (k_X_bill_ok l X ad u sz x nC nB k _ _ _ _ _ _ _ w n r h1 h2 d0 d1 d2 hk r1) fun v u' s ⟨e0, hh⟩ => ?_
    rw [hq] at hh
    rcases hh with ⟨a1, a2, a3⟩ | ⟨a1, a2, a3⟩
    · rw [M_bill, if_pos a1, a1]
      refine ⟨a2, ⟨nC, nB, kD_draft h0 ?_ (fun n hn => by rw [a3, gup_ne (by omega), gup_ne (by omega), gup_ne (by omega)]) ?_ (fun _ _ _ a => a) (fun _ _ _ _ a => a)⟩, fun n hn => by rw [a3, gup_ne (by omega), gup_ne (by omega), gup_ne (by omega)]⟩
      · exact ⟨r1, r2, r3, r4, r5, r6, r7, r8, r9, r10, fun _ => ⟨k, hk, rfl⟩, r12, r13⟩
      · rw [← hq, okBX_eq, Bool.and_eq_true, Bool.and_eq_true] at a1
        obtain ⟨w1, w2, w3⟩ := a1
        refine ⟨fillL py 0 12, fillL wt 0 12, ⟨?_, ?_, ?_⟩, 0, ⟨by omega, rfl, fun i hi => absurd hi (Nat.not_lt_zero _)⟩, fun j hj => ⟨0, by omega, ?_, ?_⟩, fun j hj => ⟨0, by omega, ?_⟩, fun j hj => ?_, fun _ => ⟨?_, ?_, ?_, ?_⟩⟩
        · rw [a3, gup_ne (by omega), gup_ne (by omega), gup_self]
          show some _ = some (Sum.inr (2, [_, _, dvW ad x (nI k), _, _, _, _]))
          rw [dvW_k (by omega)]; rfl
        · rw [a3, gup_ne (by omega), gup_self]
        · rw [a3, gup_self]
        · show fillI (M.2.1 4) 0 12 j = _
          rw [fillI, if_pos hj]; rfl
        · rw [fillL, if_pos hj]; rfl
        · show fillI (M.2.1 5) 0 12 j = _
          rw [fillI, if_pos hj]; rfl
        · show fillL wt 0 12 j = heaV w (fillI (M.2.1 5) 0 12) _ _ 0 j
          rw [fillL, if_pos hj, heaV, fillI, if_pos hj]
          split <;> rfl
        · rw [withM, Bool.and_eq_true, Bool.not_eq_true', Bool.not_eq_true', decide_eq_false_iff_not, decide_eq_false_iff_not] at w1
          exact w1
        · obtain ⟨c, c1, c2, c3⟩ := nat_of (lo := 1) (hi := 100000000) (by decide) (by decide) w2
          exact ⟨c, c1, c2, c3⟩
        · obtain ⟨c, c1, c2, c3⟩ := nat_of (lo := 1) (hi := 1000000000) (by decide) (by decide) w3
          exact ⟨c, c1, c2, c3⟩
        · obtain ⟨q, q1, q2⟩ := r5 k (by omega)
          refine ⟨q, q1, ?_, fun j p1 p2 => ?_⟩
          · show M.2.1 1 (nI k).toNatClampNeg = _
            rw [nI_clamp (by omega)]; exact q2
          · rw [fillL, if_pos p2, fillL, if_pos p2]; exact ⟨rfl, rfl⟩
    · rw [M_bill, if_neg (by rw [a1]; decide), a1]
      exact postK_th h0 a2 a3
  · have hq : q_bill M c w n r = false := by rw [q_bill, okBill, r3, isMb_ff hb, Bool.false_and]
    rw [M_bill, if_neg (by rw [hq]; decide), hq]
    exact gMet_mono (k_X_bill_no l X ad u sz x nC nB c w n r h1 h2 (isMb_ff hb)) fun v u' s ⟨e1, e2, e3⟩ => postK_th h0 e1 e2
/-- who is present, on both sides -/
theorem sta_eq {M : mM} {nC nB k : Nat} {V : mM} {y : Int32} (hk : k < nC) (hC : nC ≤ 4) (h1 : M.1 1 = nI nC) (hd : M.1 2 = nI k) (hR : RC M nB k V) : staM (M.1 1) (M.1 2) (M.2.1 1) (M.2.1 3) y = isPr y (V.1 0) (V.1 1) := by
  obtain ⟨n, t, ⟨c1, c2, c3, c4, c5, c6, c7, c8, c9⟩, ⟨g, g1, g2, g3⟩, -⟩ := hR
  have ek : (nI k).toNatClampNeg = k := nI_clamp (by omega)
  rw [staM, hd, decide_eq_false (nI_ne1 (by omega)), Bool.not_false, Bool.true_and, memM_k h1 hC hk c4, isPr, c3, ek]
  by_cases hy : isMb y (nI n) = true
  · obtain ⟨i, i1, rfl⟩ := isMb_nat (by omega) hy
    rw [hy, Bool.true_and, Bool.true_and, nI_clamp (n := i) (by omega), g2, gBit_nat g1 (by omega)]
    have := g3 i (by omega)
    cases e : g.testBit i with
    | true => rw [decide_eq_false (this.mp e)]; rfl
    | false => rw [decide_eq_true (Decidable.byContradiction fun q => by rw [this.mpr q] at e; cases e)]; rfl
  · rw [isMb_ff hy, Bool.false_and, Bool.false_and]
theorem isPr_mb {y : Int32} {n : Nat} {go : Int32} (hn : n ≤ 12) (h : isPr y (nI n) go = true) : ∃ i, i < n ∧ y = nI i := by
  rw [isPr, Bool.and_eq_true] at h
  exact isMb_nat (by omega) h.1
def M_payer1 (M : mM) (y n : Int32) : mM := sA (sI M 0 0) 4 (upd (M.2.1 4) y.toNatClampNeg n)
def q_payer (M : mM) (y n : Int32) : Bool := okPay (M.1 1) (M.1 2) (M.2.1 1) (M.2.1 3) y n
def M_payer (M : mM) (y n : Int32) : mM := if q_payer M y n = true then M_payer1 M y n else sI M 0 0
theorem t_X_payer (l : Launch) (X : gX) (ad : Nat → Nat) (u : gW) (sz x : Nat) (M : mM) (nC nB : Nat) (y n : Int32) (h : kD X ad x M u nC nB) : gMet l (EE X) y_X_payer c_X_payer 4 (some .boolean) ({ frames := 2, cells := 0, slots := 0, locals := 42 }) [.ref (ad x), .int y, .int n] ad u sz (postK X ad x (M_payer M y n) (.int (bI (q_payer M y n))) u) := by
  have h0 := h
  obtain ⟨R, ⟨h1, h2, h3⟩, ⟨py, wt, ⟨d0, d1, d2⟩, hD⟩, -, h7, -⟩ := h
  obtain ⟨r1, r2, r3, r4, r5, r6, r7, r8, r9, r10, r11, r12, r13⟩ := R
  by_cases hdr : M.1 2 = -1
  · have hq : q_payer M y n = false := by rw [q_payer, okPay, staM, hdr]; rfl
    rw [M_payer, if_neg (by rw [hq]; decide), hq]
    rw [dvW, if_pos hdr] at d0
    exact gMet_mono (k_X_payer_no l X ad u sz x nC nB _ _ _ _ y n h1 d0) fun v u' s ⟨e1, e2, e3⟩ => postK_th h0 e1 e2
  · obtain ⟨k, hk, hkd⟩ := r11 hdr
    obtain ⟨V, hV, hR⟩ := h7 k hk
    have hsta := sta_eq (y := y) hk r1 r3 hkd hR
    obtain ⟨m, t, ⟨c1, c2, c3, c4, c5, c6, c7, c8, c9⟩, -⟩ := hR
    rw [hkd, dvW_k (by omega)] at d0
    have hq : (isPr y (V.1 0) (V.1 1) && (!decide (n < 0) && decide (n ≤ 100000000))) = q_payer M y n := by
      rw [q_payer, okPay, hsta, withM, dec_nlt]
    refine gMet_mono (k_X_payer_ok l X ad u sz x nC nB k _ _ _ _ _ _ _ _ y n h1 d0 hV.1 d1 (by rw [c3]; exact nI_le12 c1)) fun v u' s ⟨e0, hh⟩ => ?_
    rw [hq] at hh
    rcases hh with ⟨a1, a2, a3⟩ | ⟨a1, a2, a3⟩
    · rw [M_payer, if_pos a1, a1]
      refine ⟨a2, ⟨nC, nB, kD_draft h0 ⟨r1, r2, r3, r4, r5, r6, r7, r8, r9, r10, r11, r12, r13⟩ (fun n hn => by rw [a3, gup_ne (by omega)]) ?_ (fun _ _ _ a => a) (fun _ _ _ _ a => a)⟩, fun n hn => by rw [a3, gup_ne (by omega)]⟩
      rw [← hq, Bool.and_eq_true, c3, dec_nlt] at a1
      obtain ⟨i, hi, rfl⟩ := isPr_mb c1 a1.1
      obtain ⟨p, p1, p2, rfl⟩ := nat_of (v := n) (lo := 0) (hi := 100000000) (by decide) (by decide) a1.2
      have ei : (nI i).toNatClampNeg = i := nI_clamp (by omega)
      rw [ei] at a3
      obtain ⟨L, l1, l2, l3, l4, l5⟩ := hD
      refine ⟨vp_updL py i (nI p).toInt64, wt, ⟨?_, ?_, ?_⟩, L, l1, fun j hj => ?_, l3, l4, fun hh => ?_⟩
      · rw [a3, gup_ne (by omega), d0]
        show some (Sum.inr (2, [_, _, _, _, _, _, _])) = some (Sum.inr (2, [_, _, dvW ad x (M.1 2), _, _, _, _]))
        rw [hkd, dvW_k (by omega)]; rfl
      · rw [a3, gup_self]
      · rw [a3, gup_ne (by omega), d2]
      · show ∃ q, q ≤ 100000000 ∧ upd (M.2.1 4) (nI i).toNatClampNeg (nI p) j = nI q ∧ vp_updL py i (nI p).toInt64 j = lN q
        rw [ei]
        by_cases e : j = i
        · rw [e, upd_s, updL_s]; exact ⟨p, p2, rfl, nI_l (by omega)⟩
        · rw [upd_o e, updL_o e]; exact l2 j hj
      · obtain ⟨q1, q2, q3, q, q4, q5, q6⟩ := l5 hh
        refine ⟨q1, q2, q3, q, q4, q5, fun j b1 b2 => ⟨?_, (q6 j b1 b2).2⟩⟩
        have : q = m := by
          rw [hkd, nI_clamp (by omega), c4] at q5
          exact ((nI_eq (by omega) (by omega)).mp q5).symm
        rw [updL_o (by omega)]; exact (q6 j b1 b2).1
    · rw [M_payer, if_neg (by rw [a1]; decide), a1]
      exact postK_th h0 a2 a3
def M_weight1 (M : mM) (y n : Int32) : mM := sA (sI M 0 0) 5 (upd (M.2.1 5) y.toNatClampNeg n)
def q_weight (M : mM) (y n : Int32) : Bool := okWei (M.1 1) (M.1 2) (M.1 3) (M.2.1 1) (M.2.1 3) y n
def M_weight (M : mM) (y n : Int32) : mM := if q_weight M y n = true then M_weight1 M y n else sI M 0 0
theorem way_in {w : Int32} (h : ¬ w < 1 ∧ ¬ 5 < w) : w = 1 ∨ w = 2 ∨ w = 3 ∨ w = 4 ∨ w = 5 := by
  obtain ⟨c, c1, c2, rfl⟩ := nat_of (v := w) (lo := 1) (hi := 5) (by decide) (by decide) (by
    rw [withM, Bool.and_eq_true, Bool.not_eq_true', Bool.not_eq_true', decide_eq_false_iff_not, decide_eq_false_iff_not]; exact h)
  rcases (show c = 1 ∨ c = 2 ∨ c = 3 ∨ c = 4 ∨ c = 5 by omega) with rfl | rfl | rfl | rfl | rfl
  · exact Or.inl rfl
  · exact Or.inr (Or.inl rfl)
  · exact Or.inr (Or.inr (Or.inl rfl))
  · exact Or.inr (Or.inr (Or.inr (Or.inl rfl)))
  · exact Or.inr (Or.inr (Or.inr (Or.inr rfl)))
theorem mostW_eq {w : Int32} (h : ¬ w < 1 ∧ ¬ 5 < w) (h5 : ¬ w = 5) : mostW w = hiW w ∧ ∃ q, q ≤ 100000000 ∧ hiW w = nI q := by
  rcases way_in h with rfl | rfl | rfl | rfl | rfl
  · exact ⟨rfl, 1, by decide, rfl⟩
  · exact ⟨rfl, 1000, by decide, rfl⟩
  · exact ⟨rfl, 100000000, by decide, rfl⟩
  · exact ⟨rfl, 10000, by decide, rfl⟩
  · exact absurd rfl h5
theorem t_X_weight (l : Launch) (X : gX) (ad : Nat → Nat) (u : gW) (sz x : Nat) (M : mM) (nC nB : Nat) (y n : Int32) (h : kD X ad x M u nC nB) : gMet l (EE X) y_X_weight c_X_weight 4 (some .boolean) ({ frames := 2, cells := 0, slots := 0, locals := 42 }) [.ref (ad x), .int y, .int n] ad u sz (postK X ad x (M_weight M y n) (.int (bI (q_weight M y n))) u) := by
  have h0 := h
  obtain ⟨R, ⟨h1, h2, h3⟩, ⟨py, wt, ⟨d0, d1, d2⟩, hD⟩, -, h7, -⟩ := h
  obtain ⟨r1, r2, r3, r4, r5, r6, r7, r8, r9, r10, r11, r12, r13⟩ := R
  by_cases hdr : M.1 2 = -1
  · have hq : q_weight M y n = false := by rw [q_weight, okWei, staM, hdr]; rfl
    rw [M_weight, if_neg (by rw [hq]; decide), hq]
    rw [dvW, if_pos hdr] at d0
    exact gMet_mono (k_X_weight_no l X ad u sz x nC nB _ _ _ _ y n h1 d0) fun v u' s ⟨e1, e2, e3⟩ => postK_th h0 e1 e2
  · obtain ⟨k, hk, hkd⟩ := r11 hdr
    obtain ⟨V, hV, hR⟩ := h7 k hk
    have hsta := sta_eq (y := y) hk r1 r3 hkd hR
    obtain ⟨m, t, ⟨c1, c2, c3, c4, c5, c6, c7, c8, c9⟩, -⟩ := hR
    rw [hkd, dvW_k (by omega)] at d0
    obtain ⟨L, l1, l2, l3, l4, l5⟩ := hD
    obtain ⟨hway, -⟩ := l5 hdr
    have hq : (!decide (M.1 3 = 5) && (isPr y (V.1 0) (V.1 1) && (!decide (n < 0) && decide (n ≤ mostW (M.1 3))))) = q_weight M y n := by
      rw [q_weight, okWei, hsta, withM]
      by_cases h5 : M.1 3 = 5
      · rw [decide_eq_true h5]; simp
      · rw [decide_eq_false h5, (mostW_eq hway h5).1, dec_nlt]; simp
    refine gMet_mono (k_X_weight_ok l X ad u sz x nC nB k _ _ _ _ _ _ _ _ y n h1 d0 hV.1 d2 (by rw [c3]; exact nI_le12 c1)) fun v u' s ⟨e0, hh⟩ => ?_
    rw [hq] at hh
    rcases hh with ⟨a1, a2, a3⟩ | ⟨a1, a2, a3⟩
    · rw [M_weight, if_pos a1, a1]
      refine ⟨a2, ⟨nC, nB, kD_draft h0 ⟨r1, r2, r3, r4, r5, r6, r7, r8, r9, r10, r11, r12, r13⟩ (fun n hn => by rw [a3, gup_ne (by omega)]) ?_ (fun _ _ _ a => a) (fun _ _ _ _ a => a)⟩, fun n hn => by rw [a3, gup_ne (by omega)]⟩
      rw [← hq, Bool.and_eq_true, Bool.and_eq_true, c3, dec_nlt, Bool.not_eq_true', decide_eq_false_iff_not] at a1
      obtain ⟨a5, a6, a7⟩ := a1
      obtain ⟨i, hi, rfl⟩ := isPr_mb c1 a6
      obtain ⟨q0, q1, q2⟩ := mostW_eq hway a5
      rw [q0, q2.2] at a7
      obtain ⟨p, p1, p2, rfl⟩ := nat_of (v := n) (lo := 0) (by decide) (by omega) a7
      have ei : (nI i).toNatClampNeg = i := nI_clamp (by omega)
      rw [ei] at a3
      refine ⟨py, vp_updL wt i (nI p).toInt64, ⟨?_, ?_, ?_⟩, L, l1, l2, fun j hj => ?_, fun j hj => ?_, fun hh => ?_⟩
      · rw [a3, gup_ne (by omega), d0]
        show some (Sum.inr (2, [_, _, _, _, _, _, _])) = some (Sum.inr (2, [_, _, dvW ad x (M.1 2), _, _, _, _]))
        rw [hkd, dvW_k (by omega)]; rfl
      · rw [a3, gup_ne (by omega), d1]
      · rw [a3, gup_self]
      · show ∃ q, q ≤ 100000000 ∧ upd (M.2.1 5) (nI i).toNatClampNeg (nI p) j = nI q
        rw [ei]
        by_cases e : j = i
        · rw [e, upd_s]; exact ⟨p, by omega, rfl⟩
        · rw [upd_o e]; exact l3 j hj
      · show vp_updL wt i (nI p).toInt64 j = heaV (M.1 3) (upd (M.2.1 5) (nI i).toNatClampNeg (nI p)) (M.2.1 7) (M.2.1 6) L j
        rw [ei, heaV, if_neg a5]
        by_cases e : j = i
        · rw [e, updL_s, upd_s]
        · rw [updL_o e, upd_o e, l4 j hj, heaV, if_neg a5]
      · obtain ⟨g1, g2, g3, q, q4, q5, q6⟩ := l5 hh
        refine ⟨g1, g2, g3, q, q4, q5, fun j b1 b2 => ⟨(q6 j b1 b2).1, ?_⟩⟩
        have : q = m := by
          rw [hkd, nI_clamp (by omega), c4] at q5
          exact ((nI_eq (by omega) (by omega)).mp q5).symm
        rw [updL_o (by omega)]; exact (q6 j b1 b2).2
    · rw [M_weight, if_neg (by rw [a1]; decide), a1]
      exact postK_th h0 a2 a3
