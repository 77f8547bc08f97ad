/-! leave, giveUp, close, tick -/
theorem gBit_nat {g i : Nat} (hg : g < 4096) (hi : i < 12) : gBit (nI g) (nI i) = g.testBit i := by
  rw [gBit]
  have h := bit0 (s := g) (i := i) (by omega) (by omega)
  cases e : g.testBit i with
  | true => rw [decide_eq_false (fun q => by rw [h.mp q] at e; cases e)]; rfl
  | false => rw [decide_eq_true (h.mpr e)]; rfl
def M_leave1 (M : mM) (c y : Int32) : mM := sA (sI M 0 0) 3 (upd (M.2.1 3) (12 * c.toNatClampNeg + y.toNatClampNeg) 1)
def q_leave (M : mM) (c y : Int32) : Bool := okLea (M.1 1) (M.2.1 1) (M.2.1 3) (M.2.1 16) (M.2.1 9) (M.2.1 11) (M.2.2 13) (M.2.2 12) (M.2.2 15) (nbM M) c y
def M_leave (M : mM) (c y : Int32) : mM := if q_leave M c y = true then M_leave1 M c y else sI M 0 0
theorem kD_leave {X : gX} {ad : Nat → Nat} {x : Nat} {M : mM} {u u' : gW} {nC nB k i n : Nat} {V : mM} (hk : k < nC) (h : kD X ad x M u nC nB) (hV : clW X ad u (x + 16 * k + 32) V) (hR : RC M nB k V) (hi : i < 12)
    (hu : u' = gup u (x + 16 * k + 32) (.inr (1, [.ref (ad (x + 16 * k + 32 + 1)), .ref (ad (x + 16 * k + 32 + 2)), .ref (ad (x + 16 * k + 32 + 3)), .int (V.1 0), .int (V.1 1 ||| 1 <<< (nI i &&& 31)), .int (V.1 2)]))) : kD X ad x (M_leave1 M (nI k) (nI i)) u' nC nB := by
  have hC := h.1.1
  have ek : (nI k).toNatClampNeg = k := nI_clamp (by omega)
  have ei : (nI i).toNatClampNeg = i := nI_clamp (by omega)
  obtain ⟨n, t, i00, ⟨g, g1, g2, g3⟩, i1⟩ := hR
  have e1 : ∀ q, (M_leave1 M (nI k) (nI i)).2.1 3 q = upd (M.2.1 3) (12 * k + i) 1 q := fun q => by
    show upd (M.2.1 3) (12 * (nI k).toNatClampNeg + (nI i).toNatClampNeg) 1 q = _
    rw [ek, ei]
  have hne : ∀ n, n ≠ x + 16 * k + 32 → u' n = u n := fun n hn => by rw [hu, gup_ne hn]
  refine kD_club k hk h ?_ (fun n a b => hne n (by omega)) ?_ (fun py wt a b => ⟨a, b⟩) ?_ (fun k' V' hk' e a => RC_ag (M := M) ⟨⟨rfl, rfl, rfl, rfl, rfl⟩, fun j hj => ⟨?_, rfl, rfl⟩, fun _ _ => ⟨rfl, rfl, rfl, rfl⟩, rfl, rfl, rfl, rfl, rfl⟩ a) (fun j k' V' hj hk' a => RB_same (M := M) rfl rfl rfl rfl rfl rfl rfl a)
  · obtain ⟨r1, r2, r3, r4, r5, r6, r7, r8, r9, r10, r11, r12, r13⟩ := h.1
    refine ⟨r1, r2, r3, r4, r5, r6, r7, r8, r9, r10, r11, r12, fun k' a b => ?_⟩
    obtain ⟨s1, s2, s3, s4, s5, s6⟩ := r13 k' a b
    exact ⟨s1, s2, s3, s4, s5, fun j hj => ⟨by rw [e1, upd_o (by omega)]; exact (s6 j hj).1, (s6 j hj).2⟩⟩
  · obtain ⟨-, -, -, ⟨sz0, mem, mo, am, g⟩, -⟩ := h
    exact ⟨sz0, mem, mo, am, grW_fr g fun n a b => hne n (by omega)⟩
  · refine ⟨sI V 1 (V.1 1 ||| 1 <<< (nI i &&& 31)), ⟨?_, ?_⟩, n, t, i00, ⟨g ||| 2 ^ i, or_lt2 (n := 12) g1 (Nat.pow_lt_pow_right (by decide) hi), ?_, fun j hj => ?_⟩, i1⟩
    · rw [hu, gup_self]; rfl
    · obtain ⟨v0, v1, v2, v3, v4, v5, v6, v7, v8⟩ := hV
      exact ⟨(hne _ (by omega)).trans v1, (hne _ (by omega)).trans v2, (hne _ (by omega)).trans v3, (hne _ (by omega)).trans v4, (hne _ (by omega)).trans v5, (hne _ (by omega)).trans v6, (hne _ (by omega)).trans v7, (hne _ (by omega)).trans v8⟩
    · show V.1 1 ||| 1 <<< (nI i &&& 31) = _
      rw [g2, shl1 i (by omega), nI_or]
    · rw [or_in, pow_in, e1]
      by_cases e : i = j
      · subst e; rw [upd_s]; exact ⟨fun _ => by decide, fun _ => Or.inr rfl⟩
      · rw [upd_o (by omega), g3 j hj]
        exact ⟨fun q => q.resolve_right e, Or.inl⟩
  · rw [e1, upd_o (by omega)]
theorem t_X_leave (l : Launch) (X : gX) (ad : Nat → Nat) (u : gW) (sz x : Nat) (M : mM) (nC nB : Nat) (c y : Int32) (h : kD X ad x M u nC nB) : gMet l (EE X) y_X_leave c_X_leave 4 (some .boolean) ({ frames := 2, cells := 0, slots := 0, locals := 42 }) [.ref (ad x), .int c, .int y] ad u sz (postK X ad x (M_leave M c y) (.int (bI (q_leave M c y))) u) := by
  have h0 := h
  obtain ⟨r0, ⟨h1, h2, h3⟩, -, -, h7, -⟩ := h
  have hnb := nbM_eq r0
  obtain ⟨r1, r2, r3, r4, -⟩ := r0
  by_cases hb : isMb c (nI nC) = true
  · obtain ⟨k, hk, rfl⟩ := isMb_nat (by omega) hb
    obtain ⟨V, hV, hR⟩ := h7 k hk
    have hR' := hR
    obtain ⟨n, t, ⟨c1, c2, c3, c4, c5, c6, c7, c8, c9⟩, ⟨g, g1, g2, g3⟩, -, -, -, -, i5, -⟩ := hR'
    have ek : (nI k).toNatClampNeg = k := nI_clamp (by omega)
    have hq : (isPr y (V.1 0) (V.1 1) && (decide (V.2.2 0 y.toNatClampNeg = 0) && decide (V.1 3 = 0))) = q_leave M (nI k) y := by
      rw [q_leave, okLea, memM_k r3 r1 hk c4, isPr, c3, ek]
      by_cases hy : isMb y (nI n) = true
      · obtain ⟨i, i1, rfl⟩ := isMb_nat (by omega) hy
        rw [hy, Bool.true_and, Bool.true_and, nI_clamp (n := i) (by omega), g2, gBit_nat g1 (by omega), c8, i5 i (by omega), balM, memM_k r3 r1 hk c4, if_pos hy, hnb, nI_clamp (n := i) (by omega), ek]
        congr 1
        have := g3 i (by omega)
        cases e : g.testBit i with
        | true => rw [decide_eq_false (this.mp e)]; rfl
        | false => rw [decide_eq_true (Decidable.byContradiction fun q => by rw [this.mpr q] at e; cases e)]; rfl
      · rw [isMb_ff hy, Bool.false_and, Bool.false_and, Bool.false_and]
    refine gMet_mono (k_X_leave_ok l X ad u sz x nC nB k _ _ _ _ _ _ _ _ y h1 h2 hV.1 hV.2.2.2.1 hV.2.1 hk r1 (by rw [c3]; exact nI_le12 c1)) fun v u' s ⟨e0, hh⟩ => ?_
    rw [hq] at hh
    rcases hh with ⟨a1, a2, a3⟩ | ⟨a1, a2, a3⟩
    · rw [M_leave, if_pos a1, a1]
      have hy : isMb y (nI n) = true := by
        rw [← hq, Bool.and_eq_true, isPr, Bool.and_eq_true, c3] at a1; exact a1.1.1
      obtain ⟨i, i1, rfl⟩ := isMb_nat (by omega) hy
      exact ⟨a2, ⟨nC, nB, kD_leave (n := n) hk h0 hV hR (by omega) a3⟩, fun n hn => by rw [a3, gup_ne (by omega)]⟩
    · rw [M_leave, if_neg (by rw [a1]; decide), a1]
      exact postK_th h0 a2 a3
  · have hq : q_leave M c y = false := by rw [q_leave, okLea, memM_no r3 hb, Bool.false_and]
    rw [M_leave, if_neg (by rw [hq]; decide), hq]
    exact gMet_mono (k_X_leave_no l X ad u sz x nC nB c y h1 h2 (isMb_ff hb)) fun v u' s ⟨e1, e2, e3⟩ => postK_th h0 e1 e2
theorem untS_nat (f : Nat → Int32) (k t : Nat) : ∃ q, q ≤ t ∧ untS f k t = nI q := by
  induction t with
  | zero => exact ⟨0, Nat.le_refl _, rfl⟩
  | succ t ih =>
    obtain ⟨q, q1, q2⟩ := ih
    rw [untS, q2]
    split
    · exact ⟨q + 1, by omega, nI_1 q⟩
    · exact ⟨q, by omega, by rw [show (0 : Int32) = nI 0 from rfl, nI_add, Nat.add_zero]⟩
def M_shut (M : mM) (c : Int32) : mM := sA (sI M 0 0) 16 (upd (M.2.1 16) c.toNatClampNeg 0)
/-- the settlement of club k is no more -/
theorem kD_shut {X : gX} {ad : Nat → Nat} {x : Nat} {M : mM} {u u' : gW} {nC nB k : Nat} {V : mM} (hk : k < nC) (h : kD X ad x M u nC nB) (hV : clW X ad u (x + 16 * k + 32) V) (hR : RC M nB k V)
    (hu : u' = gup u (x + 16 * k + 32 + 3) (.inr (4, [.ref (ad (x + 16 * k + 32 + 3 + 1)), .ref (ad (x + 16 * k + 32 + 3 + 2)), .ref (ad (x + 16 * k + 32 + 3 + 3)), .ref (ad (x + 16 * k + 32 + 3 + 4)), .ref (ad (x + 16 * k + 32 + 3 + 5)), .int 0, .int (V.1 4), .int (V.1 5), .int (V.1 6)]))) : kD X ad x (M_shut M (nI k)) u' nC nB := by
  have hC := h.1.1
  have ek : (nI k).toNatClampNeg = k := nI_clamp (by omega)
  obtain ⟨n, t, ⟨c1, c2, c3, c4, c5, c6, c7, c8, c9⟩, i0⟩ := hR
  have e1 : ∀ q, (M_shut M (nI k)).2.1 16 q = upd (M.2.1 16) k 0 q := fun q => by
    show upd (M.2.1 16) (nI k).toNatClampNeg 0 q = _
    rw [ek]
  have hne : ∀ n, n ≠ x + 16 * k + 32 + 3 → u' n = u n := fun n hn => by rw [hu, gup_ne hn]
  refine kD_club k hk h ?_ (fun n a b => hne n (by omega)) ?_ (fun py wt a b => ⟨a, b⟩) ?_ (fun k' V' hk' e a => RC_ag (M := M) ⟨⟨rfl, rfl, ?_, rfl, rfl⟩, fun j hj => ⟨rfl, rfl, rfl⟩, fun _ _ => ⟨rfl, rfl, rfl, rfl⟩, rfl, rfl, rfl, rfl, rfl⟩ a) (fun j k' V' hj hk' a => RB_same (M := M) rfl rfl rfl rfl rfl rfl rfl a)
  · obtain ⟨r1, r2, r3, r4, r5, r6, r7, r8, r9, r10, r11, r12, r13⟩ := h.1
    refine ⟨r1, r2, r3, r4, r5, r6, r7, r8, r9, r10, r11, r12, fun k' a b => ?_⟩
    obtain ⟨s1, s2, s3, s4, s5, s6⟩ := r13 k' a b
    exact ⟨s1, s2, by rw [e1, upd_o (by omega)]; exact s3, s4, s5, s6⟩
  · obtain ⟨-, -, -, ⟨sz0, mem, mo, am, g⟩, -⟩ := h
    exact ⟨sz0, mem, mo, am, grW_fr g fun n a b => hne n (by omega)⟩
  · refine ⟨sI V 3 0, ?_, n, t, ⟨c1, c2, c3, c4, c5, c6, c7, ?_, c9⟩, i0⟩
    · obtain ⟨v0, v1, v2, v3, v4, v5, v6, v7, v8⟩ := hV
      exact ⟨(hne _ (by omega)).trans v0, (hne _ (by omega)).trans v1, (hne _ (by omega)).trans v2, by rw [hu, gup_self]; rfl, (hne _ (by omega)).trans v4, (hne _ (by omega)).trans v5, (hne _ (by omega)).trans v6, (hne _ (by omega)).trans v7, (hne _ (by omega)).trans v8⟩
    · rw [e1, upd_s]; rfl
  · rw [e1, upd_o e]
def q_give (M : mM) (c : Int32) : Bool := okGive (M.1 1) (M.2.1 16) c
def M_giveUp (M : mM) (c : Int32) : mM := if q_give M c = true then M_shut M c else sI M 0 0
def a_giveUp (M : mM) (c : Int32) : Int32 := if q_give M c = true then untM (M.2.1 19) (M.2.1 23) c.toNatClampNeg else -1
theorem t_X_giveUp (l : Launch) (X : gX) (ad : Nat → Nat) (u : gW) (sz x : Nat) (M : mM) (nC nB : Nat) (c : Int32) (h : kD X ad x M u nC nB) : gMet l (EE X) y_X_giveUp c_X_giveUp 3 (some .int) ({ frames := 1, cells := 0, slots := 0, locals := 21 }) [.ref (ad x), .int c] ad u sz (postK X ad x (M_giveUp M c) (.int (a_giveUp M c)) u) := by
  have h0 := h
  obtain ⟨⟨r1, r2, r3, r4, -⟩, ⟨h1, h2, h3⟩, -, -, h7, -⟩ := h
  by_cases hb : isMb c (nI nC) = true
  · obtain ⟨k, hk, rfl⟩ := isMb_nat (by omega) hb
    obtain ⟨V, hV, hR⟩ := h7 k hk
    have hR' := hR
    obtain ⟨n, t, ⟨c1, c2, c3, c4, c5, c6, c7, c8, c9⟩, -, i1, -⟩ := hR'
    have ek : (nI k).toNatClampNeg = k := nI_clamp (by omega)
    have hq : (!decide (V.1 3 = 0)) = q_give M (nI k) := by rw [q_give, okGive, r3, hb, Bool.true_and, ek, c8]
    refine gMet_mono (k_X_giveUp_ok l X ad u sz x nC nB k _ _ _ _ _ _ _ h1 h2 hV.1 hV.2.2.2.1 hk r1) fun v u' s ⟨e0, hh⟩ => ?_
    rw [hq] at hh
    rcases hh with ⟨a1, a2, a3⟩ | ⟨a1, a2, a3⟩
    · rw [M_giveUp, a_giveUp, if_pos a1, if_pos a1]
      exact ⟨by rw [a2, i1, untM, ek, c6, nI_clamp (by omega)], ⟨nC, nB, kD_shut hk h0 hV hR a3⟩, fun n hn => by rw [a3, gup_ne (by omega)]⟩
    · rw [M_giveUp, a_giveUp, if_neg (by rw [a1]; decide), if_neg (by rw [a1]; decide)]
      exact postK_th h0 a2 a3
  · have hq : q_give M c = false := by rw [q_give, okGive, r3, isMb_ff hb, Bool.false_and]
    rw [M_giveUp, a_giveUp, if_neg (by rw [hq]; decide), if_neg (by rw [hq]; decide)]
    exact gMet_mono (k_X_giveUp_no l X ad u sz x nC nB c h1 h2 (isMb_ff hb)) fun v u' s ⟨e1, e2, e3⟩ => postK_th h0 e1 e2
def q_close (M : mM) (c : Int32) : Bool := okClose (M.1 1) (M.2.1 16) (M.2.1 19) (M.2.1 23) c
def M_close (M : mM) (c : Int32) : mM := if q_close M c = true then M_shut M c else sI M 0 0
theorem t_X_close (l : Launch) (X : gX) (ad : Nat → Nat) (u : gW) (sz x : Nat) (M : mM) (nC nB : Nat) (c : Int32) (h : kD X ad x M u nC nB) : gMet l (EE X) y_X_close c_X_close 3 (some .boolean) ({ frames := 1, cells := 0, slots := 0, locals := 21 }) [.ref (ad x), .int c] ad u sz (postK X ad x (M_close M c) (.int (bI (q_close M c))) u) := by
  have h0 := h
  obtain ⟨⟨r1, r2, r3, r4, -⟩, ⟨h1, h2, h3⟩, -, -, h7, -⟩ := h
  by_cases hb : isMb c (nI nC) = true
  · obtain ⟨k, hk, rfl⟩ := isMb_nat (by omega) hb
    obtain ⟨V, hV, hR⟩ := h7 k hk
    have hR' := hR
    obtain ⟨n, t, ⟨c1, c2, c3, c4, c5, c6, c7, c8, c9⟩, -, i1, -⟩ := hR'
    have ek : (nI k).toNatClampNeg = k := nI_clamp (by omega)
    have hq : (!decide (V.1 3 = 0) && decide (V.1 6 = 0)) = q_close M (nI k) := by
      rw [q_close, okClose, r3, hb, Bool.true_and, ek, c8, i1, untM, c6, nI_clamp (by omega)]
      obtain ⟨q, q1, q2⟩ := untS_nat (M.2.1 23) k t
      rw [q2]
      congr 1
      rw [show (0 : Int32) = nI 0 from rfl]
      exact decide_eq_decide.mpr (by rw [nI_eq (by omega) (by decide), nI_leI (by omega) (by decide)]; omega)
    refine gMet_mono (k_X_close_ok l X ad u sz x nC nB k _ _ _ _ _ _ _ h1 h2 hV.1 hV.2.2.2.1 hk r1) fun v u' s ⟨e0, hh⟩ => ?_
    rw [hq] at hh
    rcases hh with ⟨a1, a2, a3⟩ | ⟨a1, a2, a3⟩
    · rw [M_close, if_pos a1, a1]
      exact ⟨a2, ⟨nC, nB, kD_shut hk h0 hV hR a3⟩, fun n hn => by rw [a3, gup_ne (by omega)]⟩
    · rw [M_close, if_neg (by rw [a1]; decide), a1]
      exact postK_th h0 a2 a3
  · have hq : q_close M c = false := by rw [q_close, okClose, r3, isMb_ff hb, Bool.false_and]
    rw [M_close, if_neg (by rw [hq]; decide), hq]
    exact gMet_mono (k_X_close_no l X ad u sz x nC nB c h1 h2 (isMb_ff hb)) fun v u' s ⟨e1, e2, e3⟩ => postK_th h0 e1 e2
