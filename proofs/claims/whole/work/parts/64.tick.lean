/-! tick -/
theorem balR_add (cof str : Nat → Int32) (pai sha : Nat → Int64) (c : Int32) (x : Nat) (s0 d : Int64) (n : Nat) : balR cof str pai sha c x (s0 + d) n = balR cof str pai sha c x s0 n + d := by
  induction n with
  | zero => rfl
  | succ n ih => rw [balR, balR, ih, Int64.add_assoc, Int64.add_assoc, Int64.add_comm d]
theorem l_subneg (a b : Int64) : a - b = a + (-b) := Int64.sub_eq_add_neg a b
/-- an amount more for the one at a, on both sides -/
theorem bal_step {cof str : Nat → Int32} {pai sha bal sen : Nat → Int64} {k nB a : Nat} (d : Int64) (ha : a < 12) (h : ∀ j, j < 12 → bal j = balR cof str pai sha (nI k) j (sen (12 * k + j)) nB) :
    ∀ j, j < 12 → vp_updL bal a (bal a + d) j = balR cof str pai sha (nI k) j (vp_updL sen (12 * k + a) (sen (12 * k + a) + d) (12 * k + j)) nB := by
  intro j hj
  by_cases e : j = a
  · subst e; rw [updL_s, updL_s, balR_add, h j hj]
  · rw [updL_o e, updL_o (by omega), h j hj]
theorem untS_tick {f : Nat → Int32} {k i t : Nat} (hi : i < t) (h : f (11 * k + i) = 0) : untS (upd f (11 * k + i) 1) k t = untS f k t - 1 := by
  induction t with
  | zero => omega
  | succ t ih =>
    rw [untS, untS]
    by_cases e : i = t
    · subst e
      rw [upd_s, if_neg (by decide), h, if_pos rfl, untS_congr (g := f) i fun j hj => upd_o (by omega), Int32.add_zero, Int32.add_sub_cancel]
    · rw [ih (by omega), upd_o (by omega), Int32.sub_eq_add_neg, Int32.sub_eq_add_neg, Int32.add_assoc, Int32.add_assoc, Int32.add_comm (-1)]
def q_tick (M : mM) (c i : Int32) : Bool := okTick (M.1 1) (M.2.1 16) (M.2.1 19) (M.2.1 23) c i
def M_tick1 (M : mM) (c i : Int32) : mM := sL (sA (sI M 0 0) 23 (upd (M.2.1 23) (11 * c.toNatClampNeg + i.toNatClampNeg) 1)) 15 (vp_updL (vp_updL (M.2.2 15) (12 * c.toNatClampNeg + (M.2.1 20 (11 * c.toNatClampNeg + i.toNatClampNeg)).toNatClampNeg) (M.2.2 15 (12 * c.toNatClampNeg + (M.2.1 20 (11 * c.toNatClampNeg + i.toNatClampNeg)).toNatClampNeg) + M.2.2 22 (11 * c.toNatClampNeg + i.toNatClampNeg))) (12 * c.toNatClampNeg + (M.2.1 21 (11 * c.toNatClampNeg + i.toNatClampNeg)).toNatClampNeg) ((vp_updL (M.2.2 15) (12 * c.toNatClampNeg + (M.2.1 20 (11 * c.toNatClampNeg + i.toNatClampNeg)).toNatClampNeg) (M.2.2 15 (12 * c.toNatClampNeg + (M.2.1 20 (11 * c.toNatClampNeg + i.toNatClampNeg)).toNatClampNeg) + M.2.2 22 (11 * c.toNatClampNeg + i.toNatClampNeg))) (12 * c.toNatClampNeg + (M.2.1 21 (11 * c.toNatClampNeg + i.toNatClampNeg)).toNatClampNeg) - M.2.2 22 (11 * c.toNatClampNeg + i.toNatClampNeg)))
def M_tick (M : mM) (c i : Int32) : mM := if q_tick M c i = true then M_tick1 M c i else sI M 0 0
theorem kD_tick {X : gX} {ad : Nat → Nat} {x : Nat} {M : mM} {u u' : gW} {nC nB k i n t : Nat} {V : mM} (hk : k < nC) (h : kD X ad x M u nC nB) (hV : clW X ad u (x + 16 * k + 32) V) (hR : RC M nB k V) (ht : V.1 5 = nI t) (hi : i < t) (h11 : t ≤ 11) (hz : V.2.1 3 i = 0)
    (hu : u' = gup (gup (gup u (x + 16 * k + 32 + 3 + 5) (.inl ((X.2 2), 12, .inl (upd (V.2.1 3) i 1)))) (x + 16 * k + 32 + 3) (.inr (4, [.ref (ad (x + 16 * k + 32 + 3 + 1)), .ref (ad (x + 16 * k + 32 + 3 + 2)), .ref (ad (x + 16 * k + 32 + 3 + 3)), .ref (ad (x + 16 * k + 32 + 3 + 4)), .ref (ad (x + 16 * k + 32 + 3 + 5)), .int (V.1 3), .int (V.1 4), .int (V.1 5), .int (V.1 6 - 1)]))) (x + 16 * k + 32 + 1) (.inl ((X.2 1), 12, .inr (.inl (vp_updL (vp_updL (V.2.2 0) ((V.2.1 1 i).toNatClampNeg) (V.2.2 0 ((V.2.1 1 i).toNatClampNeg) + V.2.2 2 i)) ((V.2.1 2 i).toNatClampNeg) ((vp_updL (V.2.2 0) ((V.2.1 1 i).toNatClampNeg) (V.2.2 0 ((V.2.1 1 i).toNatClampNeg) + V.2.2 2 i)) ((V.2.1 2 i).toNatClampNeg) - V.2.2 2 i)))))) : kD X ad x (M_tick1 M (nI k) (nI i)) u' nC nB := by
  have hC := h.1.1
  have ek : (nI k).toNatClampNeg = k := nI_clamp (by omega)
  have ei : (nI i).toNatClampNeg = i := nI_clamp (by omega)
  obtain ⟨n, t', ⟨c1, c2, c3, c4, c5, c6, c7, c8, c9⟩, i0, i1, i2, i3, ⟨i4, i4', i4''⟩, i5, i6, i7, i8⟩ := hR
  have et : t' = t := (nI_eq (by omega) (by omega)).mp (c5.symm.trans ht)
  subst et
  obtain ⟨f1, f2, f3, f4, f5⟩ := i3 i hi
  obtain ⟨a, b, a1, b1, a2, b2⟩ := i4'' i hi
  have ea : (V.2.1 1 i).toNatClampNeg = a := by rw [a2]; exact nI_clamp (by omega)
  have eb : (V.2.1 2 i).toNatClampNeg = b := by rw [b2]; exact nI_clamp (by omega)
  rw [ea, eb] at hu
  generalize hd : V.2.2 2 i = d at *
  generalize hB1 : vp_updL (V.2.2 0) a (V.2.2 0 a + d) = bal1 at hu
  generalize hS1 : vp_updL (M.2.2 15) (12 * k + a) (M.2.2 15 (12 * k + a) + d) = sen1
  have eM : M_tick1 M (nI k) (nI i) = sL (sA (sI M 0 0) 23 (upd (M.2.1 23) (11 * k + i) 1)) 15 (vp_updL sen1 (12 * k + b) (sen1 (12 * k + b) + (-d))) := by
    rw [M_tick1, ek, ei, f1, f2, f3, ea, eb, hS1, l_subneg]
  rw [l_subneg] at hu
  have hs1 := bal_step d (a := a) (by omega) i5
  rw [hB1, hS1] at hs1
  have hs2 := bal_step (-d) (a := b) (by omega) hs1
  have hne : ∀ n, n ≠ x + 16 * k + 32 + 3 + 5 → n ≠ x + 16 * k + 32 + 3 → n ≠ x + 16 * k + 32 + 1 → u' n = u n := fun n p q r => by rw [hu, gup_ne r, gup_ne q, gup_ne p]
  rw [eM]
  refine kD_club k hk h ?_ (fun n a b => hne n (by omega) (by omega) (by omega)) ?_ (fun py wt a b => ⟨a, b⟩) ?_ (fun k' V' hk' e a => RC_ag (M := M) ⟨⟨rfl, rfl, rfl, rfl, rfl⟩, fun j hj => ⟨rfl, rfl, ?_⟩, fun j hj => ⟨rfl, rfl, rfl, ?_⟩, rfl, rfl, rfl, rfl, rfl⟩ a) (fun j k' V' hj hk' a => RB_same (M := M) rfl rfl rfl rfl rfl rfl rfl a)
  · obtain ⟨r1, r2, r3, r4, r5, r6, r7, r8, r9, r10, r11, r12, r13⟩ := h.1
    refine ⟨r1, r2, r3, r4, r5, r6, r7, r8, r9, r10, r11, r12, fun k' p q => ?_⟩
    obtain ⟨s1, s2, s3, s4, s5, s6⟩ := r13 k' p q
    refine ⟨s1, s2, s3, s4, s5, fun j hj => ⟨(s6 j hj).1, (s6 j hj).2.1, ?_⟩⟩
    show vp_updL sen1 _ _ _ = _
    rw [updL_o (by omega), ← hS1, updL_o (by omega)]; exact (s6 j hj).2.2
  · obtain ⟨-, -, -, ⟨sz0, mem, mo, am, g⟩, -⟩ := h
    exact ⟨sz0, mem, mo, am, grW_fr g fun n a b => hne n (by omega) (by omega) (by omega)⟩
  · refine ⟨sI (sA (sL V 0 (vp_updL bal1 b (bal1 b + (-d)))) 3 (upd (V.2.1 3) i 1)) 6 (V.1 6 - 1), ?_, n, t', ⟨c1, c2, c3, c4, c5, c6, c7, c8, c9⟩, i0, ?_, i2, fun j hj => ?_, ⟨i4, i4', i4''⟩, hs2, i6, fun j p q => ?_, ?_⟩
    · obtain ⟨v0, v1, v2, v3, v4, v5, v6, v7, v8⟩ := hV
      refine ⟨(hne _ (by omega) (by omega) (by omega)).trans v0, ?_, (hne _ (by omega) (by omega) (by omega)).trans v2, ?_, (hne _ (by omega) (by omega) (by omega)).trans v4, (hne _ (by omega) (by omega) (by omega)).trans v5, (hne _ (by omega) (by omega) (by omega)).trans v6, (hne _ (by omega) (by omega) (by omega)).trans v7, ?_⟩
      · rw [hu, gup_self]; rfl
      · rw [hu, gup_ne (by omega), gup_self]; rfl
      · rw [hu, gup_ne (by omega), gup_ne (by omega), gup_self]; rfl
    · show V.1 6 - 1 = untS (upd (M.2.1 23) (11 * k + i) 1) k t'
      rw [untS_tick hi (f4.trans hz), i1]
    · obtain ⟨e1, e2, e3, e4, e5⟩ := i3 j hj
      refine ⟨e1, e2, e3, ?_, ?_⟩
      · show upd (M.2.1 23) (11 * k + i) 1 (11 * k + j) = upd (V.2.1 3) i 1 j
        by_cases e : j = i
        · rw [e, upd_s, upd_s]
        · rw [upd_o (by omega), upd_o e]; exact e4
      · show upd (V.2.1 3) i 1 j = 0 ∨ upd (V.2.1 3) i 1 j = 1
        by_cases e : j = i
        · rw [e, upd_s]; exact Or.inr rfl
        · rw [upd_o e]; exact e5
    · show vp_updL bal1 b _ j = 0
      rw [updL_o (by omega), ← hB1, updL_o (by omega)]; exact i7 j p q
    · show sumL (vp_updL bal1 b (bal1 b + (-d))) 12 = 0
      rw [sumL_upd _ (by omega), ← hB1, sumL_upd _ (by omega), i8, Int64.zero_add, ← l_subneg, Int64.sub_self]
  · show vp_updL sen1 _ _ _ = _
    rw [updL_o (by omega), ← hS1, updL_o (by omega)]
  · show upd _ _ _ _ = _
    rw [upd_o (by omega)]
theorem t_X_tick (l : Launch) (X : gX) (ad : Nat → Nat) (u : gW) (sz x : Nat) (M : mM) (nC nB : Nat) (c i : Int32) (h : kD X ad x M u nC nB) : gMet l (EE X) y_X_tick c_X_tick 4 (some .boolean) ({ frames := 1, cells := 0, slots := 0, locals := 21 }) [.ref (ad x), .int c, .int i] ad u sz (postK X ad x (M_tick M c i) (.int (bI (q_tick M c i))) u) := by
  have h0 := h
  obtain ⟨⟨r1, r2, r3, r4, -⟩, ⟨h1, h2, h3⟩, -, -, h7, -⟩ := h
  by_cases hb : isMb c (nI nC) = true
  · obtain ⟨k, hk, rfl⟩ := isMb_nat (by omega) hb
    obtain ⟨V, hV, hR⟩ := h7 k hk
    have hR' := hR
    obtain ⟨n, t, ⟨c1, c2, c3, c4, c5, c6, c7, c8, c9⟩, -, i1, -, i3, ⟨i4, i4', i4''⟩, -⟩ := hR'
    have ek : (nI k).toNatClampNeg = k := nI_clamp (by omega)
    have hq : (hasTr (V.1 3) (V.1 5) i && decide (V.2.1 3 i.toNatClampNeg = 0)) = q_tick M (nI k) i := by
      rw [q_tick, okTick, isTr, r3, hb, Bool.true_and, ek, c8, c6, hasTr, c5]
      by_cases hi : (!decide (i < 0) && !decide (nI t ≤ i)) = true
      · obtain ⟨j, hj, rfl⟩ := isMb_nat (c := i) (n := t) (by omega) hi
        rw [nI_clamp (n := j) (by omega), (i3 j hj).2.2.2.1]
        simp only [Bool.and_assoc]
      · rw [show (!decide (V.1 3 = 0) && !decide (i < 0) && !decide (nI t ≤ i)) = (!decide (V.1 3 = 0) && (!decide (i < 0) && !decide (nI t ≤ i))) from Bool.and_assoc _ _ _, (Bool.not_eq_true _).mp hi, Bool.and_false, Bool.false_and, Bool.false_and]
    refine gMet_mono (k_X_tick_ok l X ad u sz x nC nB k _ _ _ _ _ _ _ _ _ _ _ _ i h1 h2 hV.1 hV.2.2.2.1 hV.2.1 hV.2.2.2.2.2.1 hV.2.2.2.2.2.2.1 hV.2.2.2.2.2.2.2.1 hV.2.2.2.2.2.2.2.2 hk r1 (by rw [c5]; exact nI_le12 (by omega)) i4 i4') fun v u' s ⟨e0, hh⟩ => ?_
    rw [hq] at hh
    rcases hh with ⟨a1, a2, a3⟩ | ⟨a1, a2, a3⟩
    · rw [M_tick, if_pos a1, a1]
      rw [← hq, Bool.and_eq_true, hasTr, Bool.and_assoc, Bool.and_eq_true, decide_eq_true_iff] at a1
      have hi := a1.1.2
      rw [c5] at hi
      obtain ⟨j, hj, rfl⟩ := isMb_nat (c := i) (n := t) (by omega) hi
      have ej : (nI j).toNatClampNeg = j := nI_clamp (by omega)
      rw [ej] at a3 a1
      exact ⟨a2, ⟨nC, nB, kD_tick (n := n) hk h0 hV hR c5 hj c2 a1.2 a3⟩, fun n hn => by rw [a3, gup_ne (by omega), gup_ne (by omega), gup_ne (by omega)]⟩
    · rw [M_tick, if_neg (by rw [a1]; decide), a1]
      exact postK_th h0 a2 a3
  · have hq : q_tick M c i = false := by rw [q_tick, okTick, isTr, r3, isMb_ff hb, Bool.false_and, Bool.false_and]
    rw [M_tick, if_neg (by rw [hq]; decide), hq]
    exact gMet_mono (k_X_tick_no l X ad u sz x nC nB c i h1 h2 (isMb_ff hb)) fun v u' s ⟨e1, e2, e3⟩ => postK_th h0 e1 e2
