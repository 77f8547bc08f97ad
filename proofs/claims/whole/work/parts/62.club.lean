/-! calls of the program's side that change one club -/
theorem RB_ag {M M' : mM} {j k : Nat} {V : mM} (h1 : M'.2.1 9 = M.2.1 9) (h2 : M'.2.2 10 = M.2.2 10) (h3 : M'.2.1 11 = M.2.1 11) (h4 : M'.2.2 13 = M.2.2 13) (h5 : M'.2.2 12 = M.2.2 12) (h6 : M'.2.2 14 = M.2.2 14) (h7 : ∃ n n', n ≤ n' ∧ n' ≤ 12 ∧ M.2.1 1 k = nI n ∧ M'.2.1 1 k = nI n') (h : RB M j k V) : RB M' j k V := by
  obtain ⟨a1, a2, a3, a4, a5, n, a6, a7, a8⟩ := h
  obtain ⟨m, m', b1, b2, b3, b4⟩ := h7
  have e : m = n := (nI_eq (by omega) (by omega)).mp (b3.symm.trans a7)
  refine ⟨by rw [h1]; exact a1, by rw [h2]; exact a2, by rw [h3]; exact a3, by rw [h4, h5, h6]; exact a4, a5, m', b2, b4, fun i c1 c2 => a8 i (by omega) c2⟩
theorem RB_same {M M' : mM} {j k : Nat} {V : mM} (h1 : M'.2.1 9 = M.2.1 9) (h2 : M'.2.2 10 = M.2.2 10) (h3 : M'.2.1 11 = M.2.1 11) (h4 : M'.2.2 13 = M.2.2 13) (h5 : M'.2.2 12 = M.2.2 12) (h6 : M'.2.2 14 = M.2.2 14) (h7 : M'.2.1 1 k = M.2.1 1 k) (h : RB M j k V) : RB M' j k V := by
  obtain ⟨n, a6, a7, -⟩ := h.2.2.2.2.2
  exact RB_ag h1 h2 h3 h4 h5 h6 ⟨n, n, Nat.le_refl _, a6, a7, h7.trans a7⟩ h
def M_member1 (M : mM) (c : Int32) : mM := sA (sI M 0 0) 1 (upd (M.2.1 1) c.toNatClampNeg (M.2.1 1 c.toNatClampNeg + 1))
theorem nI_12 {n : Nat} (h : n ≤ 12) : nI n = 12 ↔ n = 12 := by rw [show (12 : Int32) = nI 12 from rfl, nI_eq (by omega) (by decide)]
theorem nI_l12 {n : Nat} (h : n ≤ 12) : nI n < 12 ↔ n < 12 := by rw [show (12 : Int32) = nI 12 from rfl, nI_ltI (by omega) (by decide)]
theorem kD_member {X : gX} {ad : Nat → Nat} {x : Nat} {M : mM} {u u' : gW} {nC nB k : Nat} {V : mM} (hk : k < nC) (h : kD X ad x M u nC nB) (hV : clW X ad u (x + 16 * k + 32) V) (hR : RC M nB k V) (hq : ¬ M.2.1 1 k = 12)
    (hu : u' = gup u (x + 16 * k + 32) (.inr (1, [.ref (ad (x + 16 * k + 32 + 1)), .ref (ad (x + 16 * k + 32 + 2)), .ref (ad (x + 16 * k + 32 + 3)), .int (V.1 0 + 1), .int (V.1 1), .int (V.1 2)]))) : kD X ad x (M_member1 M (nI k)) u' nC nB := by
  have hC := h.1.1
  have ek : (nI k).toNatClampNeg = k := nI_clamp (by omega)
  obtain ⟨n, t, ⟨c1, c2, c3, c4, c5, c6, c7, c8, c9⟩, i0, i1, i2, i3, ⟨i4, i4', i4''⟩, i5, i6, i7, i8⟩ := hR
  have hn : n < 12 := by rw [c4, nI_12 c1] at hq; omega
  have e1 : ∀ k', (M_member1 M (nI k)).2.1 1 k' = upd (M.2.1 1) k (nI (n + 1)) k' := fun k' => by
    show upd (M.2.1 1) (nI k).toNatClampNeg (M.2.1 1 (nI k).toNatClampNeg + 1) k' = _
    rw [ek, c4, nI_1]
  have hne : ∀ n, n ≠ x + 16 * k + 32 → u' n = u n := fun n hn => by rw [hu, gup_ne hn]
  refine kD_club k hk h ?_ (fun n a b => hne n (by omega)) ?_ (fun py wt a b => ⟨a, ?_⟩) ?_ (fun k' V' hk' e a => RC_ag (M := M) ⟨⟨?_, rfl, rfl, rfl, rfl⟩, fun _ _ => ⟨rfl, rfl, rfl⟩, fun _ _ => ⟨rfl, rfl, rfl, rfl⟩, rfl, rfl, rfl, rfl, rfl⟩ a) (fun j k' V' hj hk' a => ?_)
  · obtain ⟨r1, r2, r3, r4, r5, r6, r7, r8, r9, r10, r11, r12, r13⟩ := h.1
    refine ⟨r1, r2, r3, r4, fun k' hk' => ?_, r6, r7, r8, r9, r10, r11, r12, fun k' a b => ?_⟩
    · rw [e1]
      by_cases e : k' = k
      · rw [e, upd_s]; exact ⟨n + 1, by omega, rfl⟩
      · rw [upd_o e]; exact r5 k' hk'
    · have := r13 k' a b
      refine ⟨?_, this.2⟩
      rw [e1, upd_o (by omega)]; exact this.1
  · obtain ⟨-, -, -, ⟨sz0, mem, mo, am, g⟩, -⟩ := h
    exact ⟨sz0, mem, mo, am, grW_fr g fun n a b => hne n (by omega)⟩
  · obtain ⟨L, l1, l2, l3, l4, l5⟩ := b
    refine ⟨L, l1, l2, l3, l4, fun hdr => ?_⟩
    obtain ⟨p1, p2, p3, n', p4, p5, p6⟩ := l5 hdr
    by_cases e : (M.1 2).toNatClampNeg = k
    · refine ⟨p1, p2, p3, n + 1, by omega, ?_, fun j a b => p6 j ?_ b⟩
      · show (M_member1 M (nI k)).2.1 1 (M.1 2).toNatClampNeg = _
        rw [e1, e, upd_s]
      · rw [e, c4] at p5
        have := (nI_eq (by omega) (by omega)).mp p5
        omega
    · refine ⟨p1, p2, p3, n', p4, ?_, p6⟩
      show (M_member1 M (nI k)).2.1 1 (M.1 2).toNatClampNeg = _
      rw [e1, upd_o e]; exact p5
  · refine ⟨sI V 0 (V.1 0 + 1), ⟨?_, ?_⟩, n + 1, t, ⟨by omega, c2, ?_, ?_, c5, c6, c7, c8, c9⟩, i0, i1, i2, i3, ⟨i4, i4', fun j hj => ?_⟩, i5, i6, fun j a b => i7 j (by omega) b, i8⟩
    · rw [hu, gup_self]; rfl
    · obtain ⟨v0, v1, v2, v3, v4, v5, v6, v7, v8⟩ := hV
      exact ⟨(hne _ (by omega)).trans v1, (hne _ (by omega)).trans v2, (hne _ (by omega)).trans v3, (hne _ (by omega)).trans v4, (hne _ (by omega)).trans v5, (hne _ (by omega)).trans v6, (hne _ (by omega)).trans v7, (hne _ (by omega)).trans v8⟩
    · show V.1 0 + 1 = _
      rw [c3, nI_1]
    · rw [e1, upd_s]
    · obtain ⟨a, b, q1, q2, q3⟩ := i4'' j hj
      exact ⟨a, b, by omega, by omega, q3⟩
  · rw [e1, upd_o e]
  · refine RB_ag (M := M) rfl rfl rfl rfl rfl rfl ?_ a
    obtain ⟨m, m1, m2⟩ := h.1.2.2.2.2.1 k' (by omega)
    by_cases e : k' = k
    · subst e
      have := (nI_eq (by omega) (by omega)).mp (m2.symm.trans c4)
      exact ⟨m, n + 1, by omega, by omega, m2, by rw [e1, upd_s]⟩
    · exact ⟨m, m, Nat.le_refl _, m1, m2, by rw [e1, upd_o e]; exact m2⟩
def M_member (M : mM) (c : Int32) : mM := if isMb c (M.1 1) = true ∧ ¬ M.2.1 1 c.toNatClampNeg = 12 then M_member1 M c else sI M 0 0
def a_member (M : mM) (c : Int32) : Int32 := if isMb c (M.1 1) = true ∧ ¬ M.2.1 1 c.toNatClampNeg = 12 then M.2.1 1 c.toNatClampNeg + 1 - 1 else -1
theorem t_X_member (l : Launch) (X : gX) (ad : Nat → Nat) (u : gW) (sz x : Nat) (M : mM) (nC nB : Nat) (c : Int32) (h : kD X ad x M u nC nB) : gMet l (EE X) y_X_member c_X_member 3 (some .int) ({ frames := 1, cells := 0, slots := 0, locals := 21 }) [.ref (ad x), .int c] ad u sz (postK X ad x (M_member M c) (.int (a_member M c)) u) := by
  have h0 := h
  obtain ⟨⟨r1, r2, r3, r4, -⟩, ⟨h1, h2, h3⟩, -, -, h7, -⟩ := h
  by_cases hb : isMb c (nI nC) = true
  · obtain ⟨k, hk, rfl⟩ := isMb_nat (by omega) hb
    obtain ⟨V, hV, hR⟩ := h7 k hk
    have hR' := hR
    obtain ⟨n, t, ⟨c1, c2, c3, c4, -⟩, -⟩ := hR'
    have ek : (nI k).toNatClampNeg = k := nI_clamp (by omega)
    refine gMet_mono (k_X_member_ok l X ad u sz x nC nB k _ _ _ h1 h2 hV.1 hk r1) fun v u' s ⟨e0, hh⟩ => ?_
    rcases hh with ⟨g1, g2, g3⟩ | ⟨g1, g2, g3⟩
    · have hq : ¬ M.2.1 1 k = 12 := by rw [c4, nI_12 c1]; rw [c3, nI_l12 c1] at g1; omega
      have hq' : isMb (nI k) (M.1 1) = true ∧ ¬ M.2.1 1 (nI k).toNatClampNeg = 12 := ⟨by rw [r3]; exact hb, by rw [ek]; exact hq⟩
      rw [M_member, a_member, if_pos hq', if_pos hq']
      refine ⟨by rw [g2, ek, c4, c3], ⟨nC, nB, kD_member hk h0 hV hR hq g3⟩, fun n hn => by rw [g3, gup_ne (by omega)]⟩
    · have hq' : ¬ (isMb (nI k) (M.1 1) = true ∧ ¬ M.2.1 1 (nI k).toNatClampNeg = 12) := fun q => q.2 (by rw [ek, c4, nI_12 c1]; rw [c3, nI_l12 c1] at g1; omega)
      rw [M_member, a_member, if_neg hq', if_neg hq']
      exact postK_th h0 g2 g3
  · have hq' : ¬ (isMb c (M.1 1) = true ∧ ¬ M.2.1 1 c.toNatClampNeg = 12) := fun q => hb (by rw [← r3]; exact q.1)
    rw [M_member, a_member, if_neg hq', if_neg hq']
    exact gMet_mono (k_X_member_no l X ad u sz x nC nB c h1 h2 (isMb_ff hb)) fun v u' s ⟨e1, e2, e3⟩ => postK_th h0 e1 e2
