/-! post, the program's side: the new bill -/
theorem kD_post {X : gX} {ad : Nat → Nat} {x : Nat} {M : mM} {u u' : gW} {nC nB k : Nat} {V : mM} {py wt pd sh df bal dri : Nat → Int64} {mk : Int32} (hk : k < nC) (h : kD X ad x M u nC nB) (hV : clW X ad u (x + 16 * k + 32) V) (hR : RC M nB k V) (hkd : M.1 2 = nI k) (hd0 : drW X ad u x M py wt) (hD : RD M py wt) (hB64 : nB < 64)
    (hpd : ∀ j, j < 12 → pd j = (paM M).1 j) (hsh : ∀ j, j < 12 → sh j = (shM M).1 j) (hdf : ∀ j, j < 12 → df j = driMG (tM M) (sumL (hvM M) 12) (hmM M) (shM M).1 j) (hsum : sumL pd 12 = sumL sh 12) (hp0 : ∀ j, j < 12 → py j = 0 → pd j = 0) (hs0 : ∀ j, j < 12 → wt j = 0 → sh j = 0)
    (hmk : mk = nI (shM M).2.2) (hmk12 : (shM M).2.2 < 12) (hbal : ∀ j, j < 12 → bal j = V.2.2 0 j + (pd j - sh j)) (hdri : ∀ j, j < 12 → dri j = V.2.2 1 j + df j)
    (hu : u' = gup (gup (gup (gup (gup (gup (gup (gup (gup (gup u x (.inr (5, [.ref (ad (x + 1)), .ref (ad (x + 2)), .ref (ad (x + 3)), .ref (ad (x + 6)), .int (nI nC), .int (nI (nB + 1))]))) (x + 2) (.inl ((X.2 4), 64, .inr (.inr (.inr (.inr (bArr ad x (nB + 1)))))))) (x + 3) (.inr (2, [.ref (ad (x + 3 + 1)), .ref (ad (x + 3 + 2)), .null, .int (M.1 3), .int (M.1 4), .int (M.1 5), .int (M.1 6)]))) (x + 16 * k + 32) (.inr (1, [.ref (ad (x + 16 * k + 32 + 1)), .ref (ad (x + 16 * k + 32 + 2)), .ref (ad (x + 16 * k + 32 + 3)), .int (V.1 0), .int (V.1 1), .int mk]))) (x + 16 * k + 32 + 1) (.inl ((X.2 1), 12, .inr (.inl bal)))) (x + 16 * k + 32 + 2) (.inl ((X.2 1), 12, .inr (.inl dri))))
      (x + 4 * nB + 128) (.inr (0, [.ref (ad (x + 16 * k + 32)), .long (tM M), .ref (ad (x + 4 * nB + 128 + 1)), .ref (ad (x + 4 * nB + 128 + 2)), .ref (ad (x + 4 * nB + 128 + 3)), .int 0]))) (x + 4 * nB + 128 + 1) (.inl ((X.2 1), 12, .inr (.inl pd)))) (x + 4 * nB + 128 + 2) (.inl ((X.2 1), 12, .inr (.inl sh)))) (x + 4 * nB + 128 + 3) (.inl ((X.2 1), 12, .inr (.inl df)))) : kD X ad x (M_post1 M) u' nC (nB + 1) := by
  have hnb : nbM M = nB := nbM_eq h.1
  obtain ⟨R, ⟨h1, h2, h3⟩, -, ⟨sz0, mem, mo, am, hgW⟩, h7, h8, h9, h10⟩ := h
  obtain ⟨r1, r2, r3, r4, r5, r6, r7, r8, r9, r10, r11, r12, r13⟩ := R
  have ed : dM M = k := by rw [dM, hkd]; exact nI_clamp (by omega)
  obtain ⟨n, t, ⟨c1, c2, c3, c4, c5, c6, c7, c8, c9⟩, i0, i1, i2, i3, i4, i5, i6, i7, i8⟩ := hR
  have e2 : (M_post1 M).2.1 2 = upd (M.2.1 2) k (nI (shM M).2.2) := by
    show upd (M.2.1 2) (dM M) (nI (shM M).2.2) = _
    rw [ed]
  have e9 : (M_post1 M).2.1 9 = upd (M.2.1 9) nB (nI k) := by
    show upd (M.2.1 9) (nbM M) (M.1 2) = _
    rw [hnb, hkd]
  have e11 : (M_post1 M).2.1 11 = upd (M.2.1 11) nB 0 := by
    show upd (M.2.1 11) (nbM M) 0 = _
    rw [hnb]
  have e10 : (M_post1 M).2.2 10 = vp_updL (M.2.2 10) nB (tM M) := by
    show vp_updL (M.2.2 10) (nbM M) (tM M) = _
    rw [hnb]
  have e12 : (M_post1 M).2.2 12 = mapO (M.2.2 12) (shM M).1 (12 * nB) 12 := by
    show mapO (M.2.2 12) (shM M).1 (12 * nbM M) 12 = _
    rw [hnb]
  have e13 : (M_post1 M).2.2 13 = mapO (M.2.2 13) (paM M).1 (12 * nB) 12 := by
    show mapO (M.2.2 13) (paM M).1 (12 * nbM M) 12 = _
    rw [hnb]
  have e14 : (M_post1 M).2.2 14 = mapO (M.2.2 14) (driMG (tM M) (sumL (hvM M) 12) (hmM M) (shM M).1) (12 * nB) 12 := by
    show mapO (M.2.2 14) (driMG (tM M) (sumL (hvM M) 12) (hmM M) (shM M).1) (12 * nbM M) 12 = _
    rw [hnb]
  have s1 : (M_post1 M).2.1 1 = M.2.1 1 := rfl
  have s3 : (M_post1 M).2.1 3 = M.2.1 3 := rfl
  have s16 : (M_post1 M).2.1 16 = M.2.1 16 := rfl
  have s17 : (M_post1 M).2.1 17 = M.2.1 17 := rfl
  have s18 : (M_post1 M).2.1 18 = M.2.1 18 := rfl
  have s19 : (M_post1 M).2.1 19 = M.2.1 19 := rfl
  have s20 : (M_post1 M).2.1 20 = M.2.1 20 := rfl
  have s21 : (M_post1 M).2.1 21 = M.2.1 21 := rfl
  have s22 : (M_post1 M).2.2 22 = M.2.2 22 := rfl
  have s23 : (M_post1 M).2.1 23 = M.2.1 23 := rfl
  have s15 : (M_post1 M).2.2 15 = M.2.2 15 := rfl
  have s24 : (M_post1 M).2.2 24 = M.2.2 24 := rfl
  have s4 : (M_post1 M).2.1 4 = M.2.1 4 := rfl
  have s5 : (M_post1 M).2.1 5 = M.2.1 5 := rfl
  have s6 : (M_post1 M).2.1 6 = M.2.1 6 := rfl
  have s7 : (M_post1 M).2.1 7 = M.2.1 7 := rfl
  have t1 : (M_post1 M).1 1 = M.1 1 := rfl
  have t2 : (M_post1 M).1 2 = -1 := rfl
  have t3 : (M_post1 M).1 3 = M.1 3 := rfl
  have t4 : (M_post1 M).1 4 = M.1 4 := rfl
  have t5 : (M_post1 M).1 5 = M.1 5 := rfl
  have t6 : (M_post1 M).1 6 = M.1 6 := rfl
  have t7 : (M_post1 M).1 7 = nI (nB + 1) := by
    show M.1 7 + 1 = _
    rw [r4, nI_1]
  generalize M_post1 M = M' at *
  have hne : ∀ q, q ≠ x → q ≠ x + 2 → q ≠ x + 3 → q ≠ x + 16 * k + 32 → q ≠ x + 16 * k + 32 + 1 → q ≠ x + 16 * k + 32 + 2 → (q < x + 4 * nB + 128 ∨ x + 4 * nB + 132 ≤ q) → u' q = u q := fun q a1 a2 a3 a4 a5 a6 a7 => by
    rw [hu, gup_ne (by omega), gup_ne (by omega), gup_ne (by omega), gup_ne (by omega), gup_ne a6, gup_ne a5, gup_ne a4, gup_ne a3, gup_ne a2, gup_ne a1]
  have balK : ∀ k' j s, j < 12 → balR (M'.2.1 9) (M'.2.1 11) (M'.2.2 13) (M'.2.2 12) (nI k') j s (nB + 1) = balR (M.2.1 9) (M.2.1 11) (M.2.2 13) (M.2.2 12) (nI k') j s nB + (if nI k = nI k' then pd j - sh j else 0) := fun k' j s hj => by
    rw [balR, e9, e11, e12, e13, upd_s, upd_s, if_pos rfl, mapO_at hj, mapO_at hj, ← hpd j hj, ← hsh j hj]
    rw [balR_congr nB fun b hb => ⟨upd_o (by omega), upd_o (by omega), mapO_out (by omega), mapO_out (by omega)⟩]
  have driK : ∀ k' j, j < 12 → driR (M'.2.1 9) (M'.2.1 11) (M'.2.2 14) (nI k') j (nB + 1) = driR (M.2.1 9) (M.2.1 11) (M.2.2 14) (nI k') j nB + (if nI k = nI k' then df j else 0) := fun k' j hj => by
    rw [driR, e9, e11, e14, upd_s, upd_s, if_pos rfl, mapO_at hj, ← hdf j hj]
    rw [driR_congr nB fun b hb => ⟨upd_o (by omega), upd_o (by omega), mapO_out (by omega)⟩]
  refine ⟨⟨r1, by omega, by rw [t1]; exact r3, t7, by rw [s1]; exact r5, fun k' hk' => ?_, by rw [s19]; exact r7, fun b hb => ?_, by rw [s20]; exact r9, by rw [s21]; exact r10, fun q => absurd t2 q, by rw [s24]; exact r12, fun k' a b => ?_⟩, ⟨?_, (hne _ (by omega) (by omega) (by omega) (by omega) (by omega) (by omega) (by omega)).trans h2, ?_⟩, ⟨py, wt, ⟨?_, ?_, ?_⟩, ?_⟩, ⟨sz0, mem, mo, am, ?_⟩, fun k' hk' => ?_, fun j hj => ?_, fun k' a b o ho => ?_, fun j a b o ho => ?_⟩
  · rw [e2]
    by_cases e : k' = k
    · rw [e, upd_s]; exact ⟨_, hmk12, rfl⟩
    · rw [upd_o e]; exact r6 k' hk'
  · rw [e9]
    by_cases e : b = nB
    · rw [e, upd_s]; exact ⟨k, hk, rfl⟩
    · rw [upd_o e]; exact r8 b (by omega)
  · rw [s1, s16, s17, s19, s3, s18, s15, e2, upd_o (by omega)]
    exact r13 k' a b
  · rw [hu, gup_ne (by omega), gup_ne (by omega), gup_ne (by omega), gup_ne (by omega), gup_ne (by omega), gup_ne (by omega), gup_ne (by omega), gup_ne (by omega), gup_ne (by omega), gup_self]
  · rw [hu, gup_ne (by omega), gup_ne (by omega), gup_ne (by omega), gup_ne (by omega), gup_ne (by omega), gup_ne (by omega), gup_ne (by omega), gup_ne (by omega), gup_self]
  · rw [hu, gup_ne (by omega), gup_ne (by omega), gup_ne (by omega), gup_ne (by omega), gup_ne (by omega), gup_ne (by omega), gup_ne (by omega), gup_self, t2, t3, t4, t5, t6]
    rfl
  · exact (hne _ (by omega) (by omega) (by omega) (by omega) (by omega) (by omega) (by omega)).trans hd0.2.1
  · exact (hne _ (by omega) (by omega) (by omega) (by omega) (by omega) (by omega) (by omega)).trans hd0.2.2
  · obtain ⟨L, ⟨l0, l1, l1'⟩, l2, l3, l4, l5⟩ := hD
    exact ⟨L, ⟨l0, by rw [t6]; exact l1, by rw [s7, s6]; exact l1'⟩, by rw [s4]; exact l2, by rw [s5]; exact l3, by rw [t3, s5, s7, s6]; exact l4, fun q => absurd t2 q⟩
  · obtain ⟨g0, g1, g2, g3⟩ := hgW
    exact ⟨(hne _ (by omega) (by omega) (by omega) (by omega) (by omega) (by omega) (by omega)).trans g0, (hne _ (by omega) (by omega) (by omega) (by omega) (by omega) (by omega) (by omega)).trans g1, (hne _ (by omega) (by omega) (by omega) (by omega) (by omega) (by omega) (by omega)).trans g2, (hne _ (by omega) (by omega) (by omega) (by omega) (by omega) (by omega) (by omega)).trans g3⟩
  · by_cases e : k' = k
    · subst e
      refine ⟨sI (sL (sL V 0 bal) 1 dri) 2 mk, ⟨?_, ?_, ?_, ?_⟩, n, t, ⟨c1, c2, c3, by rw [s1]; exact c4, c5, by rw [s19]; exact c6, by rw [e2, upd_s]; exact hmk.symm, by rw [s16]; exact c8, by rw [s17]; exact c9⟩, by rw [s3]; exact i0, by rw [s23]; exact i1, by rw [s18]; exact i2, by rw [s20, s21, s22, s23]; exact i3, i4, fun j hj => ?_, fun j hj => ?_, fun j a b => ?_, ?_⟩
      · rw [hu, gup_ne (by omega), gup_ne (by omega), gup_ne (by omega), gup_ne (by omega), gup_ne (by omega), gup_ne (by omega), gup_self]; rfl
      · rw [hu, gup_ne (by omega), gup_ne (by omega), gup_ne (by omega), gup_ne (by omega), gup_ne (by omega), gup_self]; rfl
      · rw [hu, gup_ne (by omega), gup_ne (by omega), gup_ne (by omega), gup_ne (by omega), gup_self]; rfl
      · obtain ⟨v0, v1, v2, v3, v4, v5, v6, v7, v8⟩ := hV
        exact ⟨(hne _ (by omega) (by omega) (by omega) (by omega) (by omega) (by omega) (by omega)).trans v3, (hne _ (by omega) (by omega) (by omega) (by omega) (by omega) (by omega) (by omega)).trans v4, (hne _ (by omega) (by omega) (by omega) (by omega) (by omega) (by omega) (by omega)).trans v5, (hne _ (by omega) (by omega) (by omega) (by omega) (by omega) (by omega) (by omega)).trans v6, (hne _ (by omega) (by omega) (by omega) (by omega) (by omega) (by omega) (by omega)).trans v7, (hne _ (by omega) (by omega) (by omega) (by omega) (by omega) (by omega) (by omega)).trans v8⟩
      · show bal j = _
        rw [balK k' j _ hj, if_pos rfl, s15, hbal j hj, i5 j hj]
      · show dri j = _
        rw [driK k' j hj, if_pos rfl, hdri j hj, i6 j hj]
      · show bal j = 0
        obtain ⟨L, -, -, -, -, l5⟩ := hD
        obtain ⟨-, -, -, n2, p4, p5, p6⟩ := l5 (by rw [hkd]; exact nI_ne1 (by omega))
        have : n2 = n := by
          rw [hkd, nI_clamp (by omega), c4] at p5
          exact ((nI_eq (by omega) (by omega)).mp p5).symm
        obtain ⟨z1, z2⟩ := p6 j (by omega) b
        rw [hbal j b, i7 j a b, hp0 j b z1, hs0 j b z2]; decide
      · show sumL bal 12 = 0
        rw [sumL_congr (g := fun j => V.2.2 0 j + (pd j - sh j)) 12 hbal, sumL_addf, sumL_subf, hsum, i8, Int64.sub_self, Int64.add_zero]
    · obtain ⟨V', p, n2, t', o1, o2, o3, o4, o5, o6, o7, o8, o9, o10⟩ := h7 k' hk'
      have hkk : ¬ nI k = nI k' := fun q => e ((nI_eq (by omega) (by omega)).mp q).symm
      refine ⟨V', clW_fr p fun q a b => hne q (by omega) (by omega) (by omega) (by omega) (by omega) (by omega) (by omega), n2, t', by rw [s1, s19, s16, s17, e2, upd_o e]; exact o1, by rw [s3]; exact o2, by rw [s23]; exact o3, by rw [s18]; exact o4, by rw [s20, s21, s22, s23]; exact o5, o6, fun j hj => ?_, fun j hj => ?_, o9, o10⟩
      · rw [balK k' j _ hj, if_neg hkk, Int64.add_zero, s15]; exact o7 j hj
      · rw [driK k' j hj, if_neg hkk, Int64.add_zero]; exact o8 j hj
  · by_cases e : j = nB
    · subst e
      obtain ⟨L, -, -, -, -, l5⟩ := hD
      obtain ⟨-, -, -, n2, p4, p5, p6⟩ := l5 (by rw [hkd]; exact nI_ne1 (by omega))
      refine ⟨k, (fun _ => 0, fun _ _ => 0, fun i => if i = 0 then pd else if i = 1 then sh else if i = 2 then df else fun _ => tM M), hk, ⟨?_, ?_, ?_, ?_⟩, by rw [e9, upd_s], by rw [e10, updL_s]; rfl, by rw [e11, upd_s], fun i hi => ?_, hsum, n2, p4, ?_, fun i a b => ⟨hp0 i b (p6 i a b).1, hs0 i b (p6 i a b).2⟩⟩
      · rw [hu, gup_ne (by omega), gup_ne (by omega), gup_ne (by omega), gup_self]; rfl
      · rw [hu, gup_ne (by omega), gup_ne (by omega), gup_self]; rfl
      · rw [hu, gup_ne (by omega), gup_self]; rfl
      · rw [hu, gup_self]; rfl
      · rw [e12, e13, e14, mapO_at hi, mapO_at hi, mapO_at hi, ← hpd i hi, ← hsh i hi, ← hdf i hi]
        exact ⟨rfl, rfl, rfl⟩
      · rw [s1, ← ed]; exact p5
    · obtain ⟨k2, W, f1, f2, f3, f4, f5, f6, f7, n2, f8, f9, f10⟩ := h8 j (by omega)
      refine ⟨k2, W, f1, biW_fr f2 fun q a b => hne q (by omega) (by omega) (by omega) (by omega) (by omega) (by omega) (by omega), by rw [e9, upd_o e]; exact f3, by rw [e10, updL_o e]; exact f4, by rw [e11, upd_o e]; exact f5, fun i hi => ?_, f7, n2, f8, by rw [s1]; exact f9, f10⟩
      rw [e12, e13, e14, mapO_out (by omega), mapO_out (by omega), mapO_out (by omega)]
      exact f6 i hi
  · rw [hne _ (by omega) (by omega) (by omega) (by omega) (by omega) (by omega) (by omega)]; exact h9 k' a b o ho
  · rw [hne _ (by omega) (by omega) (by omega) (by omega) (by omega) (by omega) (by omega)]; exact h10 j (by omega) b o ho
