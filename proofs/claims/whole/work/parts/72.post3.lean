/-! post, the program's side: all of it -/
theorem nI_64 {n : Nat} (h : n ≤ 64) : nI n < 64 ↔ ¬ nI n = 64 := by
  rw [show (64 : Int32) = nI 64 from rfl, nI_ltI (by omega) (by decide), nI_eq (by omega) (by decide)]; omega
theorem shM_lt {M : mM} (h : s0M M < 12) : (shM M).2.2 < 12 := by rw [shM, handM]; exact handS_lt h 12
theorem t_X_post (l : Launch) (X : gX) (ad : Nat → Nat) (u : gW) (sz x : Nat) (M : mM) (nC nB : Nat) (h : kD X ad x M u nC nB) (hp : ∀ o, o < 4 → ad (x + 4 * nB + 128 + o) = sz + o) : gMet l (EE X) y_X_post c_X_post 4 (some .int) ({ frames := 3, cells := 4, slots := 42, locals := 92 }) [.ref (ad x)] ad u sz (postK X ad x (M_post M) (.int (a_post M)) u) := by
  have h0 := h
  obtain ⟨R, ⟨h1, h2, h3⟩, ⟨py, wt, hd0, hD⟩, -, h7, h8, h9, h10⟩ := h
  obtain ⟨r1, r2, r3, r4, r5, r6, r7, r8, r9, r10, r11, r12, r13⟩ := R
  by_cases hdr : M.1 2 = -1
  · rw [M_post, a_post, if_pos (Or.inl hdr), if_pos hdr]
    have d0 := hd0.1
    rw [dvW, if_pos hdr] at d0
    exact gMet_mono (k_X_post_no l X ad u sz x nC nB _ _ _ _ h1 d0) fun v u' s ⟨e1, e2, e3⟩ => postK_th h0 e1 e2
  · obtain ⟨k, hk, hkd⟩ := r11 hdr
    obtain ⟨V, hV, hR⟩ := h7 k hk
    have hR' := hR
    obtain ⟨n, t, ⟨c1, c2, c3, c4, c5, c6, c7, c8, c9⟩, -⟩ := hR'
    obtain ⟨s0, s01, s02⟩ := r6 k (by omega)
    have ed : dM M = k := by rw [dM, hkd]; exact nI_clamp (by omega)
    have es0 : s0M M = s0 := by rw [s0M, ed, s02]; exact nI_clamp (by omega)
    have ev2 : V.1 2 = nI s0 := c7.symm.trans s02
    have d0 := hd0.1
    rw [hkd, dvW_k (by omega)] at d0
    have hb0 := hV.1
    rw [ev2] at hb0
    have hD' := hD
    obtain ⟨L, hL, l2, l3, l4, l5⟩ := hD'
    obtain ⟨hw, hc, hr, -⟩ := l5 hdr
    have eL : lM M = L := by rw [lM, hL.2.1]; exact nI_clamp (by have := hL.1; omega)
    have hwr : ∀ r, refuse py wt (V.1 1) (M.1 3) (M.1 4) r ↔ r = wrM M := fun r => by
      rw [wrM, hmM, hvM, eL, dM]
      exact refuse_eq hR (by omega) hkd hL l2 l3 l4 hw hc
    have f := h10 nB (Nat.le_refl _) (by omega)
    refine gMet_mono (k_X_post_ok l X ad u sz x nC nB k s0 _ _ _ _ _ _ _ _ _ _ _ _ _ _ h1 h3 d0 hd0.2.1 hd0.2.2 hb0 hV.2.2.2.1 hV.2.1 hV.2.2.1 (by omega) r2 s01 (f 0 (by omega)) (hp 0 (by omega)) (f 1 (by omega)) (hp 1 (by omega)) (f 2 (by omega)) (hp 2 (by omega)) (f 3 (by omega)) (hp 3 (by omega))) fun v u' s hh => ?_
    obtain ⟨r, hr1, hr2⟩ := hh
    rw [M_post, a_post, if_neg hdr, ed, c8, r4]
    rcases hr1 with ⟨q1, q2⟩ | ⟨q1, q2, q3⟩ | ⟨q1, q2, q3⟩
    · rw [if_pos (Or.inr (Or.inl q1)), if_pos q1]
      rcases hr2 with ⟨-, p2, p3, -⟩ | ⟨p1, -⟩
      · exact postK_th h0 (by rw [p2, q2]) p3
      · rw [q2] at p1; exact absurd p1 (by decide)
    · have q2' : nI nB = 64 := Decidable.byContradiction fun q => q2 ((nI_64 r2).mpr q)
      rw [if_pos (Or.inr (Or.inr q2')), if_neg (show ¬ ¬ V.1 3 = 0 from fun q => q q1), if_pos q2']
      rcases hr2 with ⟨-, p2, p3, -⟩ | ⟨p1, -⟩
      · exact postK_th h0 (by rw [p2, q3]) p3
      · rw [q3] at p1; exact absurd p1 (by decide)
    · have q2' : ¬ nI nB = 64 := (nI_64 r2).mp q2
      have hB64 : nB < 64 := by
        rw [show (64 : Int32) = nI 64 from rfl, nI_eq (by omega) (by decide)] at q2'; omega
      rw [if_neg (fun q => q.elim hdr (fun q => q.elim (fun q => q q1) q2')), if_neg (show ¬ ¬ V.1 3 = 0 from fun q => q q1), if_neg q2']
      have er := (hwr r).mp q3
      rcases hr2 with ⟨p1, p2, p3, -⟩ | ⟨p1, p2, p3, -⟩
      · rw [← er, if_neg p1, if_neg p1]
        rw [p3]
        exact ⟨p2, ⟨nC, nB, kD_M h0 h0.1 (fun _ _ a b => ⟨a, b⟩) (fun _ _ _ a => a) (fun _ _ _ _ a => a)⟩, fun _ _ => rfl⟩
      · have hwz : wrM M = 0 := er.symm.trans p1
        rw [if_pos hwz, if_pos hwz]
        have C := cuts (k := k) hD hdr hwz (by rw [es0]; exact s01)
        obtain ⟨⟨C1, -, C3⟩, ⟨C4, C5, -, C7⟩, C8, C9, -⟩ := C
        rw [es0] at C4 C5 C7 C8 C9
        refine ⟨by rw [p2, nI_1], ⟨nC, nB + 1, kD_post (py := py) (wt := wt) hk h0 hV hR hkd hd0 hD hB64 C1 C4 (fun j hj => ?_) C8 C3 C7 (congrArg nI C5) (shM_lt (by rw [es0]; exact s01)) (fun j hj => ?_) (fun j hj => ?_) p3⟩, fun q hq => ?_⟩
        · rw [mapL, if_pos hj]; exact C9 j hj
        · rw [mapL, if_pos hj, l1_mul]; rfl
        · rw [mapL, if_pos hj, l1_mul]
        · rw [p3, gup_ne (by omega), gup_ne (by omega), gup_ne (by omega), gup_ne (by omega), gup_ne (by omega), gup_ne (by omega), gup_ne (by omega), gup_ne (by omega), gup_ne (by omega), gup_ne (by omega)]
