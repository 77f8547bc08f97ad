/-! line -/
theorem bit1w {s j : Nat} (hj : j < 32) : (nI s >>> (nI j &&& 31)) &&& 1 = 1 ↔ s.testBit j = true := by
  rw [← Int32.toBitVec_inj, Int32.toBitVec_and, Int32.toBitVec_shiftRight, nI_bv, BitVec.sshiftRight', sh_ok j hj]
  show (BitVec.sshiftRight (BitVec.ofNat 32 s) j) &&& 1#32 = 1#32 ↔ _
  have e : ((BitVec.ofNat 32 s).sshiftRight j).getLsbD 0 = s.testBit j := by
    rw [BitVec.getLsbD_sshiftRight, BitVec.getLsbD_ofNat]
    simp [hj]
  rw [← e]
  generalize (BitVec.ofNat 32 s).sshiftRight j = y
  constructor
  · intro h
    have h2 : (y &&& 1#32).getLsbD 0 = true := by rw [h]; rfl
    rw [BitVec.getLsbD_and, Bool.and_eq_true] at h2
    exact h2.1
  · intro h
    apply BitVec.eq_of_getLsbD_eq
    intro i hi
    rw [BitVec.getLsbD_and]
    cases i with
    | zero => rw [h]; rfl
    | succ i =>
      have : (1#32).getLsbD (i + 1) = false := by simp
      rw [this, Bool.and_false]
theorem nI_all (v : Int32) : ∃ s, s < 2 ^ 32 ∧ v = nI s := ⟨v.toBitVec.toNat, v.toBitVec.isLt, i32_ext (by rw [nI_bv]; exact (BitVec.ofNat_toNat _ _).symm ▸ (by simp))⟩
theorem nI_zw {a : Nat} (h : a < 2 ^ 32) : nI a = 0 ↔ a = 0 := by
  constructor
  · intro e
    have h1 : (nI a).toBitVec.toNat = 0 := by rw [e]; rfl
    rw [nI_bv, BitVec.toNat_ofNat, Nat.mod_eq_of_lt h] at h1
    exact h1
  · intro e; rw [e]; rfl
/-- who is present, as a set -/
theorem prSet_is {n g : Nat} (hn : n ≤ 12) : prSet (nI n) (nI g) = nI (mns (2 ^ n - 1) g) := by
  rw [prSet, shl1 n (by omega), nI_prd (Nat.pow_pos (by decide)), nI_mns]
theorem pr_in {n g j : Nat} : (mns (2 ^ n - 1) g).testBit j = true ↔ j < n ∧ ¬ g.testBit j = true := by
  rw [mns_in, Nat.testBit_two_pow_sub_one, decide_eq_true_iff]
theorem bits_ok : ∀ a, a < 64 → ∀ b, b < 64 → bitC (nI (64 * a + b)) = sizS (nI (64 * a + b)) 12 ∧ (64 * a + b ≠ 0 → ¬ bitC (nI (64 * a + b)) = 0) := by decide +kernel
theorem bits_eq {s : Nat} (h : s < 4096) : bitC (nI s) = sizS (nI s) 12 ∧ (s ≠ 0 → ¬ bitC (nI s) = 0) := by
  have e : 64 * (s / 64) + s % 64 = s := Nat.div_add_mod s 64
  have h1 := bits_ok (s / 64) (by omega) (s % 64) (by omega)
  rw [e] at h1
  exact h1
def M_line1 (M : mM) (n set : Int32) : mM := sA (sA (sI (sI M 0 0) 6 (M.1 6 + 1)) 6 (upd (M.2.1 6) (M.1 6).toNatClampNeg n)) 7 (upd (M.2.1 7) (M.1 6).toNatClampNeg set)
def q_line (M : mM) (n set : Int32) : Prop := okLin (M.1 1) (M.1 2) (M.1 3) (M.1 6) (M.2.1 1) (M.2.1 3) n set
noncomputable def M_line (M : mM) (n set : Int32) : mM := @ite _ (q_line M n set) (Classical.propDecidable _) (M_line1 M n set) (sI M 0 0)
noncomputable def a_line (M : mM) (n set : Int32) : Int32 := @ite _ (q_line M n set) (Classical.propDecidable _) 1 0
theorem hsR_congr {lis lic lis' lic' : Nat → Int32} {m : Nat} (L : Nat) (h : ∀ i, i < L → lis i = lis' i ∧ lic i = lic' i) : hsR lis lic m L = hsR lis' lic' m L := by
  induction L with
  | zero => rfl
  | succ L ih => rw [hsR, hsR, ih fun i hi => h i (by omega), (h L (by omega)).1, (h L (by omega)).2]
theorem nI_16 {n : Nat} (h : n ≤ 16) : nI n < 16 ↔ ¬ nI n = 16 := by
  rw [show (16 : Int32) = nI 16 from rfl, nI_ltI (by omega) (by decide), nI_eq (by omega) (by decide)]; omega
theorem t_X_line (l : Launch) (X : gX) (ad : Nat → Nat) (u : gW) (sz x : Nat) (M : mM) (nC nB : Nat) (n set : Int32) (h : kD X ad x M u nC nB) : gMet l (EE X) y_X_line c_X_line 4 (some .boolean) ({ frames := 2, cells := 0, slots := 0, locals := 46 }) [.ref (ad x), .int n, .int set] ad u sz (postK X ad x (M_line M n set) (.int (a_line M n set)) u) := by
  have h0 := h
  obtain ⟨R, ⟨h1, h2, h3⟩, ⟨py, wt, ⟨d0, d1, d2⟩, hD⟩, -, h7, -⟩ := h
  obtain ⟨r1, r2, r3, r4, r5, r6, r7, r8, r9, r10, r11, r12, r13⟩ := R
  by_cases hdr : M.1 2 = -1
  · have hq : ¬ q_line M n set := fun q => q.1 hdr
    rw [M_line, a_line, if_neg hq, if_neg hq]
    rw [dvW, if_pos hdr] at d0
    exact gMet_mono (k_X_line_no l X ad u sz x nC nB _ _ _ _ n set h1 d0) fun v u' s ⟨e1, e2, e3⟩ => postK_th h0 e1 e2
  · obtain ⟨k, hk, hkd⟩ := r11 hdr
    obtain ⟨V, hV, hR⟩ := h7 k hk
    have hsta := fun y => sta_eq (y := y) hk r1 r3 hkd hR
    obtain ⟨m, t, ⟨c1, c2, c3, c4, c5, c6, c7, c8, c9⟩, ⟨g, g1, g2, g3⟩, -⟩ := hR
    rw [hkd, dvW_k (by omega)] at d0
    obtain ⟨L, ⟨l0, l0', l0''⟩, l2, l3, l4, l5⟩ := hD
    obtain ⟨s, s1, rfl⟩ := nI_all set
    have hP : mns (2 ^ m - 1) g < 4096 := by
      have : 2 ^ m ≤ 4096 := pw12 c1
      have h9 : 0 < 2 ^ m := Nat.pow_pos (by decide)
      exact mns_lt (n := 12) (by omega)
    have hset : nI s &&& (prSet (V.1 0) (V.1 1) ^^^ (-1)) = 0 ↔ sub s (mns (2 ^ m - 1) g) := by
      rw [c3, g2, prSet_is c1, nI_mns, nI_zw (mns_lt s1), sub_mns]
    have hlin : linOK (M.1 1) (M.1 2) (M.2.1 1) (M.2.1 3) (nI s) 32 ↔ sub s (mns (2 ^ m - 1) g) := by
      constructor
      · intro q j hj
        have hj32 : j < 32 := bit_lt s1 hj
        have h9 := q j hj32 ((bit1w hj32).mpr hj)
        rw [hsta, isPr, c3, Bool.and_eq_true] at h9
        have hjm : j < m := by
          obtain ⟨i, i1, i2⟩ := isMb_nat (by omega) h9.1
          rw [(nI_eq (by omega) (by omega)).mp i2]; exact i1
        rw [g2, gBit_nat g1 (by omega)] at h9
        rw [pr_in]
        exact ⟨hjm, fun q => by rw [q] at h9; exact absurd h9.2 (by decide)⟩
      · intro q j hj hb
        obtain ⟨p1, p2⟩ := pr_in.mp (q j ((bit1w hj).mp hb))
        rw [hsta, isPr, c3, g2, gBit_nat g1 (by omega), isMb_nI (by omega) p1, Bool.true_and, Bool.not_eq_true']
        exact (Bool.not_eq_true _).mp p2
    have hq : okLX (M.1 3) n (nI s) (M.1 6) (V.1 0) (V.1 1) = true ↔ q_line M n (nI s) := by
      rw [okLX, q_line, okLin, hlin, ← hset, l0']
      simp only [Bool.and_eq_true, decide_eq_true_iff, Bool.not_eq_true', decide_eq_false_iff_not, withM, nI_16 l0]
      constructor
      · rintro ⟨a, b, c, d, e, f⟩; exact ⟨hdr, a, ⟨b, c⟩, d, f, e⟩
      · rintro ⟨-, a, ⟨b, c⟩, d, f, e⟩; exact ⟨a, b, c, d, e, f⟩
    refine gMet_mono (k_X_line_ok l X ad u sz x nC nB k _ _ _ _ _ _ _ _ n (nI s) h1 d0 hV.1 d2 (fun p q => ?_)) fun v u' sz1 ⟨e0, hh⟩ => ?_
    · have hsub := hset.mp q
      exact (bits_eq (sub_lt hsub hP)).2 (fun e => p (by rw [e]; rfl))
    · rcases hh with ⟨a1, a2, a3⟩ | ⟨a1, a2, a3⟩
      · have hq' := hq.mp a1
        rw [M_line, a_line, if_pos hq', if_pos hq']
        obtain ⟨-, q2, q3, q4, q5, q6⟩ := hq'
        have hsub := hlin.mp q6
        have hs : s < 4096 := sub_lt hsub hP
        have hs0 : s ≠ 0 := fun e => q4 (by rw [e]; rfl)
        obtain ⟨p, p1, p2, rfl⟩ := nat_of (v := n) (lo := 1) (hi := 100000000) (by decide) (by decide) q3
        have hL16 : L < 16 := by
          rw [l0', show (16 : Int32) = nI 16 from rfl, nI_eq (by omega) (by decide)] at q5; omega
        have eL : (M.1 6).toNatClampNeg = L := by rw [l0']; exact nI_clamp (by omega)
        refine ⟨a2, ⟨nC, nB, kD_draft h0 ⟨r1, r2, r3, r4, r5, r6, r7, r8, r9, r10, r11, r12, r13⟩ (fun n hn => by rw [a3, gup_ne (by omega), gup_ne (by omega)]) ?_ (fun _ _ _ a => a) (fun _ _ _ _ a => a)⟩, fun n hn => by rw [a3, gup_ne (by omega), gup_ne (by omega)]⟩
        refine ⟨py, mapL wt (lineG wt (nI s) (nI p)) 12, ⟨?_, ?_, ?_⟩, L + 1, ⟨by omega, ?_, fun i hi => ?_⟩, l2, l3, fun j hj => ?_, fun hh => ?_⟩
        · rw [a3, gup_self]
          show some (Sum.inr (2, [_, _, _, _, _, _, _])) = some (Sum.inr (2, [_, _, dvW ad x (M.1 2), _, _, _, _]))
          rw [hkd, dvW_k (by omega)]; rfl
        · rw [a3, gup_ne (by omega), gup_ne (by omega), d1]
        · rw [a3, gup_ne (by omega), gup_self]
        · show M.1 6 + 1 = _
          rw [l0', nI_1]
        · show (∃ s', s' ≠ 0 ∧ s' < 4096 ∧ upd (M.2.1 7) (M.1 6).toNatClampNeg (nI s) i = nI s') ∧ ∃ n, n ≤ 100000000 ∧ upd (M.2.1 6) (M.1 6).toNatClampNeg (nI p) i = nI n
          rw [eL]
          by_cases e : i = L
          · rw [e, upd_s, upd_s]; exact ⟨⟨s, hs0, hs, rfl⟩, p, p2, rfl⟩
          · rw [upd_o e, upd_o e]; exact l0'' i (by omega)
        · show mapL wt (lineG wt (nI s) (nI p)) 12 j = heaV (M.1 3) (M.2.1 5) (upd (M.2.1 7) (M.1 6).toNatClampNeg (nI s)) (upd (M.2.1 6) (M.1 6).toNatClampNeg (nI p)) (L + 1) j
          rw [eL, mapL, if_pos hj, lineG, heaV, if_pos q2, hsR, upd_s, upd_s, hsR_congr (lis' := M.2.1 7) (lic' := M.2.1 6) L (fun i hi => ⟨upd_o (by omega), upd_o (by omega)⟩), (bits_eq hs).1]
          have hw := l4 j hj
          rw [heaV, if_pos q2] at hw
          by_cases hb : s.testBit j = true
          · rw [if_neg (fun q => by rw [(bit0 (by omega) (by omega)).mp q] at hb; cases hb), if_pos ((bit1 (by omega) (by omega)).mpr hb), hw]
          · rw [if_pos ((bit0 (by omega) (by omega)).mpr ((Bool.not_eq_true _).mp hb)), if_neg (fun q => hb ((bit1 (by omega) (by omega)).mp q)), Int64.add_zero, hw]
        · obtain ⟨g4, g5, g6, q, b4, b5, b6⟩ := l5 hh
          refine ⟨g4, g5, g6, q, b4, b5, fun j b1 b2 => ⟨(b6 j b1 b2).1, ?_⟩⟩
          have : q = m := by
            rw [hkd, nI_clamp (by omega), c4] at b5
            exact ((nI_eq (by omega) (by omega)).mp b5).symm
          rw [mapL, if_pos b2, lineG, if_pos]
          · exact (b6 j b1 b2).2
          · refine (bit0 (by omega) (by omega)).mpr ?_
            cases e : s.testBit j with
            | false => rfl
            | true => have := (pr_in.mp (hsub j e)).1; omega
      · have hq' : ¬ q_line M n (nI s) := fun q => by rw [hq.mpr q] at a1; cases a1
        rw [M_line, a_line, if_neg hq', if_neg hq']
        exact postK_th h0 a2 a3
