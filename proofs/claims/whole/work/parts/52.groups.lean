/-! program and model find the same groups -/
/-- the facts of the model's table -/
def mTab (wgh : Nat → Int64) (M : Nat → Int32) : Prop := ∀ s, s ≤ 4095 →
    rOk wgh M s ∧ (s = 0 → rN M s = 0) ∧ (s ≠ 0 → wgh s = 0 →
      (∀ T, sub T s → T.testBit (lowI s) = true → wgh T = 0 → rN M (mns s T) + 1 ≤ rN M s) ∧
      ∃ T, sub T s ∧ T.testBit (lowI s) = true ∧ wgh T = 0 ∧ rN M s = rN M (mns s T) + 1)
/-- the facts of the program's table -/
def cTab (am : Nat → Int64) (F : Nat → Int32) (k : Nat) : Prop := ∀ t, t < 2 ^ k → F t = nI (cN F t) ∧ cN F t ≤ t ∧ (t = 0 → cN F t = 0) ∧ (t ≠ 0 → cN F t = hN (cN F) t k + (if sumB am t k = 0 then 1 else 0))
/-- wgh is a sum: what is left of a 0 without a 0 is 0; two apart make 0 -/
def sOk (wgh : Nat → Int64) : Prop := wgh 0 = 0 ∧ (∀ a b, a < 4096 → sub b a → wgh a = 0 → wgh b = 0 → wgh (mns a b) = 0) ∧ (∀ a b, a < 4096 → sub b a → wgh b = 0 → wgh (mns a b) = 0 → wgh a = 0)
theorem sOk_of {wgh bal : Nat → Int64} (h : ∀ s, s < 4096 → wgh s = sumB bal s 12) : sOk wgh := by
  have key : ∀ a b, a < 4096 → sub b a → wgh (mns a b) + wgh b = wgh a := by
    intro a b ha hb
    rw [h a ha, h b (sub_lt hb ha), h _ (mns_lt (n := 12) ha)]
    exact sumB_mns hb 12
  refine ⟨by rw [h 0 (by decide), sumB_0], fun a b ha hb h1 h2 => ?_, fun a b ha hb h1 h2 => ?_⟩
  · have := key a b ha hb
    rw [h1, h2, Int64.add_zero] at this
    exact this
  · rw [← key a b ha hb, h1, h2, Int64.add_zero]
theorem or_disj {Z Y : Nat} (h : ∀ j, Z.testBit j = true → ¬ Y.testBit j = true) : mns (Z ||| Y) Y = Z := tb_ext fun j => by
  rw [mns_in, or_in]
  constructor
  · rintro ⟨h1 | h1, h2⟩
    · exact h1
    · exact absurd h1 h2
  · exact fun h1 => ⟨Or.inl h1, h j h1⟩
theorem lemB {wgh : Nat → Int64} {M : Nat → Int32} (hM : mTab wgh M) (hs : sOk wgh) : ∀ Z, Z < 4096 → ∀ Y, Y < 4096 → Y ≠ 0 → (∀ j, Z.testBit j = true → ¬ Y.testBit j = true) → wgh Z = 0 → wgh Y = 0 → rN M Z + 1 ≤ rN M (Z ||| Y) := by
  intro Z
  induction Z using Nat.strongRecOn with
  | _ Z ih =>
    intro hZ Y hY hY0 hd hwZ hwY
    have hS : Z ||| Y < 4096 := or_lt2 (n := 12) hZ hY
    have hS0 : Z ||| Y ≠ 0 := by
      obtain ⟨j, hj⟩ := ne0_bit hY0
      intro e
      have h1 : (Z ||| Y).testBit j = true := or_in.mpr (Or.inr hj)
      rw [e, Nat.zero_testBit] at h1; cases h1
    have hYS : sub Y (Z ||| Y) := fun j hj => or_in.mpr (Or.inr hj)
    have hwS : wgh (Z ||| Y) = 0 := hs.2.2 _ Y hS hYS hwY (by rw [or_disj hd]; exact hwZ)
    obtain ⟨R1, -⟩ := (hM _ (by omega)).2.2 hS0 hwS
    have hl := lowI_bit hS0 hS
    rcases or_in.mp hl with hlZ | hlY
    · have hZ0 : Z ≠ 0 := fun e => by rw [e, Nat.zero_testBit] at hlZ; cases hlZ
      have hlow : lowI Z = lowI (Z ||| Y) := lowI_eq hZ hlZ fun j hj => lowI_min (or_in.mpr (Or.inl hj))
      obtain ⟨T, t1, t2, t3, t4⟩ := ((hM Z (by omega)).2.2 hZ0 hwZ).2
      rw [hlow] at t2
      have h1 := R1 T (fun j hj => or_in.mpr (Or.inl (t1 j hj))) t2 t3
      have e : mns (Z ||| Y) T = mns Z T ||| Y := tb_ext fun j => by
        rw [mns_in, or_in, or_in, mns_in]
        constructor
        · rintro ⟨a | a, b⟩
          · exact Or.inl ⟨a, b⟩
          · exact Or.inr a
        · rintro (⟨a, b⟩ | a)
          · exact ⟨Or.inl a, b⟩
          · exact ⟨Or.inr a, fun b => hd j (t1 j b) a⟩
      rw [e] at h1
      have h2 := ih (mns Z T) (mns_lt_self hlZ t2) (mns_lt (n := 12) hZ) Y hY hY0 (fun j hj => hd j (mns_in.mp hj).1) (hs.2.1 Z T hZ t1 hwZ t3) hwY
      omega
    · have h1 := R1 Y hYS hlY hwY
      rw [or_disj hd] at h1
      exact h1
section EQ
variable {wgh : Nat → Int64} {M : Nat → Int32} {mi : Nat → Nat} {k : Nat} {am : Nat → Int64} {F : Nat → Int32}
theorem cN_mono (hF : cTab am F k) : ∀ b, b < 2 ^ k → ∀ a, sub a b → cN F a ≤ cN F b := by
  intro b
  induction b using Nat.strongRecOn with
  | _ b ih =>
    intro hb a hab
    by_cases e : a = b
    · rw [e]; exact Nat.le_refl _
    · obtain ⟨i, hi⟩ := ne0_bit (mns_ne0 (a := b) (b := a) fun h => e (sub_eq hab h))
      obtain ⟨h1, h2⟩ := mns_in.mp hi
      have hb0 : b ≠ 0 := fun e => by rw [e, Nat.zero_testBit] at h1; cases h1
      have hlt := xor_pow_lt h1
      have h3 := ih _ hlt (by omega) a (fun j hj => by
        rw [xor_sub (fun q hq => by rw [← pow_in.mp hq]; exact h1)]
        exact mns_in.mpr ⟨hab j hj, fun hq => h2 (by rw [pow_in.mp hq]; exact hj)⟩)
      have h4 := hN_ge (c := cN F) (bit_lt hb h1) h1
      rw [(hF b hb).2.2.2 hb0]
      omega
theorem leC (hM : mTab wgh M) (hs : sOk wgh) (hF : cTab am F k) (hi : incM mi k 12) (hw : ∀ t, t < 2 ^ k → sumB am t k = wgh (exN mi t k)) : ∀ t, t < 2 ^ k → (∃ Z, sub Z (exN mi t k) ∧ wgh Z = 0 ∧ cN F t ≤ rN M Z) ∧ (wgh (exN mi t k) = 0 → cN F t ≤ rN M (exN mi t k)) := by
  intro t
  induction t using Nat.strongRecOn with
  | _ t ih =>
    intro ht
    by_cases h0 : t = 0
    · subst h0
      have e := (hF 0 ht).2.2.1 rfl
      exact ⟨⟨0, fun j hj => (by rw [Nat.zero_testBit] at hj; cases hj), hs.1, by omega⟩, fun _ => by omega⟩
    · have hE := exN_lt (t := t) hi
      have e := (hF t ht).2.2.2 h0
      by_cases hz : sumB am t k = 0
      · rw [if_pos hz] at e
        have hwE : wgh (exN mi t k) = 0 := by rw [← hw t ht]; exact hz
        have main : cN F t ≤ rN M (exN mi t k) := by
          rcases hN_is (c := cN F) (s := t) (k := k) with h1 | ⟨i, i1, i2, i3⟩
          · obtain ⟨T, -, -, -, t4⟩ := ((hM _ (by omega)).2.2 (exN_ne0 hi ht h0) hwE).2
            omega
          · have hlt := xor_pow_lt i2
            obtain ⟨⟨Z, z1, z2, z3⟩, -⟩ := ih _ hlt (by omega)
            have hZt : sub Z (exN mi t k) := fun j hj => by
              obtain ⟨q, q1, q2, q3⟩ := exN_in.mp (z1 j hj)
              rw [xor_sub (fun q hq => by rw [← pow_in.mp hq]; exact i2)] at q2
              exact exN_in.mpr ⟨q, q1, (mns_in.mp q2).1, q3⟩
            have hY0 : mns (exN mi t k) Z ≠ 0 := by
              intro e0
              have h1 := sub_mns.mp e0 (mi i) ((exN_at hi i1).mpr i2)
              have h2 := (exN_at hi i1).mp (z1 _ h1)
              rw [xor_sub (fun q hq => by rw [← pow_in.mp hq]; exact i2)] at h2
              exact (mns_in.mp h2).2 (pow_in.mpr rfl)
            have hB := lemB hM hs Z (sub_lt hZt hE) (mns (exN mi t k) Z) (mns_lt (n := 12) hE) hY0 (fun j hj h2 => (mns_in.mp h2).2 hj) z2 (hs.2.1 _ _ hE hZt hwE z2)
            rw [show Z ||| mns (exN mi t k) Z = exN mi t k from tb_ext fun j => by
              rw [or_in, mns_in]
              constructor
              · rintro (h | h)
                · exact hZt j h
                · exact h.1
              · intro h
                by_cases q : Z.testBit j = true
                · exact Or.inl q
                · exact Or.inr ⟨h, q⟩] at hB
            omega
        exact ⟨⟨_, sub.refl _, hwE, main⟩, fun _ => main⟩
      · rw [if_neg hz] at e
        refine ⟨?_, fun h => absurd (by rw [hw t ht]; exact h) hz⟩
        rcases hN_is (c := cN F) (s := t) (k := k) with h1 | ⟨i, i1, i2, i3⟩
        · exact ⟨0, fun j hj => (by rw [Nat.zero_testBit] at hj; cases hj), hs.1, by omega⟩
        · have hlt := xor_pow_lt i2
          obtain ⟨⟨Z, z1, z2, z3⟩, -⟩ := ih _ hlt (by omega)
          refine ⟨Z, fun j hj => ?_, z2, by omega⟩
          obtain ⟨q, q1, q2, q3⟩ := exN_in.mp (z1 j hj)
          rw [xor_sub (fun q hq => by rw [← pow_in.mp hq]; exact i2)] at q2
          exact exN_in.mpr ⟨q, q1, (mns_in.mp q2).1, q3⟩
theorem geC (hk : k ≤ 12) (hM : mTab wgh M) (hs : sOk wgh) (hF : cTab am F k) (hi : incM mi k 12) (hw : ∀ t, t < 2 ^ k → sumB am t k = wgh (exN mi t k)) : ∀ t, t < 2 ^ k → wgh (exN mi t k) = 0 → rN M (exN mi t k) ≤ cN F t := by
  intro t
  induction t using Nat.strongRecOn with
  | _ t ih =>
    intro ht hwE
    by_cases h0 : t = 0
    · subst h0
      rw [exN_0, (hM 0 (by omega)).2.1 rfl]
      exact Nat.zero_le _
    · have hE := exN_lt (t := t) hi
      obtain ⟨T, t1, t2, t3, t4⟩ := ((hM _ (by omega)).2.2 (exN_ne0 hi ht h0) hwE).2
      have eT := exN_puN hi t1
      rw [exN_low (Nat.le_refl _) hk hi ht h0] at t2
      have hl := lowI_bit h0 (Nat.lt_of_lt_of_le ht (Nat.pow_le_pow_right (by decide) hk))
      have hlk := bit_lt ht hl
      have hlT : (puN mi T k).testBit (lowI t) = true := puN_in.mpr ⟨hlk, t2⟩
      have e2 : mns (exN mi t k) T = exN mi (mns t (puN mi T k)) k := by rw [exN_mns hi ht, eT]
      have hlt : mns t (puN mi T k) < t := mns_lt_self hl hlT
      have h1 := ih _ hlt (by omega) (by rw [← e2]; exact hs.2.1 _ _ hE t1 hwE t3)
      rw [← e2] at h1
      have h2 := cN_mono hF (t ^^^ 2 ^ lowI t) (by have := xor_pow_lt hl; omega) (mns t (puN mi T k)) (fun j hj => by
        rw [xor_sub (fun q hq => by rw [← pow_in.mp hq]; exact hl)]
        have h3 := mns_in.mp hj
        exact mns_in.mpr ⟨h3.1, fun hq => h3.2 (by rw [← pow_in.mp hq]; exact hlT)⟩)
      have h4 := hN_ge (c := cN F) hlk hl
      rw [(hF t ht).2.2.2 h0, if_pos (by rw [hw t ht]; exact hwE)]
      omega
/-- the tables agree on sets that sum up to 0 -/
theorem tab_eq (hk : k ≤ 12) (hM : mTab wgh M) (hs : sOk wgh) (hF : cTab am F k) (hi : incM mi k 12) (hw : ∀ t, t < 2 ^ k → sumB am t k = wgh (exN mi t k)) {t : Nat} (ht : t < 2 ^ k) (hz : wgh (exN mi t k) = 0) : M (exN mi t k) = F t := by
  have h1 := (leC hM hs hF hi hw t ht).2 hz
  have h2 := geC hk hM hs hF hi hw t ht hz
  rw [(hF t ht).1, ((hM _ (by have := exN_lt (t := t) hi; omega)).1.1 hz).1]
  rw [show rN M (exN mi t k) = cN F t by omega]
/-- the first groups agree -/
theorem grp_eq (hk : k ≤ 12) (hM : mTab wgh M) (hs : sOk wgh) (hF : cTab am F k) (hi : incM mi k 12) (hw : ∀ t, t < 2 ^ k → sumB am t k = wgh (exN mi t k)) {l : Nat} (hl : l < 2 ^ k) (h0 : l ≠ 0) (hz : wgh (exN mi l k) = 0) : lgN wgh M (exN mi l k) = exN mi (fgN am F k l) k := by
  have hl12 : l < 2 ^ 12 := Nat.lt_of_lt_of_le hl (Nat.pow_le_pow_right (by decide) hk)
  have hE := exN_lt (t := l) hi
  have hlo := exN_low (Nat.le_refl _) hk hi hl h0
  have hlb := lowI_bit h0 hl12
  have hlk := bit_lt hl hlb
  -- good sets agree
  have good : ∀ t, sub t l → t ≠ l → (goodC am F k l (2 ^ lowI l) t ↔ goodG wgh M (exN mi l k) (2 ^ lowI (exN mi l k)) (exN mi t k)) := by
    intro t hsub hne
    have ht : t < 2 ^ k := sub_lt hsub hl
    have hsubE := (exN_sub hi ht (b := l)).mpr hsub
    have e1 : mns (exN mi l k) (exN mi t k) = exN mi (l ^^^ t) k := by rw [xor_sub hsub, exN_mns hi hl]
    have hx : l ^^^ t < 2 ^ k := by rw [xor_sub hsub]; exact mns_lt hl
    constructor
    · rintro ⟨a1, a2, a3, a4⟩
      have z1 : wgh (exN mi t k) = 0 := by rw [← hw t ht]; exact a4
      have z2 : wgh (exN mi (l ^^^ t) k) = 0 := by rw [← e1]; exact hs.2.1 _ _ hE hsubE hz z1
      refine ⟨sub_mns.mpr hsubE, ?_, z1, ?_, ?_⟩
      · rw [hlo, and_ne, exN_at hi hlk]; exact and_ne.mp a1
      · rw [e1, tab_eq hk hM hs hF hi hw hx z2, tab_eq hk hM hs hF hi hw hl hz]; exact a3
      · rw [e1, ((hM _ (by have := exN_lt (t := l ^^^ t) hi; omega)).1.1 z2).1]
        exact nI_ne1 (by have := ((hM (exN mi (l ^^^ t) k) (by have := exN_lt (t := l ^^^ t) hi; omega)).1.1 z2).2; have := exN_lt (t := l ^^^ t) hi; omega)
    · rintro ⟨a1, a2, a3, a4, a5⟩
      have z2 : wgh (exN mi (l ^^^ t) k) = 0 := by rw [← e1]; exact hs.2.1 _ _ hE hsubE hz a3
      refine ⟨?_, sub_mns.mpr hsub, ?_, by rw [hw t ht]; exact a3⟩
      · rw [hlo, and_ne, exN_at hi hlk] at a2; exact and_ne.mpr a2
      · rw [e1, tab_eq hk hM hs hF hi hw hx z2, tab_eq hk hM hs hF hi hw hl hz] at a4; exact a4
  have fE : 2 ^ lowI (exN mi l k) = exN mi (2 ^ lowI l) k := by
    rw [hlo]
    apply tb_ext
    intro j
    rw [pow_in, exN_in]
    constructor
    · intro e; exact ⟨lowI l, hlk, pow_in.mpr rfl, e⟩
    · rintro ⟨i, i1, i2, i3⟩; rw [pow_in.mp i2]; exact i3
  have fk : 2 ^ lowI l < 2 ^ k := Nat.pow_lt_pow_right (by decide) hlk
  -- a good set of the model below l's is one of the program's
  have back : ∀ w, w < exN mi l k → goodG wgh M (exN mi l k) (2 ^ lowI (exN mi l k)) w → ∃ t, exN mi t k = w ∧ t < l ∧ 2 ^ lowI l ≤ t ∧ goodC am F k l (2 ^ lowI l) t := by
    intro w hw1 hg
    have hsw : sub w (exN mi l k) := sub_mns.mp hg.1
    have eT := exN_puN hi hsw
    have htk : puN mi w k < 2 ^ k := puN_lt
    have hsub : sub (puN mi w k) l := (exN_sub hi htk).mp (by rw [eT]; exact hsw)
    have hlt : puN mi w k < l := (exN_lt_iff hi htk hl).mp (by rw [eT]; exact hw1)
    have hgC := (good _ hsub (by omega)).mpr (by rw [eT]; exact hg)
    exact ⟨_, eT, hlt, pow_le_of_bit (and_ne.mp hgC.1), hgC⟩
  have sE : sub (exN mi l k) (exN mi l k) := sub.refl _
  apply lgN_eq
  rcases fgN_ok am F k l with ⟨r1, r2, r3, r4⟩ | ⟨r1, r2⟩
  · have hsub : sub (fgN am F k l) l := sub_mns.mp r3.2.1
    have hrk : fgN am F k l < 2 ^ k := Nat.lt_trans r2 hl
    refine Or.inl ⟨?_, Nat.le_of_lt (exN_mono hi hrk hl r2), (good _ hsub (by omega)).mp r3, fun w w1 w2 hg => ?_⟩
    · have hb := and_ne.mp r3.1
      exact pow_le_of_bit (by rw [hlo, exN_at hi hlk]; exact hb)
    · obtain ⟨t, t1, t2, t3, t4⟩ := back w (Nat.lt_trans w2 (exN_mono hi hrk hl r2)) hg
      refine r4 t t3 ?_ t4
      exact (exN_lt_iff hi (Nat.lt_trans t2 hl) hrk).mp (by rw [t1]; exact w2)
  · rw [r1]
    have no : ∀ w, 2 ^ lowI (exN mi l k) ≤ w → w < exN mi l k → ¬ goodG wgh M (exN mi l k) (2 ^ lowI (exN mi l k)) w := by
      intro w w1 w2 hg
      obtain ⟨t, t1, t2, t3, t4⟩ := back w w2 hg
      exact r2 t t3 t2 t4
    by_cases hg : goodG wgh M (exN mi l k) (2 ^ lowI (exN mi l k)) (exN mi l k)
    · exact Or.inl ⟨pow_le_of_bit (lowI_bit (exN_ne0 hi hl h0) hE), Nat.le_refl _, hg, no⟩
    · refine Or.inr ⟨rfl, fun w w1 w2 => ?_⟩
      by_cases e : w = exN mi l k
      · rw [e]; exact hg
      · exact no w w1 (by omega)
/-- the first group sums up to 0 -/
theorem grp_zero (hk : k ≤ 12) (hM : mTab wgh M) (hs : sOk wgh) (hF : cTab am F k) (hi : incM mi k 12) (hw : ∀ t, t < 2 ^ k → sumB am t k = wgh (exN mi t k)) {l : Nat} (hl : l < 2 ^ k) (hz : wgh (exN mi l k) = 0) : wgh (exN mi (fgN am F k l) k) = 0 := by
  rcases fgN_ok am F k l with ⟨r1, r2, r3, r4⟩ | ⟨r1, r2⟩
  · rw [← hw _ (Nat.lt_trans r2 hl)]; exact r3.2.2.2
  · rw [r1]; exact hz
end EQ
