theorem gMet_mono {l : Launch} {E : gE} {y : MethodName} {cc : ByteArray} {maxL : Nat} {ret : Option FieldType} {rm : Room} {av : List Value} {ad : Nat → Nat} {u : gW} {sz : Nat} {P Q : Option Value → gW → Nat → Prop} (h : gMet l E y cc maxL ret rm av ad u sz P) (hPQ : ∀ v u' sz', P v u' sz' → Q v u' sz') : gMet l E y cc maxL ret rm av ad u sz Q := by
  intro p e ha hc hk s m args below hf happ hP hK
  obtain ⟨n, o, h1, h2, h3, ⟨v, u', s', q1, q2, q3⟩, h5⟩ := h p e ha hc hk s m args below hf happ hP hK
  exact ⟨n, o, h1, h2, h3, ⟨v, u', s', q1, hPQ _ _ _ q2, q3⟩, h5⟩
/-- the state of the model: whole numbers, arrays of ints, arrays of longs, by their places -/
abbrev mM : Type := (Nat → Int32) × (Nat → Nat → Int32) × (Nat → Nat → Int64)
def sI (M : mM) (i : Nat) (v : Int32) : mM := (fun k => if k = i then v else M.1 k, M.2)
def sA (M : mM) (i : Nat) (f : Nat → Int32) : mM := (M.1, fun k => if k = i then f else M.2.1 k, M.2.2)
def sL (M : mM) (i : Nat) (f : Nat → Int64) : mM := (M.1, M.2.1, fun k => if k = i then f else M.2.2 k)
def mW (X : gX) (ad : Nat → Nat) (m : Nat) (M : mM) (u : gW) : Prop :=
  u m = some (mO ad m (M.1 0) (M.1 1) (M.1 2) (M.1 3) (M.1 4) (M.1 5) (M.1 6) (M.1 7)) ∧
  u (m + 1) = some (.inl ((X.2 0), 4, .inl (M.2.1 1))) ∧
  u (m + 2) = some (.inl ((X.2 0), 4, .inl (M.2.1 2))) ∧
  u (m + 3) = some (.inl ((X.2 2), 48, .inl (M.2.1 3))) ∧
  u (m + 4) = some (.inl ((X.2 0), 12, .inl (M.2.1 4))) ∧
  u (m + 5) = some (.inl ((X.2 0), 12, .inl (M.2.1 5))) ∧
  u (m + 6) = some (.inl ((X.2 0), 16, .inl (M.2.1 6))) ∧
  u (m + 7) = some (.inl ((X.2 0), 16, .inl (M.2.1 7))) ∧
  u (m + 8) = some (.inl ((X.2 1), 12, .inr (.inl (M.2.2 8)))) ∧
  u (m + 9) = some (.inl ((X.2 0), 64, .inl (M.2.1 9))) ∧
  u (m + 10) = some (.inl ((X.2 1), 64, .inr (.inl (M.2.2 10)))) ∧
  u (m + 11) = some (.inl ((X.2 2), 64, .inl (M.2.1 11))) ∧
  u (m + 12) = some (.inl ((X.2 1), 768, .inr (.inl (M.2.2 12)))) ∧
  u (m + 13) = some (.inl ((X.2 1), 768, .inr (.inl (M.2.2 13)))) ∧
  u (m + 14) = some (.inl ((X.2 1), 768, .inr (.inl (M.2.2 14)))) ∧
  u (m + 15) = some (.inl ((X.2 1), 48, .inr (.inl (M.2.2 15)))) ∧
  u (m + 16) = some (.inl ((X.2 2), 4, .inl (M.2.1 16))) ∧
  u (m + 17) = some (.inl ((X.2 0), 4, .inl (M.2.1 17))) ∧
  u (m + 18) = some (.inl ((X.2 0), 48, .inl (M.2.1 18))) ∧
  u (m + 19) = some (.inl ((X.2 0), 4, .inl (M.2.1 19))) ∧
  u (m + 20) = some (.inl ((X.2 0), 44, .inl (M.2.1 20))) ∧
  u (m + 21) = some (.inl ((X.2 0), 44, .inl (M.2.1 21))) ∧
  u (m + 22) = some (.inl ((X.2 1), 44, .inr (.inl (M.2.2 22)))) ∧
  u (m + 23) = some (.inl ((X.2 2), 44, .inl (M.2.1 23))) ∧
  u (m + 24) = some (.inl ((X.2 1), 4096, .inr (.inl (M.2.2 24)))) ∧
  u (m + 25) = some (.inl ((X.2 0), 4096, .inl (M.2.1 25)))
theorem mW_0 {X : gX} {ad : Nat → Nat} {m : Nat} {M : mM} {u : gW} (h : mW X ad m M u) : u m = some (mO ad m (M.1 0) (M.1 1) (M.1 2) (M.1 3) (M.1 4) (M.1 5) (M.1 6) (M.1 7)) := h.1
theorem mW_1 {X : gX} {ad : Nat → Nat} {m : Nat} {M : mM} {u : gW} (h : mW X ad m M u) : u (m + 1) = some (.inl ((X.2 0), 4, .inl (M.2.1 1))) := h.2.1
theorem mW_2 {X : gX} {ad : Nat → Nat} {m : Nat} {M : mM} {u : gW} (h : mW X ad m M u) : u (m + 2) = some (.inl ((X.2 0), 4, .inl (M.2.1 2))) := h.2.2.1
theorem mW_3 {X : gX} {ad : Nat → Nat} {m : Nat} {M : mM} {u : gW} (h : mW X ad m M u) : u (m + 3) = some (.inl ((X.2 2), 48, .inl (M.2.1 3))) := h.2.2.2.1
theorem mW_4 {X : gX} {ad : Nat → Nat} {m : Nat} {M : mM} {u : gW} (h : mW X ad m M u) : u (m + 4) = some (.inl ((X.2 0), 12, .inl (M.2.1 4))) := h.2.2.2.2.1
theorem mW_5 {X : gX} {ad : Nat → Nat} {m : Nat} {M : mM} {u : gW} (h : mW X ad m M u) : u (m + 5) = some (.inl ((X.2 0), 12, .inl (M.2.1 5))) := h.2.2.2.2.2.1
theorem mW_6 {X : gX} {ad : Nat → Nat} {m : Nat} {M : mM} {u : gW} (h : mW X ad m M u) : u (m + 6) = some (.inl ((X.2 0), 16, .inl (M.2.1 6))) := h.2.2.2.2.2.2.1
theorem mW_7 {X : gX} {ad : Nat → Nat} {m : Nat} {M : mM} {u : gW} (h : mW X ad m M u) : u (m + 7) = some (.inl ((X.2 0), 16, .inl (M.2.1 7))) := h.2.2.2.2.2.2.2.1
theorem mW_8 {X : gX} {ad : Nat → Nat} {m : Nat} {M : mM} {u : gW} (h : mW X ad m M u) : u (m + 8) = some (.inl ((X.2 1), 12, .inr (.inl (M.2.2 8)))) := h.2.2.2.2.2.2.2.2.1
theorem mW_9 {X : gX} {ad : Nat → Nat} {m : Nat} {M : mM} {u : gW} (h : mW X ad m M u) : u (m + 9) = some (.inl ((X.2 0), 64, .inl (M.2.1 9))) := h.2.2.2.2.2.2.2.2.2.1
theorem mW_10 {X : gX} {ad : Nat → Nat} {m : Nat} {M : mM} {u : gW} (h : mW X ad m M u) : u (m + 10) = some (.inl ((X.2 1), 64, .inr (.inl (M.2.2 10)))) := h.2.2.2.2.2.2.2.2.2.2.1
theorem mW_11 {X : gX} {ad : Nat → Nat} {m : Nat} {M : mM} {u : gW} (h : mW X ad m M u) : u (m + 11) = some (.inl ((X.2 2), 64, .inl (M.2.1 11))) := h.2.2.2.2.2.2.2.2.2.2.2.1
theorem mW_12 {X : gX} {ad : Nat → Nat} {m : Nat} {M : mM} {u : gW} (h : mW X ad m M u) : u (m + 12) = some (.inl ((X.2 1), 768, .inr (.inl (M.2.2 12)))) := h.2.2.2.2.2.2.2.2.2.2.2.2.1
theorem mW_13 {X : gX} {ad : Nat → Nat} {m : Nat} {M : mM} {u : gW} (h : mW X ad m M u) : u (m + 13) = some (.inl ((X.2 1), 768, .inr (.inl (M.2.2 13)))) := h.2.2.2.2.2.2.2.2.2.2.2.2.2.1
theorem mW_14 {X : gX} {ad : Nat → Nat} {m : Nat} {M : mM} {u : gW} (h : mW X ad m M u) : u (m + 14) = some (.inl ((X.2 1), 768, .inr (.inl (M.2.2 14)))) := h.2.2.2.2.2.2.2.2.2.2.2.2.2.2.1
theorem mW_15 {X : gX} {ad : Nat → Nat} {m : Nat} {M : mM} {u : gW} (h : mW X ad m M u) : u (m + 15) = some (.inl ((X.2 1), 48, .inr (.inl (M.2.2 15)))) := h.2.2.2.2.2.2.2.2.2.2.2.2.2.2.2.1
theorem mW_16 {X : gX} {ad : Nat → Nat} {m : Nat} {M : mM} {u : gW} (h : mW X ad m M u) : u (m + 16) = some (.inl ((X.2 2), 4, .inl (M.2.1 16))) := h.2.2.2.2.2.2.2.2.2.2.2.2.2.2.2.2.1
theorem mW_17 {X : gX} {ad : Nat → Nat} {m : Nat} {M : mM} {u : gW} (h : mW X ad m M u) : u (m + 17) = some (.inl ((X.2 0), 4, .inl (M.2.1 17))) := h.2.2.2.2.2.2.2.2.2.2.2.2.2.2.2.2.2.1
theorem mW_18 {X : gX} {ad : Nat → Nat} {m : Nat} {M : mM} {u : gW} (h : mW X ad m M u) : u (m + 18) = some (.inl ((X.2 0), 48, .inl (M.2.1 18))) := h.2.2.2.2.2.2.2.2.2.2.2.2.2.2.2.2.2.2.1
theorem mW_19 {X : gX} {ad : Nat → Nat} {m : Nat} {M : mM} {u : gW} (h : mW X ad m M u) : u (m + 19) = some (.inl ((X.2 0), 4, .inl (M.2.1 19))) := h.2.2.2.2.2.2.2.2.2.2.2.2.2.2.2.2.2.2.2.1
theorem mW_20 {X : gX} {ad : Nat → Nat} {m : Nat} {M : mM} {u : gW} (h : mW X ad m M u) : u (m + 20) = some (.inl ((X.2 0), 44, .inl (M.2.1 20))) := h.2.2.2.2.2.2.2.2.2.2.2.2.2.2.2.2.2.2.2.2.1
theorem mW_21 {X : gX} {ad : Nat → Nat} {m : Nat} {M : mM} {u : gW} (h : mW X ad m M u) : u (m + 21) = some (.inl ((X.2 0), 44, .inl (M.2.1 21))) := h.2.2.2.2.2.2.2.2.2.2.2.2.2.2.2.2.2.2.2.2.2.1
theorem mW_22 {X : gX} {ad : Nat → Nat} {m : Nat} {M : mM} {u : gW} (h : mW X ad m M u) : u (m + 22) = some (.inl ((X.2 1), 44, .inr (.inl (M.2.2 22)))) := h.2.2.2.2.2.2.2.2.2.2.2.2.2.2.2.2.2.2.2.2.2.2.1
theorem mW_23 {X : gX} {ad : Nat → Nat} {m : Nat} {M : mM} {u : gW} (h : mW X ad m M u) : u (m + 23) = some (.inl ((X.2 2), 44, .inl (M.2.1 23))) := h.2.2.2.2.2.2.2.2.2.2.2.2.2.2.2.2.2.2.2.2.2.2.2.1
theorem mW_24 {X : gX} {ad : Nat → Nat} {m : Nat} {M : mM} {u : gW} (h : mW X ad m M u) : u (m + 24) = some (.inl ((X.2 1), 4096, .inr (.inl (M.2.2 24)))) := h.2.2.2.2.2.2.2.2.2.2.2.2.2.2.2.2.2.2.2.2.2.2.2.2.1
theorem mW_25 {X : gX} {ad : Nat → Nat} {m : Nat} {M : mM} {u : gW} (h : mW X ad m M u) : u (m + 25) = some (.inl ((X.2 0), 4096, .inl (M.2.1 25))) := h.2.2.2.2.2.2.2.2.2.2.2.2.2.2.2.2.2.2.2.2.2.2.2.2.2
theorem mW_fr {X : gX} {ad : Nat → Nat} {m : Nat} {M : mM} {u u' : gW} (h : mW X ad m M u) (hu : ∀ n, m ≤ n → n ≤ m + 25 → u' n = u n) : mW X ad m M u' := by
  refine ⟨?_, ?_, ?_, ?_, ?_, ?_, ?_, ?_, ?_, ?_, ?_, ?_, ?_, ?_, ?_, ?_, ?_, ?_, ?_, ?_, ?_, ?_, ?_, ?_, ?_, ?_⟩
  · rw [hu _ (by omega) (by omega)]; exact mW_0 h
  · rw [hu _ (by omega) (by omega)]; exact mW_1 h
  · rw [hu _ (by omega) (by omega)]; exact mW_2 h
  · rw [hu _ (by omega) (by omega)]; exact mW_3 h
  · rw [hu _ (by omega) (by omega)]; exact mW_4 h
  · rw [hu _ (by omega) (by omega)]; exact mW_5 h
  · rw [hu _ (by omega) (by omega)]; exact mW_6 h
  · rw [hu _ (by omega) (by omega)]; exact mW_7 h
  · rw [hu _ (by omega) (by omega)]; exact mW_8 h
  · rw [hu _ (by omega) (by omega)]; exact mW_9 h
  · rw [hu _ (by omega) (by omega)]; exact mW_10 h
  · rw [hu _ (by omega) (by omega)]; exact mW_11 h
  · rw [hu _ (by omega) (by omega)]; exact mW_12 h
  · rw [hu _ (by omega) (by omega)]; exact mW_13 h
  · rw [hu _ (by omega) (by omega)]; exact mW_14 h
  · rw [hu _ (by omega) (by omega)]; exact mW_15 h
  · rw [hu _ (by omega) (by omega)]; exact mW_16 h
  · rw [hu _ (by omega) (by omega)]; exact mW_17 h
  · rw [hu _ (by omega) (by omega)]; exact mW_18 h
  · rw [hu _ (by omega) (by omega)]; exact mW_19 h
  · rw [hu _ (by omega) (by omega)]; exact mW_20 h
  · rw [hu _ (by omega) (by omega)]; exact mW_21 h
  · rw [hu _ (by omega) (by omega)]; exact mW_22 h
  · rw [hu _ (by omega) (by omega)]; exact mW_23 h
  · rw [hu _ (by omega) (by omega)]; exact mW_24 h
  · rw [hu _ (by omega) (by omega)]; exact mW_25 h
/-- a club's cells: V.1 = members, gone, mark, being settled, groups, transfers, waiting; V.2.1 = group of, sender, getter, ticked; V.2.2 = balances, drifts, amounts -/
def clW (X : gX) (ad : Nat → Nat) (u : gW) (b : Nat) (V : mM) : Prop :=
  u b = some (.inr (1, [.ref (ad (b + 1)), .ref (ad (b + 2)), .ref (ad (b + 3)), .int (V.1 0), .int (V.1 1), .int (V.1 2)])) ∧
  u (b + 1) = some (.inl ((X.2 1), 12, .inr (.inl (V.2.2 0)))) ∧
  u (b + 2) = some (.inl ((X.2 1), 12, .inr (.inl (V.2.2 1)))) ∧
  u (b + 3) = some (.inr (4, [.ref (ad (b + 3 + 1)), .ref (ad (b + 3 + 2)), .ref (ad (b + 3 + 3)), .ref (ad (b + 3 + 4)), .ref (ad (b + 3 + 5)), .int (V.1 3), .int (V.1 4), .int (V.1 5), .int (V.1 6)])) ∧
  u (b + 3 + 1) = some (.inl ((X.2 0), 12, .inl (V.2.1 0))) ∧
  u (b + 3 + 2) = some (.inl ((X.2 0), 12, .inl (V.2.1 1))) ∧
  u (b + 3 + 3) = some (.inl ((X.2 0), 12, .inl (V.2.1 2))) ∧
  u (b + 3 + 4) = some (.inl ((X.2 1), 12, .inr (.inl (V.2.2 2)))) ∧
  u (b + 3 + 5) = some (.inl ((X.2 2), 12, .inl (V.2.1 3)))
theorem clW_fr {X : gX} {ad : Nat → Nat} {u u' : gW} {b : Nat} {V : mM} (h : clW X ad u b V) (hu : ∀ n, b ≤ n → n < b + 9 → u' n = u n) : clW X ad u' b V := by
  obtain ⟨h0, h1, h2, h3, h4, h5, h6, h7, h8⟩ := h
  exact ⟨(hu _ (by omega) (by omega)).trans h0, (hu _ (by omega) (by omega)).trans h1, (hu _ (by omega) (by omega)).trans h2, (hu _ (by omega) (by omega)).trans h3, (hu _ (by omega) (by omega)).trans h4, (hu _ (by omega) (by omega)).trans h5, (hu _ (by omega) (by omega)).trans h6, (hu _ (by omega) (by omega)).trans h7, (hu _ (by omega) (by omega)).trans h8⟩
/-- a bill's cells: W.1 0 = struck; W.2.2 = paid, shares, drifts, total -/
def biW (X : gX) (ad : Nat → Nat) (u : gW) (d b : Nat) (V : mM) : Prop :=
  u d = some (.inr (0, [.ref (ad b), .long (V.2.2 3 0), .ref (ad (d + 1)), .ref (ad (d + 2)), .ref (ad (d + 3)), .int (V.1 0)])) ∧
  u (d + 1) = some (.inl ((X.2 1), 12, .inr (.inl (V.2.2 0)))) ∧
  u (d + 2) = some (.inl ((X.2 1), 12, .inr (.inl (V.2.2 1)))) ∧
  u (d + 3) = some (.inl ((X.2 1), 12, .inr (.inl (V.2.2 2))))
theorem biW_fr {X : gX} {ad : Nat → Nat} {u u' : gW} {d b : Nat} {V : mM} (h : biW X ad u d b V) (hu : ∀ n, d ≤ n → n < d + 4 → u' n = u n) : biW X ad u' d b V := by
  obtain ⟨h0, h1, h2, h3⟩ := h
  exact ⟨(hu _ (by omega) (by omega)).trans h0, (hu _ (by omega) (by omega)).trans h1, (hu _ (by omega) (by omega)).trans h2, (hu _ (by omega) (by omega)).trans h3⟩
/-- the draft's club -/
def dvW (ad : Nat → Nat) (x : Nat) (dr : Int32) : Value := if dr = -1 then .null else .ref (ad (x + 16 * dr.toNatClampNeg + 32))
def drW (X : gX) (ad : Nat → Nat) (u : gW) (x : Nat) (M : mM) (py wt : Nat → Int64) : Prop :=
  u (x + 3) = some (.inr (2, [.ref (ad (x + 3 + 1)), .ref (ad (x + 3 + 2)), dvW ad x (M.1 2), .int (M.1 3), .int (M.1 4), .int (M.1 5), .int (M.1 6)])) ∧
  u (x + 3 + 1) = some (.inl ((X.2 1), 12, .inr (.inl py))) ∧
  u (x + 3 + 2) = some (.inl ((X.2 1), 12, .inr (.inl wt)))
theorem drW_fr {X : gX} {ad : Nat → Nat} {u u' : gW} {x : Nat} {M : mM} {py wt : Nat → Int64} (h : drW X ad u x M py wt) (hu : ∀ n, x ≤ n → n < x + 32 → u' n = u n) : drW X ad u' x M py wt := by
  obtain ⟨h0, h1, h2⟩ := h
  exact ⟨(hu _ (by omega) (by omega)).trans h0, (hu _ (by omega) (by omega)).trans h1, (hu _ (by omega) (by omega)).trans h2⟩
def grW (X : gX) (ad : Nat → Nat) (u : gW) (x : Nat) (sz0 : Int32) (mem mo : Nat → Int32) (am : Nat → Int64) : Prop :=
  u (x + 6) = some (.inr (3, [.ref (ad (x + 6 + 1)), .ref (ad (x + 6 + 2)), .ref (ad (x + 6 + 3)), .int sz0])) ∧
  u (x + 6 + 1) = some (.inl ((X.2 0), 12, .inl mem)) ∧
  u (x + 6 + 2) = some (.inl ((X.2 1), 12, .inr (.inl am))) ∧
  u (x + 6 + 3) = some (.inl ((X.2 0), 4096, .inl mo))
theorem grW_fr {X : gX} {ad : Nat → Nat} {u u' : gW} {x : Nat} {sz0 : Int32} {mem mo : Nat → Int32} {am : Nat → Int64} (h : grW X ad u x sz0 mem mo am) (hu : ∀ n, x ≤ n → n < x + 32 → u' n = u n) : grW X ad u' x sz0 mem mo am := by
  obtain ⟨h0, h1, h2, h3⟩ := h
  exact ⟨(hu _ (by omega) (by omega)).trans h0, (hu _ (by omega) (by omega)).trans h1, (hu _ (by omega) (by omega)).trans h2, (hu _ (by omega) (by omega)).trans h3⟩
/-- the whole of the model's numbers, in their bounds -/
def R0 (M : mM) (nC nB : Nat) : Prop :=
  nC ≤ 4 ∧ nB ≤ 64 ∧ M.1 1 = nI nC ∧ M.1 7 = nI nB ∧
  (∀ k, k < 4 → ∃ n, n ≤ 12 ∧ M.2.1 1 k = nI n) ∧
  (∀ k, k < 4 → ∃ n, n < 12 ∧ M.2.1 2 k = nI n) ∧
  (∀ k, k < 4 → ∃ n, n ≤ 11 ∧ M.2.1 19 k = nI n) ∧
  (∀ b, b < nB → ∃ k, k < nC ∧ M.2.1 9 b = nI k) ∧
  (∀ j, vp_in (M.2.1 20 j) 12) ∧ (∀ j, vp_in (M.2.1 21 j) 12) ∧
  (¬ M.1 2 = -1 → ∃ k, k < nC ∧ M.1 2 = nI k) ∧ M.2.2 24 0 = 0 ∧
  (∀ k, nC ≤ k → k < 4 → M.2.1 1 k = 0 ∧ M.2.1 2 k = 0 ∧ M.2.1 16 k = 0 ∧ M.2.1 17 k = 0 ∧ M.2.1 19 k = 0 ∧ ∀ j, j < 12 → M.2.1 3 (12 * k + j) = 0 ∧ M.2.1 18 (12 * k + j) = 0 ∧ M.2.2 15 (12 * k + j) = 0)
/-- the lines of a draft -/
def RL (M : mM) (L : Nat) : Prop := L ≤ 16 ∧ M.1 6 = nI L ∧ ∀ i, i < L → (∃ s, s ≠ 0 ∧ s < 4096 ∧ M.2.1 7 i = nI s) ∧ ∃ n, n ≤ 100000000 ∧ M.2.1 6 i = nI n
/-- a club: n members, t transfers -/
def RC (M : mM) (nB k : Nat) (V : mM) : Prop := ∃ n t : Nat,
  (n ≤ 12 ∧ t ≤ 11 ∧ V.1 0 = nI n ∧ M.2.1 1 k = nI n ∧ V.1 5 = nI t ∧ M.2.1 19 k = nI t ∧ M.2.1 2 k = V.1 2 ∧ M.2.1 16 k = V.1 3 ∧ M.2.1 17 k = V.1 4) ∧
  (∃ g, g < 4096 ∧ V.1 1 = nI g ∧ ∀ j, j < 12 → (g.testBit j = true ↔ ¬ M.2.1 3 (12 * k + j) = 0)) ∧
  V.1 6 = untS (M.2.1 23) k t ∧
  (∀ j, j < 12 → M.2.1 18 (12 * k + j) = V.2.1 0 j) ∧
  (∀ j, j < t → M.2.1 20 (11 * k + j) = V.2.1 1 j ∧ M.2.1 21 (11 * k + j) = V.2.1 2 j ∧ M.2.2 22 (11 * k + j) = V.2.2 2 j ∧ M.2.1 23 (11 * k + j) = V.2.1 3 j ∧ (V.2.1 3 j = 0 ∨ V.2.1 3 j = 1)) ∧
  ((∀ j, vp_in (V.2.1 1 j) 12) ∧ (∀ j, vp_in (V.2.1 2 j) 12) ∧ ∀ j, j < t → ∃ a b, a < n ∧ b < n ∧ V.2.1 1 j = nI a ∧ V.2.1 2 j = nI b) ∧
  (∀ j, j < 12 → V.2.2 0 j = balR (M.2.1 9) (M.2.1 11) (M.2.2 13) (M.2.2 12) (nI k) j (M.2.2 15 (12 * k + j)) nB) ∧
  (∀ j, j < 12 → V.2.2 1 j = driR (M.2.1 9) (M.2.1 11) (M.2.2 14) (nI k) j nB) ∧
  (∀ j, n ≤ j → j < 12 → V.2.2 0 j = 0) ∧ sumL (V.2.2 0) 12 = 0
/-- a bill of the club k -/
def RB (M : mM) (j k : Nat) (V : mM) : Prop :=
  M.2.1 9 j = nI k ∧ M.2.2 10 j = V.2.2 3 0 ∧ M.2.1 11 j = V.1 0 ∧
  (∀ i, i < 12 → M.2.2 13 (12 * j + i) = V.2.2 0 i ∧ M.2.2 12 (12 * j + i) = V.2.2 1 i ∧ M.2.2 14 (12 * j + i) = V.2.2 2 i) ∧
  sumL (V.2.2 0) 12 = sumL (V.2.2 1) 12 ∧
  ∃ n, n ≤ 12 ∧ M.2.1 1 k = nI n ∧ ∀ i, n ≤ i → i < 12 → V.2.2 0 i = 0 ∧ V.2.2 1 i = 0
/-- the draft -/
def RD (M : mM) (py wt : Nat → Int64) : Prop := ∃ L, RL M L ∧
  (∀ j, j < 12 → ∃ p, p ≤ 100000000 ∧ M.2.1 4 j = nI p ∧ py j = lN p) ∧
  (∀ j, j < 12 → ∃ q, q ≤ 100000000 ∧ M.2.1 5 j = nI q) ∧
  (∀ j, j < 12 → wt j = heaV (M.1 3) (M.2.1 5) (M.2.1 7) (M.2.1 6) L j) ∧
  (¬ M.1 2 = -1 → (¬ M.1 3 < 1 ∧ ¬ 5 < M.1 3) ∧ (∃ c, 1 ≤ c ∧ c ≤ 100000000 ∧ M.1 4 = nI c) ∧ (∃ r, 1 ≤ r ∧ r ≤ 1000000000 ∧ M.1 5 = nI r) ∧
    ∃ n, n ≤ 12 ∧ M.2.1 1 (M.1 2).toNatClampNeg = nI n ∧ ∀ j, n ≤ j → j < 12 → py j = 0 ∧ wt j = 0)
/-- the program's object x in the world u, side by side with the model's state M: nC clubs, nB bills -/
def kD (X : gX) (ad : Nat → Nat) (x : Nat) (M : mM) (u : gW) (nC nB : Nat) : Prop :=
  R0 M nC nB ∧
  (u x = some (.inr (5, [.ref (ad (x + 1)), .ref (ad (x + 2)), .ref (ad (x + 3)), .ref (ad (x + 6)), .int (nI nC), .int (nI nB)])) ∧
    u (x + 1) = some (.inl ((X.2 3), 4, .inr (.inr (.inr (.inr (cArr ad x nC)))))) ∧
    u (x + 2) = some (.inl ((X.2 4), 64, .inr (.inr (.inr (.inr (bArr ad x nB))))))) ∧
  (∃ py wt, drW X ad u x M py wt ∧ RD M py wt) ∧
  (∃ sz0 mem mo am, grW X ad u x sz0 mem mo am) ∧
  (∀ k, k < nC → ∃ V, clW X ad u (x + 16 * k + 32) V ∧ RC M nB k V) ∧
  (∀ j, j < nB → ∃ k V, k < nC ∧ biW X ad u (x + 4 * j + 128) (x + 16 * k + 32) V ∧ RB M j k V) ∧
  (∀ k, nC ≤ k → k < 5 → ∀ o, o < 9 → u (x + 16 * k + 32 + o) = none) ∧
  (∀ j, nB ≤ j → j < 65 → ∀ o, o < 4 → u (x + 4 * j + 128 + o) = none)
/-- the world elsewhere changes nothing -/
theorem kD_fr {X : gX} {ad : Nat → Nat} {x : Nat} {M : mM} {u u' : gW} {nC nB : Nat} (h : kD X ad x M u nC nB) (hu : ∀ n, x ≤ n → n < x + 512 → u' n = u n) : kD X ad x M u' nC nB := by
  obtain ⟨h0, ⟨h1, h2, h3⟩, ⟨py, wt, h4, h5⟩, ⟨sz0, mem, mo, am, h6⟩, h7, h8, h9, h10⟩ := h
  have hC := h0.1
  have hB := h0.2.1
  refine ⟨h0, ⟨(hu _ (by omega) (by omega)).trans h1, (hu _ (by omega) (by omega)).trans h2, (hu _ (by omega) (by omega)).trans h3⟩, ⟨py, wt, drW_fr h4 fun n a b => hu n a (by omega), h5⟩, ⟨sz0, mem, mo, am, grW_fr h6 fun n a b => hu n a (by omega)⟩, fun k hk => ?_, fun j hj => ?_, fun k a b o ho => ?_, fun j a b o ho => ?_⟩
  · obtain ⟨V, a, b⟩ := h7 k hk
    exact ⟨V, clW_fr a fun n c d => hu n (by omega) (by omega), b⟩
  · obtain ⟨k, V, c, a, b⟩ := h8 j hj
    exact ⟨k, V, c, biW_fr a fun n c d => hu n (by omega) (by omega), b⟩
  · rw [hu _ (by omega) (by omega)]; exact h9 k a b o ho
  · rw [hu _ (by omega) (by omega)]; exact h10 j a b o ho
/-- the numbers alone change, none that the program's side reads -/
theorem kD_M {X : gX} {ad : Nat → Nat} {x : Nat} {M M' : mM} {u : gW} {nC nB : Nat} (h : kD X ad x M u nC nB) (h0 : R0 M' nC nB) (hd : ∀ py wt, drW X ad u x M py wt → RD M py wt → drW X ad u x M' py wt ∧ RD M' py wt) (hc : ∀ k V, k < nC → RC M nB k V → RC M' nB k V) (hb : ∀ j k V, j < nB → RB M j k V → RB M' j k V) : kD X ad x M' u nC nB := by
  obtain ⟨-, h1, ⟨py, wt, h4, h5⟩, h6, h7, h8, h9, h10⟩ := h
  refine ⟨h0, h1, ⟨py, wt, (hd py wt h4 h5).1, (hd py wt h4 h5).2⟩, h6, fun k hk => ?_, fun j hj => ?_, h9, h10⟩
  · obtain ⟨V, a, b⟩ := h7 k hk
    exact ⟨V, a, hc k V hk b⟩
  · obtain ⟨k, V, c, a, b⟩ := h8 j hj
    exact ⟨k, V, c, a, hb j k V hj b⟩
theorem kD_th {X : gX} {ad : Nat → Nat} {x : Nat} {M : mM} {u : gW} {nC nB : Nat} (v : Int32) (h : kD X ad x M u nC nB) : kD X ad x (sI M 0 v) u nC nB :=
  kD_M h h.1 (fun _ _ a b => ⟨a, b⟩) (fun _ _ _ a => a) (fun _ _ _ _ a => a)
/-- one club changes (and what the groups are searched with) -/
theorem kD_club {X : gX} {ad : Nat → Nat} {x : Nat} {M M' : mM} {u u' : gW} {nC nB : Nat} (k : Nat) (hk : k < nC) (h : kD X ad x M u nC nB) (h0 : R0 M' nC nB)
    (hu : ∀ n, (n < x + 6 ∨ x + 10 ≤ n) → (n < x + 16 * k + 32 ∨ x + 16 * k + 41 ≤ n) → u' n = u n) (hg : ∃ sz0 mem mo am, grW X ad u' x sz0 mem mo am)
    (hd : ∀ py wt, drW X ad u x M py wt → RD M py wt → drW X ad u x M' py wt ∧ RD M' py wt) (hV : ∃ V, clW X ad u' (x + 16 * k + 32) V ∧ RC M' nB k V)
    (hc : ∀ k' V, k' < nC → k' ≠ k → RC M nB k' V → RC M' nB k' V) (hb : ∀ j k V, j < nB → k < nC → RB M j k V → RB M' j k V) : kD X ad x M' u' nC nB := by
  obtain ⟨g0, ⟨h1, h2, h3⟩, ⟨py, wt, h4, h5⟩, -, h7, h8, h9, h10⟩ := h
  have hC := g0.1
  have hB := g0.2.1
  refine ⟨h0, ⟨(hu _ (by omega) (by omega)).trans h1, (hu _ (by omega) (by omega)).trans h2, (hu _ (by omega) (by omega)).trans h3⟩, ⟨py, wt, ?_, (hd py wt h4 h5).2⟩, hg, fun k' hk' => ?_, fun j hj => ?_, fun k' a b o ho => ?_, fun j a b o ho => ?_⟩
  · obtain ⟨a0, a1, a2⟩ := (hd py wt h4 h5).1
    exact ⟨(hu _ (by omega) (by omega)).trans a0, (hu _ (by omega) (by omega)).trans a1, (hu _ (by omega) (by omega)).trans a2⟩
  · by_cases e : k' = k
    · subst e; exact hV
    · obtain ⟨V, a, b⟩ := h7 k' hk'
      exact ⟨V, clW_fr a fun n c d => hu n (by omega) (by omega), hc k' V hk' e b⟩
  · obtain ⟨k', V, c, a, b⟩ := h8 j hj
    exact ⟨k', V, c, biW_fr a fun n c d => hu n (by omega) (by omega), hb j k' V hj c b⟩
  · rw [hu _ (by omega) (by omega)]; exact h9 k' a b o ho
  · rw [hu _ (by omega) (by omega)]; exact h10 j a b o ho