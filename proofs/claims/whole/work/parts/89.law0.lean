def R_law : String := "ExpenseClubsLaw"
def lw_P (b : Addr) (xs : List Int32) (args : Array Value) (s : State) : Prop := args = #[.ref b] ∧ s.IntsAt b xs ∧ xs.length ≤ 2560 ∧ (Jvm.Cond.and given_1 narrow_1).before args s = true
def lw_Q (_ : Array Value) (s : State) (o : Outcome) (t : State) : Prop := o = .returned (some (.int 1)) ∧ Framed s o t [] 601024 7293034
def lw_Z (below : List Frame) (a : Array Value) (s : State) : State → Prop := fun t => ∃ o, t.status = .running ∧ Ended t below o ∧ lw_Q a s o t
/-- the law's own end, with 1 on the stack, nothing written that was there before, its room as the claim has it -/
theorem lw_ret {p : Program} {l : Launch} {e : Env} {s : State} {m : MethodId} {below : List Frame} {meth : Method} {c : Code} {b : Nat} (hx : p.tables.exec = Jvm.exec) (hb : c.code = code) (hr : meth.sig.returnType = ret) (hlocks : meth.locks = false) {pc : Nat} {H : Heap} {ls : Array Slot} (hdg : decode code pc = .ok (.ireturn, 1)) : W p l e room_1 s m #[Value.ref b] below meth c H [] 601024 7293034 (lw_Z below #[Value.ref b] s) (F0 m pc ls [.int 1]) := by
  intro T hT X
  obtain ⟨fs, hret, hrun, hended, hW, hframe⟩ := X.leave (v := some (.int 1)) (hlocks := hlocks) (fun h => by rw [hr] at h; cases h)
  have hmeth' : T.vm.method? m = some meth := X.method'
  refine ⟨T.setFrames fs, ?_, .returned (some (.int 1)), hrun, hended, rfl, ⟨_, rfl⟩, hW, hframe⟩
  jvm_step X.here [X.here.top, hx, hb, hdg, hmeth', hr, ret, narrow_b1]
  (try refine ⟨rfl, ?_⟩); (try refine ⟨rfl, ?_⟩)
  first | (intro acts; rw [hret _ acts rfl rfl rfl]) | rw [hret _ _ rfl rfl rfl]
  exact Steps.refl _
/-- what holds at the law's entry: the machine, the code, the tables' words (any of lw_tbl by 'hts w (by decide +kernel)'), the script of L ints xs at the cell b, what the Statement gives of the start (any of its parts by flat_of_before) -/
def lw_At (p : Program) (s : State) (m : MethodId) (meth : Method) (c : Code) (b L : Nat) (xs : Nat → Int32) : Prop :=
  p.tables.exec = Jvm.exec ∧ c.code = code ∧ meth.sig.returnType = ret ∧ c.maxLocals = 8 ∧ s.vm.findClass R_law = some m.cls ∧ (∀ w ∈ lw_tbl, w.before #[Value.ref b] s = true) ∧ va_X b L xs s s.heap ∧ b < s.heap.size ∧ meth.locks = false ∧ (Jvm.Cond.and given_1 narrow_1).before #[Value.ref b] s = true
section LAWR
variable {Z : gZ} {R : Room} {cc : ByteArray} {nL : Nat} {own : String} {Ts : List Cond} {E : gE} {ad : Nat → Nat} {u : gW} {sz : Nat} {lv : List (Nat × Value)} {cells slots pc : Nat} {st : List Value}
/-- the law's script -/
theorem g_sld {b L : Nat} {xs : Nat → Int32} (C : gC Z cc nL own Ts E) (hX : va_X b L xs (gs Z) (gH Z) ∧ b < (gH Z).size ∧ ¬ gA Z b) {i : Int32} (hin : vp_in i L) (hd : decode cc pc = .ok (.iaload, 1)) (kk : GW Z R nL E ad u sz lv cells slots (pc + 1) (.int (xs i.toNatClampNeg) :: st)) : GW Z R nL E ad u sz lv cells slots pc (.int i :: .ref b :: st) := fun H locs ls h1 h2 h3 h4 h5 =>
  va_sld C.1 C.2.1 hX.1 hX.2.1 hX.2.2 h4 hin hd (kk H locs ls h1 h2 h3 h4 h5)
theorem g_slen {b L : Nat} {xs : Nat → Int32} (C : gC Z cc nL own Ts E) (hX : va_X b L xs (gs Z) (gH Z) ∧ b < (gH Z).size ∧ ¬ gA Z b) (hd : decode cc pc = .ok (.arraylength, 1)) (kk : GW Z R nL E ad u sz lv cells slots (pc + 1) (.int (nI L) :: st)) : GW Z R nL E ad u sz lv cells slots pc (.ref b :: st) := fun H locs ls h1 h2 h3 h4 h5 =>
  va_slen C.1 C.2.1 hX.1 hX.2.1 hX.2.2 h4 hd (kk H locs ls h1 h2 h3 h4 h5)
/-- the law's end -/
theorem g_lawend {b : Nat} (C : gC Z code 8 own Ts E) (hr : (gme Z).sig.returnType = ret) (hQ : gQ Z = lw_Z (gb Z) #[.ref b] (gs Z)) (ha : ga Z = #[.ref b]) (hA : ∀ q, gA Z q → (gs Z).heap.size ≤ q) (h1 : cells ≤ 601024) (h2 : slots ≤ 7293034) (hd : decode code pc = .ok (.ireturn, 1)) : GW Z room_1 8 E ad u sz lv cells slots pc [.int 1] := by
  intro H locs ls g1 g2 g3 g4 g5
  refine va_forget (fun q hq => hA _ (g4.2.2 q hq)) (W.widen h1 h2 ?_)
  rw [hQ, ha]
  exact lw_ret C.1 C.2.1 hr C.2.2.2.2.2.2.2.1 hd
/-- addresses of names that are not in use may be set anew -/
theorem gP_ad {ad' : Nat → Nat} {H : Heap} (h : ∀ n, u n ≠ none → ad' n = ad n) (hP : gP E ad u H) : gP E ad' u H :=
  ⟨fun n e hn => by rw [h n (by rw [hn]; simp)]; exact hP.1 n e hn, fun n k p q e => hP.2 n k p q (by rw [← h n p, ← h k q]; exact e)⟩
theorem g_ad {ad' : Nat → Nat} (h : ∀ n, u n ≠ none → ad' n = ad n) (k : GW Z R nL E ad' u sz lv cells slots pc st) : GW Z R nL E ad u sz lv cells slots pc st := fun H locs ls h1 h2 h3 h4 h5 =>
  k H locs ls h1 (gP_ad h h2) (fun n hn => by rw [h n hn]; exact h3 n hn) h4 h5
end LAWR
theorem mW_ad {X : gX} {ad ad' : Nat → Nat} {m : Nat} {M : mM} {u : gW} (hu : ∀ n, u n ≠ none → ad' n = ad n) (h : mW X ad m M u) : mW X ad' m M u := by
  have E : ∀ j, u (m + j) ≠ none → ad' (m + j) = ad (m + j) := fun j q => hu _ q
  refine ⟨?_, h.2⟩
  have h0 := h.1
  unfold mO at h0 ⊢
  rw [E 1 (by rw [mW_1 h]; simp), E 2 (by rw [mW_2 h]; simp), E 3 (by rw [mW_3 h]; simp), E 4 (by rw [mW_4 h]; simp), E 5 (by rw [mW_5 h]; simp), E 6 (by rw [mW_6 h]; simp), E 7 (by rw [mW_7 h]; simp), E 8 (by rw [mW_8 h]; simp), E 9 (by rw [mW_9 h]; simp), E 10 (by rw [mW_10 h]; simp), E 11 (by rw [mW_11 h]; simp), E 12 (by rw [mW_12 h]; simp), E 13 (by rw [mW_13 h]; simp), E 14 (by rw [mW_14 h]; simp), E 15 (by rw [mW_15 h]; simp), E 16 (by rw [mW_16 h]; simp), E 17 (by rw [mW_17 h]; simp), E 18 (by rw [mW_18 h]; simp), E 19 (by rw [mW_19 h]; simp), E 20 (by rw [mW_20 h]; simp), E 21 (by rw [mW_21 h]; simp), E 22 (by rw [mW_22 h]; simp), E 23 (by rw [mW_23 h]; simp), E 24 (by rw [mW_24 h]; simp), E 25 (by rw [mW_25 h]; simp)]
  exact h0
theorem kD_ad {X : gX} {ad ad' : Nat → Nat} {x : Nat} {M : mM} {u : gW} {nC nB : Nat} (hu : ∀ n, u n ≠ none → ad' n = ad n) (h : kD X ad x M u nC nB) : kD X ad' x M u nC nB := by
  obtain ⟨h0, ⟨h1, h2, h3⟩, ⟨py, wt, ⟨d0, d1, d2⟩, h5⟩, ⟨sz0, mem, mo, am, ⟨g0, g1, g2, g3⟩⟩, h7, h8, h9, h10⟩ := h
  have e1 : ad' (x + 1) = ad (x + 1) := hu _ (by rw [h2]; simp)
  have e2 : ad' (x + 2) = ad (x + 2) := hu _ (by rw [h3]; simp)
  have e3 : ad' (x + 3) = ad (x + 3) := hu _ (by rw [d0]; simp)
  have e4 : ad' (x + 3 + 1) = ad (x + 3 + 1) := hu _ (by rw [d1]; simp)
  have e5 : ad' (x + 3 + 2) = ad (x + 3 + 2) := hu _ (by rw [d2]; simp)
  have e6 : ad' (x + 6) = ad (x + 6) := hu _ (by rw [g0]; simp)
  have e7 : ad' (x + 6 + 1) = ad (x + 6 + 1) := hu _ (by rw [g1]; simp)
  have e8 : ad' (x + 6 + 2) = ad (x + 6 + 2) := hu _ (by rw [g2]; simp)
  have e9 : ad' (x + 6 + 3) = ad (x + 6 + 3) := hu _ (by rw [g3]; simp)
  have eC : ∀ k, k < nC → ad' (x + 16 * k + 32) = ad (x + 16 * k + 32) := fun k hk => by
    obtain ⟨V, c, -⟩ := h7 k hk
    exact hu _ (by rw [c.1]; simp)
  have eB : ∀ j, j < nB → ad' (x + 4 * j + 128) = ad (x + 4 * j + 128) := fun j hj => by
    obtain ⟨k, V, -, c, -⟩ := h8 j hj
    exact hu _ (by rw [c.1]; simp)
  have eA : cArr ad' x nC = cArr ad x nC := by
    funext k
    unfold cArr
    by_cases hk : k < nC
    · rw [if_pos hk, if_pos hk, eC k hk]
    · rw [if_neg hk, if_neg hk]
  have eD : bArr ad' x nB = bArr ad x nB := by
    funext k
    unfold bArr
    by_cases hk : k < nB
    · rw [if_pos hk, if_pos hk, eB k hk]
    · rw [if_neg hk, if_neg hk]
  have eV : dvW ad' x (M.1 2) = dvW ad x (M.1 2) := by
    unfold dvW
    by_cases hd : M.1 2 = -1
    · rw [if_pos hd, if_pos hd]
    · obtain ⟨k, k1, k2⟩ := h0.2.2.2.2.2.2.2.2.2.2.1 hd
      have h4 := h0.1
      rw [if_neg hd, if_neg hd, k2, nI_clamp (by omega), eC k k1]
  refine ⟨h0, ⟨by rw [e1, e2, e3, e6]; exact h1, by rw [eA]; exact h2, by rw [eD]; exact h3⟩, ⟨py, wt, ⟨by rw [e4, e5, eV]; exact d0, d1, d2⟩, h5⟩, ⟨sz0, mem, mo, am, ⟨by rw [e7, e8, e9]; exact g0, g1, g2, g3⟩⟩, fun k hk => ?_, fun j hj => ?_, h9, h10⟩
  · obtain ⟨V, ⟨c0, c1, c2, c3, c4, c5, c6, c7, c8⟩, b⟩ := h7 k hk
    have f1 := hu _ (show u (x + 16 * k + 32 + 1) ≠ none by rw [c1]; simp)
    have f2 := hu _ (show u (x + 16 * k + 32 + 2) ≠ none by rw [c2]; simp)
    have f3 := hu _ (show u (x + 16 * k + 32 + 3) ≠ none by rw [c3]; simp)
    have f4 := hu _ (show u (x + 16 * k + 32 + 3 + 1) ≠ none by rw [c4]; simp)
    have f5 := hu _ (show u (x + 16 * k + 32 + 3 + 2) ≠ none by rw [c5]; simp)
    have f6 := hu _ (show u (x + 16 * k + 32 + 3 + 3) ≠ none by rw [c6]; simp)
    have f7 := hu _ (show u (x + 16 * k + 32 + 3 + 4) ≠ none by rw [c7]; simp)
    have f8 := hu _ (show u (x + 16 * k + 32 + 3 + 5) ≠ none by rw [c8]; simp)
    exact ⟨V, ⟨by rw [f1, f2, f3]; exact c0, c1, c2, by rw [f4, f5, f6, f7, f8]; exact c3, c4, c5, c6, c7, c8⟩, b⟩
  · obtain ⟨k, V, c, ⟨b0, b1, b2, b3⟩, r⟩ := h8 j hj
    have f1 := hu _ (show u (x + 4 * j + 128 + 1) ≠ none by rw [b1]; simp)
    have f2 := hu _ (show u (x + 4 * j + 128 + 2) ≠ none by rw [b2]; simp)
    have f3 := hu _ (show u (x + 4 * j + 128 + 3) ≠ none by rw [b3]; simp)
    exact ⟨k, V, c, ⟨by rw [f1, f2, f3, eC k c]; exact b0, b1, b2, b3⟩, r⟩
/-- the addresses that the next club and the next bill will have -/
def lwP (ad : Nat → Nat) (x nC nB sz : Nat) : Prop := (∀ o, o < 9 → ad (x + 16 * nC + 32 + o) = sz + o) ∧ ∀ o, o < 4 → ad (x + 4 * nB + 128 + o) = sz + o
def adP (ad : Nat → Nat) (u : gW) (x nC nB sz : Nat) : Nat → Nat := fun n => match u n with
  | none => if x + 128 ≤ n then sz + (n - (x + 4 * nB + 128)) else sz + (n - (x + 16 * nC + 32))
  | some _ => ad n
theorem adP_old {ad : Nat → Nat} {u : gW} {x nC nB sz : Nat} : ∀ n, u n ≠ none → adP ad u x nC nB sz n = ad n := fun n h => by
  unfold adP
  cases e : u n with
  | none => exact absurd e h
  | some v => rfl
theorem adP_new {X : gX} {ad : Nat → Nat} {x : Nat} {M : mM} {u : gW} {nC nB sz : Nat} (h : kD X ad x M u nC nB) : lwP (adP ad u x nC nB sz) x nC nB sz := by
  have hC := h.1.1
  have hB := h.1.2.1
  obtain ⟨-, -, -, -, -, -, h9, h10⟩ := h
  refine ⟨fun o ho => ?_, fun o ho => ?_⟩
  · unfold adP
    rw [h9 nC (Nat.le_refl _) (by omega) o ho]
    show (if _ then _ else _) = _
    rw [if_neg (by omega)]
    omega
  · unfold adP
    rw [h10 nB (Nat.le_refl _) (by omega) o ho]
    show (if _ then _ else _) = _
    rw [if_pos (by omega)]
    omega
/-- what holds all through the law -/
def lwG (Z : gZ) (b L : Nat) (xs : Nat → Int32) (X : gX) : Prop := gC Z c_L_law 8 "ExpenseClubsLaw" gT (EE X) ∧ (va_X b L xs (gs Z) (gH Z) ∧ b < (gH Z).size ∧ ¬ gA Z b) ∧ gThF Z ∧ noTr (gl Z)
/-- the two objects side by side, and the array -/
def lwI (X : gX) (ad : Nat → Nat) (x m o : Nat) (M : mM) (u : gW) (nC nB : Nat) : Prop := kD X ad x M u nC nB ∧ mW X ad m M u ∧ ∃ f : Nat → Int64, u o = some (.inl ((X.2 1), 1, .inr (.inl f)))
abbrev lvL (ad : Nat → Nat) (b x m o i : Nat) : List (Nat × Value) := [(4, .int (nI i)), (3, .ref (ad o)), (2, .ref (ad m)), (1, .ref (ad x)), (0, .ref b)]
def lwN (Z : gZ) (X : gX) (b x m o i cs ss : Nat) : Prop := ∀ (ad : Nat → Nat) (u : gW) (sz : Nat) (M : mM) (nC nB : Nat), lwI X ad x m o M u nC nB → GW Z room_1 8 (EE X) ad u sz (lvL ad b x m o i) cs ss 834 []
theorem lw_in (j : Nat) (v : Int32) {i L : Nat} (hv : v = nI j) (hi : i + j < L) (hL : L ≤ 2560) : vp_in (nI i + v) L := by rw [hv, nI_add]; exact vp_in_nI hi (by omega)
theorem lg_cmp_self (a : Int64) : lg_cmp a a = 0 := by
  unfold lg_cmp
  rw [if_neg (Int64.lt_irrefl), if_pos rfl]
theorem lw_gt {i L : Nat} (hi : i ≤ 2560) (hL : L ≤ 2560) : nI L - 5 < nI i ↔ L < i + 5 := by
  have e : (nI L - 5).toInt = (L : Int) - 5 := by
    rw [Int32.toInt_sub, nI_toInt (by omega), show (5 : Int32).toInt = 5 by decide]
    exact Int.bmod_eq_of_le (by omega) (by omega)
  rw [Int32.lt_iff_toInt_lt, e, nI_toInt (by omega)]
  omega
theorem lw_sw (v : Int32) : ∃ j, j < 32 ∧ v &&& 31 = nI j := by
  obtain ⟨s, -, rfl⟩ := nI_all v
  exact ⟨s &&& 31, Nat.lt_of_le_of_lt Nat.and_le_right (by decide), nI_and s 31⟩
theorem lw_line {X : gX} {ad : Nat → Nat} {x : Nat} {M : mM} {u : gW} {nC nB : Nat} (h : kD X ad x M u nC nB) : M.1 6 = nI (lM M) ∧ lM M ≤ 16 := by
  obtain ⟨-, -, ⟨py, wt, -, L, ⟨h1, h2, -⟩, -⟩, -⟩ := h
  have e : lM M = L := by rw [lM, h2, nI_clamp (by omega)]
  rw [e]
  exact ⟨h2, h1⟩
theorem lw_draft {X : gX} {ad : Nat → Nat} {x : Nat} {M : mM} {u : gW} {nC nB : Nat} (h : kD X ad x M u nC nB) : ∃ py wt, RD M py wt := by
  obtain ⟨-, -, ⟨py, wt, -, h⟩, -⟩ := h
  exact ⟨py, wt, h⟩
