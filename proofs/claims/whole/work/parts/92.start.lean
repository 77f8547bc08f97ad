theorem lw_arr {s : State} {A : Array Value} {ty : FieldType} (h : (Cond.arrayClass ty).before A s = true) : ∃ cA : ClassId, ArrOfT s cA ty ∧ s.vm.findClass ("[" ++ ty.toString) = some cA := by
  obtain ⟨cA, kA, comp, h1, h2, h3⟩ := Cond.arrayClass_spec h
  exact ⟨cA, fun N z => ⟨fun k h => (by cases h), kA, h2, comp, h3⟩, h1⟩
theorem lw_arro {s : State} {A : Array Value} {C : String} (h : (Cond.arrayOver (.object C)).before A s = true) : ∃ cA : ClassId, ArrOfT s cA (.object C) ∧ va_RA s cA (.object C) := by
  obtain ⟨comp, c, k, h1, h2, h3, h4, h5⟩ := Cond.arrayOver_spec h
  exact ⟨c, fun N z => ⟨fun k h => (by cases h), k, h3, comp, h4⟩, k, comp, h3, h4, h1, h5⟩
set_option maxHeartbeats 4000000 in
theorem lw_known {s : State} {A : Array Value} (hts : ∀ w ∈ lw_tbl, w.before A s = true) : ∃ X : gX, va_K (EE X).1 (EE X).2.1 (EE X).2.2 s := by
  have htg : ∀ w ∈ gT, w.before A s = true := fun w h => hts w (gT_of h)
  obtain ⟨c0, i0, h0⟩ := u_known (C := "ExpenseClubs$Bill") (T := T_B) (N := 6) (n := 6) htg i_B (hts _ wd_275)
  obtain ⟨c1, i1, h1⟩ := u_known (C := "ExpenseClubs$Club") (T := T_C) (N := 6) (n := 6) htg i_C (hts _ wd_104)
  obtain ⟨c2, i2, h2⟩ := u_known (C := "ExpenseClubs$Draft") (T := T_D) (N := 7) (n := 7) htg i_D (hts _ wd_28)
  obtain ⟨c3, i3, h3⟩ := u_known (C := "ExpenseClubs$Grouping") (T := T_G) (N := 4) (n := 4) htg i_G (hts _ wd_62)
  obtain ⟨c4, i4, h4⟩ := u_known (C := "ExpenseClubs$Settlement") (T := T_S) (N := 9) (n := 9) htg i_S (hts _ wd_110)
  obtain ⟨c5, i5, h5⟩ := u_known (C := "ExpenseClubs") (T := T_X) (N := 6) (n := 6) htg i_X (hts _ wd_16)
  obtain ⟨c6, i6, h6⟩ := u_known (C := "ExpenseClubsModel") (T := T_M) (N := 33) (n := 33) htg i_M (hts _ wd_513)
  obtain ⟨a0, p0, q0⟩ := lw_arr (hts _ wd_80)
  obtain ⟨a1, p1, q1⟩ := lw_arr (hts _ wd_60)
  obtain ⟨a2, p2, q2⟩ := lw_arr (hts _ wd_159)
  obtain ⟨a3, p3, q3⟩ := lw_arro (hts _ wd_24)
  obtain ⟨a4, p4, q4⟩ := lw_arro (hts _ wd_26)
  refine ⟨((fun k => match k with
    | 0 => c0
    | 1 => c1
    | 2 => c2
    | 3 => c3
    | 4 => c4
    | 5 => c5
    | _ => c6,
    fun k => match k with
    | 0 => i0
    | 1 => i1
    | 2 => i2
    | 3 => i3
    | 4 => i4
    | 5 => i5
    | _ => i6),
    fun k => match k with
    | 0 => a0
    | 1 => a1
    | 2 => a2
    | 3 => a3
    | _ => a4), ⟨fun k q hq => ?_, fun k q hq => ?_⟩⟩
  · match k, hq with
    | 0, hq => cases hq; exact h0
    | 1, hq => cases hq; exact h1
    | 2, hq => cases hq; exact h2
    | 3, hq => cases hq; exact h3
    | 4, hq => cases hq; exact h4
    | 5, hq => cases hq; exact h5
    | 6, hq => cases hq; exact h6
    | k + 7, hq => simp [gCl] at hq
  · match k, hq with
    | 0, hq => cases hq; exact ⟨p0, q0⟩
    | 1, hq => cases hq; exact ⟨p1, q1⟩
    | 2, hq => cases hq; exact ⟨p2, q2⟩
    | 3, hq => cases hq; exact ⟨p3, q3⟩
    | 4, hq => cases hq; exact ⟨p4, q4⟩
    | k + 5, hq => simp at hq
theorem lw_nest {s : State} {A : Array Value} (hts : ∀ w ∈ lw_tbl, w.before A s = true) : gN s := by
  refine ⟨fun q hq => ?_, va_AO.of (hts _ wd_24), va_AO.of (hts _ wd_26)⟩
  simp only [gNestL, List.mem_cons, List.not_mem_nil, or_false] at hq
  rcases hq with rfl | rfl | rfl | rfl | rfl | rfl | rfl
  · exact va_Nw.of rfl (hts _ wd_29)
  · exact va_Nw.of rfl (hts _ wd_63)
  · exact va_Nw.of rfl (hts _ wd_105)
  · exact va_Nw.of rfl (hts _ wd_111)
  · exact va_Nw.of rfl (hts _ wd_261)
  · exact va_Nw.of rfl (hts _ wd_313)
  · exact va_Nw.of rfl (hts _ wd_322)
theorem lw_str {s : State} {A : Array Value} {cls text : String} {idx : Nat} {c : ClassId} (hc : s.vm.findClass cls = some c) (h : (Cond.stringRef cls idx text).before A s = true) : strR s cls idx := by
  obtain ⟨k, cf, i, a, hk, hcf, hcp, -, hr, -⟩ := Cond.stringRef_spec hc h
  exact ⟨c, k, cf, i, a, hc, hk, hcf, hcp, hr⟩
set_option maxHeartbeats 4000000 in
set_option maxRecDepth 100000 in
theorem lw_Th {s : State} {A : Array Value} (hts : ∀ w ∈ lw_tbl, w.before A s = true) (hgv : (Jvm.Cond.and given_1 narrow_1).before A s = true) : gTh s := by
  have hs := flat_of_before _ hgv
  obtain ⟨cE, kE, hE, -⟩ := Cond.instantiable_spec (hts _ wd_16)
  refine ⟨fun c hc => ?_, lw_str hE (hts _ wd_469), lw_str hE (hts _ wd_505), ?_⟩
  · unfold thL at hc
    simp only [List.mem_cons, List.not_mem_nil, or_false] at hc
    rcases hc with rfl | rfl | rfl | rfl | rfl | rfl | rfl | rfl | rfl
    · exact (hs isU (by decide +kernel) : _)
    · exact (hs isS (by decide +kernel) : _)
    · exact (hts _ wd_456 : _)
    · exact (hts _ wd_458 : _)
    · exact (hts _ wd_433 : _)
    · exact (hts _ wd_435 : _)
    · exact (hts _ wd_437 : _)
    · exact (hts _ wd_431 : _)
    · exact (hts _ wd_498 : _)
  · exact (hs (.not (.castable "java/lang/IllegalArgumentException" "java/lang/IndexOutOfBoundsException")) (by decide +kernel) : _)
theorem lw_noTr {l : Launch} (hf : l.flags = flags0) : noTr l := fun e ha => by
  obtain ⟨-, -, -, -, hp, -⟩ := ha
  rw [hp]
  show l.stackTraces = false
  unfold Launch.stackTraces
  rw [hf]
  decide +kernel
/-- the state at the start -/
def M00 : mM := (fun k => if k = 2 then -1 else 0, fun _ _ => 0, fun _ _ => 0)
theorem lw_R0 : R0 M00 0 0 := by
  refine ⟨by decide, by decide, rfl, rfl, fun k _ => ⟨0, by decide, rfl⟩, fun k _ => ⟨0, by decide, rfl⟩, fun k _ => ⟨0, by decide, rfl⟩, fun b hb => absurd hb (by omega), fun j => vp_in_nI (n := 0) (by decide) (by decide), fun j => vp_in_nI (n := 0) (by decide) (by decide), fun h => absurd rfl h, rfl, fun k _ _ => ⟨rfl, rfl, rfl, rfl, rfl, fun j _ => ⟨rfl, rfl, rfl⟩⟩⟩
theorem lw_RD : RD M00 (fun _ => 0) (fun _ => 0) := by
  refine ⟨0, ⟨by decide, rfl, fun i h => absurd h (by omega)⟩, fun j _ => ⟨0, by decide, rfl, rfl⟩, fun j _ => ⟨0, by decide, rfl⟩, fun j _ => ?_, fun h => absurd rfl h⟩
  show (0 : Int64) = heaV 0 _ _ _ 0 j
  rw [heaV, if_neg (by decide)]
  rfl
set_option maxHeartbeats 4000000 in
theorem lw_init {X : gX} {ad : Nat → Nat} {x m o : Nat} {u : gW} (h0 : u x = some (.inr (5, [.ref (ad (x + 1)), .ref (ad (x + 2)), .ref (ad (x + 3)), .ref (ad (x + 6)), .int 0, .int 0])))
    (h1 : u (x + 1) = some (.inl ((X.2 3), 4, .inr (.inr (.inr (.inr (fun _ => none))))))) (h2 : u (x + 2) = some (.inl ((X.2 4), 64, .inr (.inr (.inr (.inr (fun _ => none)))))))
    (h3 : u (x + 3) = some (.inr (2, [.ref (ad (x + 3 + 1)), .ref (ad (x + 3 + 2)), .null, .int 0, .int 0, .int 0, .int 0]))) (h4 : u (x + 3 + 1) = some (.inl ((X.2 1), 12, .inr (.inl (fun _ => 0))))) (h5 : u (x + 3 + 2) = some (.inl ((X.2 1), 12, .inr (.inl (fun _ => 0)))))
    (h6 : u (x + 6) = some (.inr (3, [.ref (ad (x + 6 + 1)), .ref (ad (x + 6 + 2)), .ref (ad (x + 6 + 3)), .int 0]))) (h7 : u (x + 6 + 1) = some (.inl ((X.2 0), 12, .inl (fun _ => 0)))) (h8 : u (x + 6 + 2) = some (.inl ((X.2 1), 12, .inr (.inl (fun _ => 0))))) (h9 : u (x + 6 + 3) = some (.inl ((X.2 0), 4096, .inl (fun _ => 0))))
    (hm : u m = some (mO ad m 0 0 (-1) 0 0 0 0 0)) (hA : ∀ j, 1 ≤ j → j ≤ 25 → u (m + j) = some (mA X j)) (ho : u o = some (.inl ((X.2 1), 1, .inr (.inl (fun _ => 0))))) (hf : ∀ n, x + 10 ≤ n → n < x + 512 → u n = none) : lwI X ad x m o M00 u 0 0 := by
  have eC : cArr ad x 0 = fun _ => none := by funext k; exact if_neg (by omega)
  have eB : bArr ad x 0 = fun _ => none := by funext k; exact if_neg (by omega)
  have eD : dvW ad x (M00.1 2) = .null := if_pos rfl
  refine ⟨⟨lw_R0, ⟨h0, by rw [eC]; exact h1, by rw [eB]; exact h2⟩, ⟨fun _ => 0, fun _ => 0, ⟨by rw [eD]; exact h3, h4, h5⟩, lw_RD⟩, ⟨0, fun _ => 0, fun _ => 0, fun _ => 0, h6, h7, h8, h9⟩, fun k hk => absurd hk (by omega), fun j hj => absurd hj (by omega), fun k _ hk q hq => hf _ (by omega) (by omega), fun j _ hj q hq => hf _ (by omega) (by omega)⟩, ⟨hm, ?_, ?_, ?_, ?_, ?_, ?_, ?_, ?_, ?_, ?_, ?_, ?_, ?_, ?_, ?_, ?_, ?_, ?_, ?_, ?_, ?_, ?_, ?_, ?_, ?_⟩, ⟨_, ho⟩⟩
  · exact hA 1 (by omega) (by omega)
  · exact hA 2 (by omega) (by omega)
  · exact hA 3 (by omega) (by omega)
  · exact hA 4 (by omega) (by omega)
  · exact hA 5 (by omega) (by omega)
  · exact hA 6 (by omega) (by omega)
  · exact hA 7 (by omega) (by omega)
  · exact hA 8 (by omega) (by omega)
  · exact hA 9 (by omega) (by omega)
  · exact hA 10 (by omega) (by omega)
  · exact hA 11 (by omega) (by omega)
  · exact hA 12 (by omega) (by omega)
  · exact hA 13 (by omega) (by omega)
  · exact hA 14 (by omega) (by omega)
  · exact hA 15 (by omega) (by omega)
  · exact hA 16 (by omega) (by omega)
  · exact hA 17 (by omega) (by omega)
  · exact hA 18 (by omega) (by omega)
  · exact hA 19 (by omega) (by omega)
  · exact hA 20 (by omega) (by omega)
  · exact hA 21 (by omega) (by omega)
  · exact hA 22 (by omega) (by omega)
  · exact hA 23 (by omega) (by omega)
  · exact hA 24 (by omega) (by omega)
  · exact hA 25 (by omega) (by omega)
