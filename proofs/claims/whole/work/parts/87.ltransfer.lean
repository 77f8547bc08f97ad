abbrev c_L_transfer : ByteArray := method_3_code
abbrev c_L_law : ByteArray := code
def y_L_transfer : MethodName := ⟨"ExpenseClubsLaw", "transfer", "(LExpenseClubs;III[J)I"⟩
def hhL : List (Nat × Nat × Nat × Nat) := [(0, 11, 14, 13), (0, 11, 18, 15)]
theorem d_L_transfer_0 : decode c_L_transfer 0 = .ok (.aload 4, 2) := by decide +kernel
theorem d_L_transfer_2 : decode c_L_transfer 2 = .ok (.iconst 0, 1) := by decide +kernel
theorem d_L_transfer_3 : decode c_L_transfer 3 = .ok (.aload_n 0, 1) := by decide +kernel
theorem d_L_transfer_4 : decode c_L_transfer 4 = .ok (.iload_n 1, 1) := by decide +kernel
theorem d_L_transfer_5 : decode c_L_transfer 5 = .ok (.iload_n 2, 1) := by decide +kernel
theorem d_L_transfer_6 : decode c_L_transfer 6 = .ok (.iload_n 3, 1) := by decide +kernel
theorem d_L_transfer_7 : decode c_L_transfer 7 = .ok (.invokevirtual 7, 3) := by decide +kernel
theorem d_L_transfer_10 : decode c_L_transfer 10 = .ok (.lastore, 1) := by decide +kernel
theorem d_L_transfer_11 : decode c_L_transfer 11 = .ok (.goto 11, 3) := by decide +kernel
theorem d_L_transfer_14 : decode c_L_transfer 14 = .ok (.astore 5, 2) := by decide +kernel
theorem d_L_transfer_16 : decode c_L_transfer 16 = .ok (.iconst 1, 1) := by decide +kernel
theorem d_L_transfer_17 : decode c_L_transfer 17 = .ok (.ireturn, 1) := by decide +kernel
theorem d_L_transfer_18 : decode c_L_transfer 18 = .ok (.astore 5, 2) := by decide +kernel
theorem d_L_transfer_20 : decode c_L_transfer 20 = .ok (.iconst 2, 1) := by decide +kernel
theorem d_L_transfer_21 : decode c_L_transfer 21 = .ok (.ireturn, 1) := by decide +kernel
theorem d_L_transfer_22 : decode c_L_transfer 22 = .ok (.iconst 0, 1) := by decide +kernel
theorem d_L_transfer_23 : decode c_L_transfer 23 = .ok (.ireturn, 1) := by decide +kernel
theorem thr3 (M : mM) (c i w : Int32) : th_tr M c i w = 0 ∨ th_tr M c i w = 1 ∨ th_tr M c i w = 2 := by
  rw [th_tr, thrM]
  split
  · exact Or.inr (Or.inl rfl)
  · split
    · exact Or.inr (Or.inr rfl)
    · exact Or.inl rfl
theorem cast_sp {U : State} {a b : String} {ca cb : ClassId} (ha : U.vm.findClass a = some ca) (hb : U.vm.findClass b = some cb) (h : (Cond.castable a b).before #[] U = true) : U.vm.assignable ca cb = true := by
  obtain ⟨c3, c4, h3, h4, h5⟩ := Cond.castable_spec h
  cases Option.some.inj (h3.symm.trans ha)
  cases Option.some.inj (h4.symm.trans hb)
  exact h5
theorem nocast_sp {U : State} {a b : String} {ca cb : ClassId} (ha : U.vm.findClass a = some ca) (hb : U.vm.findClass b = some cb) (h : (Cond.not (.castable a b)).before #[] U = true) : U.vm.assignable ca cb = false := by
  simp only [Cond.before, Cond.holds, Cond.value, ha, hb] at h
  cases e : U.vm.assignable ca cb with
  | false => rfl
  | true => rw [e] at h; simp at h
def postL (X : gX) (ad : Nat → Nat) (x o : Nat) (M : mM) (c i w : Int32) (u : gW) : Option Value → gW → Nat → Prop := fun v u' _ => v = some (.int (th_tr M c i w)) ∧ (∃ nC nB, kD X ad x (sI M 0 (th_tr M c i w)) u' nC nB) ∧ (∃ f : Nat → Int64, u' o = some (.inl ((X.2 1), 1, .inr (.inl f))) ∧ (th_tr M c i w = 0 → f 0 = a_tr M c i w)) ∧ ∀ n, x + 512 ≤ n → n ≠ o → u' n = u n
set_option maxHeartbeats 4000000 in
set_option maxRecDepth 100000 in
theorem t_L_transfer (l : Launch) (X : gX) (ad : Nat → Nat) (u : gW) (sz x o : Nat) (M : mM) (nC nB : Nat) (c i w : Int32) (f : Nat → Int64) (h : kD X ad x M u nC nB) (ho : u o = some (.inl ((X.2 1), 1, .inr (.inl f)))) (hxo : x + 512 ≤ o) (htr : noTr l) : gMetW l (EE X) y_L_transfer c_L_transfer 6 (some .int) hhL ({ frames := 7, cells := 1, slots := 6, locals := 106 }) [.ref (ad x), .int c, .int i, .int w, .ref (ad o)] ad u sz (postL X ad x o M c i w u) := by
  refine gMetW_of "ExpenseClubsLaw" rfl (by decide) (Nat.le_of_ble_eq_true rfl) (lv := [(0, .ref (ad x)), (1, .int c), (2, .int i), (3, .int w), (4, .ref (ad o))]) rfl (fun Z hZl C hR hret D => ?_)
  have hTF := gRW_ThF D hR.2
  have hx := h.2.1.1
  refine g_aload C d_L_transfer_0 4 rfl ?_
  refine g_iconst (v := 0) C d_L_transfer_2 (by decide) ?_
  refine g_aload_n C d_L_transfer_3 rfl 0 rfl ?_
  refine g_iload_n C d_L_transfer_4 rfl 1 rfl ?_
  refine g_iload_n C d_L_transfer_5 rfl 2 rfl ?_
  refine g_iload_n C d_L_transfer_6 rfl 3 rfl ?_
  have htab : (gc Z).exceptionTable.toList = [⟨0, 11, 14, 13⟩, ⟨0, 11, 18, 15⟩] := D.2.2.2.2
  have hTh := D.2.2.2.1
  rcases thr3 M c i w with h0 | h0 | h0
  · refine g_callV 3 C (t_X_transfer_ok _ X ad u sz x M nC nB c i w h h0) (gmem wd_425 rfl) (gmem wd_426 rfl) (gmem wd_427 rfl) (gmem wd_1 rfl) (gmem wd_428 rfl) ⟨by decide, by decide, by decide +kernel⟩ ⟨Nat.le_of_ble_eq_true rfl, Nat.le_of_ble_eq_true rfl⟩ hx rfl rfl rfl (Nat.le_of_ble_eq_true rfl) d_L_transfer_7 ⟨Nat.le_of_ble_eq_true rfl, Nat.le_of_ble_eq_true rfl⟩ ?_
    rintro v9 u9 s9 ⟨h9, ⟨nC9, nB9, k9⟩, f9⟩
    rw [h9]
    have ho9 : u9 o = some (.inl ((X.2 1), 1, .inr (.inl f))) := (f9 o hxo).trans ho
    show GW Z _ _ _ ad u9 s9 [(0, .ref (ad x)), (1, .int c), (2, .int i), (3, .int w), (4, .ref (ad o))] 0 0 10 [.long (a_tr M c i w), .int 0, .ref (ad o)]
    refine g_last o 1 C ho9 rfl (vp_in_nI (n := 0) (by decide) (by decide)) d_L_transfer_10 ?_
    refine g_goto 22 C d_L_transfer_11 (by decide) ?_
    refine g_iconst (v := 0) C d_L_transfer_22 (by decide) ?_
    refine g_widen (k := 1) (n := 6) (by decide) (by decide) ?_
    refine g_iret C hR hret ⟨by rw [h0], ⟨nC9, nB9, by rw [h0]; exact kD_fr k9 fun n p q => gup_ne (by omega)⟩, ⟨_, gup_self _ _ _, fun _ => updL_s _ _ _⟩, fun n p q => by rw [gup_ne q]; exact f9 n p⟩ d_L_transfer_23
  · refine g_callVT 3 C (t_X_transfer_io _ X ad u sz x M nC nB c i w h h0 (by rw [hZl]; exact htr)) (gmem wd_425 rfl) (gmem wd_426 rfl) (gmem wd_427 rfl) (gmem wd_1 rfl) (gmem wd_428 rfl) ⟨by decide, by decide, by decide +kernel⟩ ⟨Nat.le_of_ble_eq_true rfl, Nat.le_of_ble_eq_true rfl⟩ hx rfl rfl rfl (Nat.le_of_ble_eq_true rfl) d_L_transfer_7 ⟨Nat.le_of_ble_eq_true rfl, Nat.le_of_ble_eq_true rfl⟩ hTF 14 (fun T locs cs ss a ce ls XX hc1 hc2 hc3 => ?_) (fun sz1 a => ?_)
    · exact st_take1 XX a (g := F0 (gm Z) 7 ls [.int 0, .ref (ad o)]) rfl C.2.2.2.1 ⟨0, 11, 14, 13⟩ _ htab (by rfl) (by decide) (C.2.2.2.2.1 _ (gmem wd_423 rfl)) hc3 hc1 hc2 (cast_sp hc3 hc3 (hTh.1 _ (List.mem_of_getElem? (i := 7) rfl)))
    · refine g_astore C d_L_transfer_14 [(5, .ref a), (0, .ref (ad x)), (1, .int c), (2, .int i), (3, .int w), (4, .ref (ad o))] (by decide) rfl ?_
      refine g_iconst (v := 1) C d_L_transfer_16 (by decide) ?_
      exact g_iret C hR hret ⟨by rw [h0], ⟨nC, nB, kD_th _ h⟩, ⟨f, ho, fun q => absurd (h0.symm.trans q) (by decide)⟩, fun _ _ _ => rfl⟩ d_L_transfer_17
  · refine g_callVT 3 C (t_X_transfer_ia _ X ad u sz x M nC nB c i w h h0 (by rw [hZl]; exact htr)) (gmem wd_425 rfl) (gmem wd_426 rfl) (gmem wd_427 rfl) (gmem wd_1 rfl) (gmem wd_428 rfl) ⟨by decide, by decide, by decide +kernel⟩ ⟨Nat.le_of_ble_eq_true rfl, Nat.le_of_ble_eq_true rfl⟩ hx rfl rfl rfl (Nat.le_of_ble_eq_true rfl) d_L_transfer_7 ⟨Nat.le_of_ble_eq_true rfl, Nat.le_of_ble_eq_true rfl⟩ hTF 18 (fun T locs cs ss a ce ls XX hc1 hc2 hc3 => ?_) (fun sz1 a => ?_)
    · obtain ⟨cI, kI, hI1, -⟩ := Cond.instantiable_spec (C.2.2.2.2.1 _ (gmem wd_430 rfl))
      exact st_take2 XX a (g := F0 (gm Z) 7 ls [.int 0, .ref (ad o)]) rfl C.2.2.2.1 ⟨0, 11, 14, 13⟩ ⟨0, 11, 18, 15⟩ _ htab (by rfl) (by decide) (by rfl) (by decide) (C.2.2.2.2.1 _ (gmem wd_423 rfl)) (C.2.2.2.2.1 _ (gmem wd_424 rfl)) hI1 hc3 hc1 hc2 (nocast_sp hc3 hI1 hTh.2.2.2) (cast_sp hc3 hc3 (hTh.1 _ (List.mem_of_getElem? (i := 8) rfl)))
    · refine g_astore C d_L_transfer_18 [(5, .ref a), (0, .ref (ad x)), (1, .int c), (2, .int i), (3, .int w), (4, .ref (ad o))] (by decide) rfl ?_
      refine g_iconst (v := 2) C d_L_transfer_20 (by decide) ?_
      exact g_iret C hR hret ⟨by rw [h0], ⟨nC, nB, kD_th _ h⟩, ⟨f, ho, fun q => absurd (h0.symm.trans q) (by decide)⟩, fun _ _ _ => rfl⟩ d_L_transfer_21