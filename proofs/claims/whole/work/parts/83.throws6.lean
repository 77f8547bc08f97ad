/-! transfer that throws, over the whole object -/
theorem t_X_transfer_io (l : Launch) (X : gX) (ad : Nat → Nat) (u : gW) (sz x : Nat) (M : mM) (nC nB : Nat) (c i w : Int32) (h : kD X ad x M u nC nB) (h0 : th_tr M c i w = 1) (htr : noTr l) : gMetT l (EE X) y_X_transfer c_X_transfer 5 (some .long) ({ frames := 6, cells := 1, slots := 6, locals := 82 }) [.ref (ad x), .int c, .int i, .int w] ad u sz "java/lang/IndexOutOfBoundsException" := by
  obtain ⟨⟨r1, r2, r3, r4, -⟩, ⟨h1, h2, h3⟩, -, -, h7, -⟩ := h
  have hf : isTr (M.1 1) (M.2.1 16) (M.2.1 19) c i = false := by
    rw [th_tr, thrM] at h0
    cases e : isTr (M.1 1) (M.2.1 16) (M.2.1 19) c i with
    | false => rfl
    | true =>
      rw [e, if_neg (by decide)] at h0
      cases e2 : (!decide (w < 0) && decide (w ≤ 3)) <;> rw [e2] at h0 <;> exact absurd h0 (by decide)
  by_cases hb : isMb c (nI nC) = true
  · obtain ⟨k, hk, rfl⟩ := isMb_nat (by omega) hb
    obtain ⟨V, hV, hR⟩ := h7 k hk
    rw [tr_eq hk r1 r3 hR] at hf
    exact k_X_transfer_io l X ad u sz x nC nB k _ _ _ _ _ _ _ i w h1 h2 hV.1 hV.2.2.2.1 hk r1 hf htr
  · exact k_X_transfer_io_no l X ad u sz x nC nB c i w h1 h2 (isMb_ff hb) htr
theorem t_X_transfer_ia (l : Launch) (X : gX) (ad : Nat → Nat) (u : gW) (sz x : Nat) (M : mM) (nC nB : Nat) (c i w : Int32) (h : kD X ad x M u nC nB) (h0 : th_tr M c i w = 2) (htr : noTr l) : gMetT l (EE X) y_X_transfer c_X_transfer 5 (some .long) ({ frames := 6, cells := 1, slots := 6, locals := 82 }) [.ref (ad x), .int c, .int i, .int w] ad u sz "java/lang/IllegalArgumentException" := by
  obtain ⟨⟨r1, r2, r3, r4, -⟩, ⟨h1, h2, h3⟩, -, -, h7, -⟩ := h
  have hf : isTr (M.1 1) (M.2.1 16) (M.2.1 19) c i = true ∧ (!decide (w < 0) && decide (w ≤ 3)) = false := by
    rw [th_tr, thrM] at h0
    cases e : isTr (M.1 1) (M.2.1 16) (M.2.1 19) c i with
    | false => rw [e, if_pos rfl] at h0; exact absurd h0 (by decide)
    | true =>
      rw [e, if_neg (by decide)] at h0
      cases e2 : (!decide (w < 0) && decide (w ≤ 3)) with
      | false => exact ⟨rfl, rfl⟩
      | true => rw [e2] at h0; exact absurd h0 (by decide)
  have hb : isMb c (nI nC) = true := by
    have := hf.1
    rw [isTr, Bool.and_eq_true, r3] at this; exact this.1
  obtain ⟨k, hk, rfl⟩ := isMb_nat (by omega) hb
  obtain ⟨V, hV, hR⟩ := h7 k hk
  rw [tr_eq hk r1 r3 hR] at hf
  refine k_X_transfer_ia l X ad u sz x nC nB k _ _ _ _ _ _ _ i w h1 h2 hV.1 hV.2.2.2.1 hk r1 hf.1 ⟨?_, ?_, ?_, ?_⟩ htr <;> (rintro rfl; exact absurd hf.2 (by decide))
/-! from the throw to the handler -/
section FH
variable {Q : Handler → Pre} {Ec : CtlPost} {e : Env} {d : Bool} {acts : List Action} {s : State} {f : JFrame} {a : Addr}
theorem fh_yes {x : ExceptionTableEntry} {t : List ExceptionTableEntry} {c : ClassId} {cell : Cell} (hx : covers x f.pc = true) (h0 : x.catchType ≠ 0) (hl : s.vm.ClassLinks e.platform f.method.cls x.catchType c) (hcell : s.heap[a]? = some cell) (hobj : ∀ k, cell.vm ≠ .statics k) (hk : ∃ k, s.vm.classes[cell.cls]? = some k) (hc : ∃ k, s.vm.classes[c]? = some k) (hfit : s.vm.assignable cell.cls c = true) :
    wp (findHandler.go f a (x :: t)) Q Ec e d acts s ↔ Q (.found x.handlerPc) d acts (s.setVm (s.vm.noted f.method.cls x.catchType (.cls c))) := by
  simp only [covers] at hx
  obtain ⟨g1, g2⟩ := (resolveClass_links e.toSetting hl).op (op := VmOp.resolveClass f.method.cls x.catchType) rfl
  have hal : s.vm.Alike (s.vm.noted f.method.cls x.catchType (.cls c)) := (Vm.Alike.refl s.vm).noted _ _ _
  obtain ⟨k1, e1⟩ := hk
  obtain ⟨k2, e2⟩ := hc
  obtain ⟨k1', e1', -⟩ := hal.2.2 _ _ e1
  obtain ⟨k2', e2', -⟩ := hal.2.2 _ _ e2
  have hf : (s.vm.noted f.method.cls x.catchType (.cls c)).assignable cell.cls c = true := by rw [hal.assignable]; exact hfit
  simp [findHandler.go, hx, h0, g1, g2, hcell, hobj, e1', e2', hf, VmOp.dirties, VmOp.acts]
theorem fh_no {x : ExceptionTableEntry} {t : List ExceptionTableEntry} {c : ClassId} {cell : Cell} (hx : covers x f.pc = true) (h0 : x.catchType ≠ 0) (hl : s.vm.ClassLinks e.platform f.method.cls x.catchType c) (hcell : s.heap[a]? = some cell) (hobj : ∀ k, cell.vm ≠ .statics k) (hk : ∃ k, s.vm.classes[cell.cls]? = some k) (hc : ∃ k, s.vm.classes[c]? = some k) (hfit : s.vm.assignable cell.cls c = false) :
    wp (findHandler.go f a (x :: t)) Q Ec e d acts s ↔ wp (findHandler.go f a t) Q Ec e d acts (s.setVm (s.vm.noted f.method.cls x.catchType (.cls c))) := by
  simp only [covers] at hx
  obtain ⟨g1, g2⟩ := (resolveClass_links e.toSetting hl).op (op := VmOp.resolveClass f.method.cls x.catchType) rfl
  have hal : s.vm.Alike (s.vm.noted f.method.cls x.catchType (.cls c)) := (Vm.Alike.refl s.vm).noted _ _ _
  obtain ⟨k1, e1⟩ := hk
  obtain ⟨k2, e2⟩ := hc
  obtain ⟨k1', e1', -⟩ := hal.2.2 _ _ e1
  obtain ⟨k2', e2', -⟩ := hal.2.2 _ _ e2
  have hf : (s.vm.noted f.method.cls x.catchType (.cls c)).assignable cell.cls c = false := by rw [hal.assignable]; exact hfit
  simp [findHandler.go, hx, h0, g1, g2, hcell, hobj, e1', e2', hf, VmOp.dirties, VmOp.acts]
end FH
