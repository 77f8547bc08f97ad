/-! the words about throwables, at a later state -/
theorem stat_eval {S U : State} {cls name desc : String} {v : Value} (hv : S.vm = U.vm) (hst : stK S.heap U.heap) (h : (Term.static cls name desc).eval #[] S none [] S = some v) : (Term.static cls name desc).eval #[] U none [] U = some v := by
  have e : S.fieldNamed? cls name desc true = U.fieldNamed? cls name desc true := by
    unfold State.fieldNamed? State.fieldFound?
    rw [hv]
  simp only [Term.eval] at h ⊢
  rw [← e]
  cases hf : S.fieldNamed? cls name desc true with
  | none => rw [hf] at h; cases h
  | some q =>
    rw [hf] at h
    obtain ⟨q1, k, slot⟩ := q
    cases hs : k.statics with
    | none => simp [hs] at h
    | some a =>
      cases hc : S.heap[a]? with
      | none => simp [hs, hc] at h
      | some cell =>
        simp [hs, hc] at h
        simp [hs, hst a cell hc h.1]
        exact h
theorem isRef_at {S U : State} {cls name desc : String} (hv : S.vm = U.vm) (hst : stK S.heap U.heap) (h : (Cond.isRef (.static cls name desc)).before #[] S = true) : (Cond.isRef (.static cls name desc)).before #[] U = true := by
  simp only [Cond.before, Cond.holds, Cond.value] at h ⊢
  cases e : (Term.static cls name desc).eval #[] S none [] S with
  | none => rw [e] at h; simp at h
  | some v => rw [e] at h; rw [stat_eval hv hst e]; exact h
theorem laysStatic_at {S U : State} {o n d : String} (hv : S.vm = U.vm) (hst : stK S.heap U.heap) (h : (Cond.laysStatic o n d).before #[] S = true) : (Cond.laysStatic o n d).before #[] U = true := by
  have e : S.fieldFound? o n d = U.fieldFound? o n d := by
    unfold State.fieldFound?
    rw [hv]
  simp only [Cond.before, Cond.holds, Cond.value] at h ⊢
  rw [← e, ← hv]
  cases hf : S.vm.findClass o with
  | none => rw [hf] at h; simp at h
  | some c =>
    cases hg : S.fieldFound? o n d with
    | none => rw [hf, hg] at h; simp at h
    | some q =>
      obtain ⟨c', k, i, f⟩ := q
      rw [hf, hg] at h
      cases hs : k.statics with
      | none => simp [hs] at h
      | some a =>
        cases hc : S.heap[a]? with
        | none => simp [hs, hc] at h
        | some cell =>
          have hc2 : U.heap[a]? = some cell := hst a cell hc (by simp [hs, hc] at h; exact h.1.1.1.2)
          simp only [hs, hc, Option.bind_some] at h
          simp only [hs, hc2, Option.bind_some]
          exact h
theorem gTh_warm {s U : State} (hW : s.WarmedH U.vm) (hst : stK s.heap U.heap) (h : gTh s) : gTh U := by
  obtain ⟨h1, h2, h3, h4⟩ := h
  refine ⟨fun c hc => ?_, strR_warm hW h2, strR_warm hW h3, ?_⟩
  · have hs := State.Shifted.of_warmed hW
    simp only [thL, List.mem_cons, List.not_mem_nil, or_false] at hc
    rcases hc with rfl | rfl | rfl | rfl | rfl | rfl | rfl | rfl | rfl
    · exact isRef_at (S := s.setVm U.vm) rfl hst (Cond.before_shiftedCast hs _ rfl (h1 _ (List.mem_of_getElem? (i := 0) rfl)))
    · exact isRef_at (S := s.setVm U.vm) rfl hst (Cond.before_shiftedCast hs _ rfl (h1 _ (List.mem_of_getElem? (i := 1) rfl)))
    · exact laysStatic_at (S := s.setVm U.vm) rfl hst (Cond.before_shiftedCast hs _ rfl (h1 _ (List.mem_of_getElem? (i := 2) rfl)))
    · exact laysStatic_at (S := s.setVm U.vm) rfl hst (Cond.before_shiftedCast hs _ rfl (h1 _ (List.mem_of_getElem? (i := 3) rfl)))
    · exact Cond.before_shiftedCast hs _ rfl (h1 _ (List.mem_of_getElem? (i := 4) rfl))
    · exact Cond.before_shiftedCast hs _ rfl (h1 _ (List.mem_of_getElem? (i := 5) rfl))
    · exact Cond.before_shiftedCast hs _ rfl (h1 _ (List.mem_of_getElem? (i := 6) rfl))
    · exact Cond.before_shiftedCast hs _ rfl (h1 _ (List.mem_of_getElem? (i := 7) rfl))
    · exact Cond.before_shiftedCast hs _ rfl (h1 _ (List.mem_of_getElem? (i := 8) rfl))
  · exact Cond.before_shiftedCast (State.Shifted.of_warmed hW) _ rfl h4
