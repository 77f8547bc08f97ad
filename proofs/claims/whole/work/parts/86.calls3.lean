/-! a call that throws, and is caught -/
set_option maxHeartbeats 4000000 in
theorem g_callVT {Z : gZ} {R : Room} {cc : ByteArray} {nL : Nat} {own : String} {E : gE} {ad : Nat → Nat} {u : gW} {sz : Nat} {lv : List (Nat × Value)} {cells slots pc : Nat} {st : List Value} {y : MethodName} {bytes : ByteArray} {maxL index ci b N : Nat} {T0 : u_T} {ret : Option FieldType} {rm : Room} {As rest fs : List Value} {cls : String} (n : Nat) (C : gC Z cc nL own gT E)
    (hM : gMetT (gl Z) E y bytes maxL ret rm (.ref (ad b) :: As) ad u sz cls) (hl : Cond.methodLink own index y ∈ gT) (hin : Cond.instanceMethod y ∈ gT) (hsel : Cond.selects y.cls y y ∈ gT) (hini : Cond.initialized y.cls ∈ gT) (hcode : Cond.code y bytes maxL ret ∈ gT)
    (hdd : y.cls ≠ "java/lang/invoke/MethodHandle" ∧ y.cls ≠ "java/lang/invoke/VarHandle" ∧ (parseMethodDescriptor y.desc).map (fun d => d.parameters.length) = some n) (hR : rm.frames + 1 ≤ R.frames ∧ 8 + (maxL + 11) + rm.locals ≤ R.locals)
    (hb : u b = some (.inr (ci, fs))) (hc : E.2.1[ci]? = some (y.cls, T0, N)) (hn : As.length = n) (hst : st = As.reverse ++ .ref (ad b) :: rest) (hlo : (rest.map fun v => v.category).sum ≤ 8) (hd : decode cc pc = .ok (.invokevirtual index, 3)) (hf : cells + rm.cells ≤ R.cells ∧ slots + rm.slots ≤ R.slots) (hT : gThF Z) (hpc : Nat)
    (take : ∀ (T' : State) (locs' : List Loc) (cs ss a : Nat) (ce : Cell) (ls : Array Slot), Stand (gp Z) (gl Z) (ge Z) R (gs Z) (gm Z) (ga Z) (gb Z) (gme Z) (gc Z) T' locs' cs ss → T'.heap[a]? = some ce → ce.vm = .none → (gs Z).vm.findClass cls = some ce.cls →
      ∃ vm', Stand (gp Z) (gl Z) (ge Z) R (gs Z) (gm Z) (ga Z) (gb Z) (gme Z) (gc Z) (T'.setVm vm') locs' cs ss ∧ ∀ target, Steps (gp Z).tables (ge Z) (gb Z) ((T'.setVm vm').setTop (F0 (gm Z) hpc ls [.ref a])) target → Steps (gp Z).tables (ge Z) (gb Z) ((T'.setTop (F0 (gm Z) pc ls rest)).pushFrame (.throwing a)) target)
    (k : ∀ sz' a : Nat, GW Z R nL E ad u sz' lv (cells + rm.cells) (slots + rm.slots) hpc [.ref a]) : GW Z R nL E ad u sz lv cells slots pc st := by
  intro H locs ls h1 h2 h3 h4 h5 T hT0 X
  have hts := C.2.2.2.2.1
  obtain ⟨cellB, hcB, hoB, hclB⟩ := va_recv C.2.2.2.2.2.1 (gP_one h2 hb) (q0 := 0) hc rfl
  obtain ⟨mk, methM, hnamed, hmethM, hstM, habM⟩ := Cond.instanceMethod_spec (hts _ hin)
  obtain ⟨methM', cM, hmethM', hcM, -, hlM, -, -, -, hsigM⟩ := Cond.code_spec hnamed (hts _ hcode)
  cases hmethM.symm.trans hmethM'
  obtain ⟨c2, r2, m2, q1, q2, q3, q4, kP, hkP, hkPi⟩ := Cond.selects_spec (hts _ hsel)
  cases hclB.symm.trans q1
  cases (State.methodFound?_of_named hnamed ⟨hdd.1, hdd.2.1⟩).symm.trans q2
  cases hnamed.symm.trans q3
  have hselP : selectMethod (ge Z).platform (gs Z).vm cellB.cls mk = .method mk := by rw [Launch.admits_selectMethod X.admits]; exact q4
  have hlen : As.length = methM.sig.parameters.length := by
    have := hdd.2.2
    rw [hsigM] at this
    exact hn.trans (Option.some.inj this).symm
  obtain ⟨vm₁, X₁, hstep₁⟩ := X.invokevirtual C.1 C.2.2.2.1 (hts _ hl) hnamed hmethM hstM hkP hkPi ⟨hdd.1, hdd.2.1⟩ (a := ad b) (cell := cellB) (by rw [hT0]; exact hcB)
    (fun z h => by rw [h] at hoB; cases hoB) hselP hmethM habM hkP hkPi (g := F0 (gm Z) pc ls st) rfl (argsL := As) (rest := rest) hlen hst (by rw [C.2.1]; exact hd)
  -- the call
  obtain ⟨U, hUe⟩ : ∃ U, U = T.setVm vm₁ := ⟨_, rfl⟩
  rw [← hUe] at X₁ hstep₁
  have hUh : U.heap = H := by rw [hUe]; exact hT0
  obtain ⟨g, hge⟩ : ∃ g, g = F0 (gm Z) pc ls rest := ⟨_, rfl⟩
  have hgm : g.method = gm Z := by rw [hge]
  have hgpc : g.pc = pc := by rw [hge]
  have hgst : g.stack = rest := by rw [hge]
  have hgsz : g.locals.size = (gc Z).maxLocals := by rw [hge]; exact h5.1.trans C.2.2.1.symm
  have hgd : decode (gc Z).code g.pc = .ok (.invokevirtual index, 3) := by rw [hgpc, C.2.1]; exact hd
  have hnU := X₁.named hnamed
  have hcodeU : (Cond.code y bytes maxL ret).before (.ref (ad b) :: As).toArray U = true := word_at X₁.warmed ((gT_good _ hcode).2) (hts _ hcode)
  have hiniU : (Cond.initialized y.cls).before (.ref (ad b) :: As).toArray U = true := word_at X₁.warmed ((gT_good _ hini).2) (hts _ hini)
  obtain ⟨methY, cY, hmY, hcY, -, hlY, -, -, -, -⟩ := Cond.code_spec hnU hcodeU
  obtain ⟨kY, hkY, -⟩ := className_of_methodNamed hnU
  have hinitY : kY.init = .initialized := Cond.initialized_spec (findClass_of_methodNamed hnU) hkY hiniU
  have h : At U g.method (gc Z) (gb Z) := by rw [hgm]; exact X₁.here
  have hWr : 2 * g.monitorRoom + (g.stack.map fun v => v.category).sum ≤ 8 := by rw [hge]; exact lv_room hlo
  have hpre : (headSpec (Cond.code y bytes maxL ret :: gT) rm).pre.before (.ref (ad b) :: As).toArray U = true := atoms_intro fun w hw => by
    have hg : w ∈ gT := (List.mem_cons.mp hw).elim (fun e => e ▸ hcode) id
    exact word_at X₁.warmed ((gT_good w hg).2) (hts w hg)
  have happ : (headSpec (Cond.code y bytes maxL ret :: gT) rm).appliesLoose y (ge Z).platform (U.calling g mk (.ref (ad b) :: As).toArray) = true :=
    Spec.appliesLoose_calling (g := g) h hgd hnU hkY hinitY (X₁.room_calling (g := g) (R' := rm) hgsz hmY hcY hR.1 (by rw [hlY]; omega) hf.1 hf.2) hpre
  obtain ⟨mid, hmid⟩ := h.above
  have hfr : (U.setTop g).frames = (.java g :: mid) ++ gb Z := by rw [State.frames_setTop' g h.top, hmid]; rfl
  have hPc : va_Pc (.ref (ad b) :: As) (gPre E ad u sz) (.ref (ad b) :: As).toArray (U.calling g mk (.ref (ad b) :: As).toArray) ∧ gTh (U.calling g mk (.ref (ad b) :: As).toArray) :=
    gBlind2 (E := E) (ad := ad) (u := u) (sz := sz) (av := .ref (ad b) :: As) _ U g mk ⟨⟨rfl, hUh ▸ h1, hUh ▸ h2, va_K.moved X₁.warmed.alike C.2.2.2.2.2.1, C.2.2.2.2.2.2.2.2.warm X₁.warmed⟩, hT H locs h4 U hUh X₁.warmed⟩
  obtain ⟨o, s₂, hsteps, -, hend, hq⟩ := Jvm.Free.Steps.callFree hM (gp Z) X₁.admits X₁.cas X₁.clock (acts := []) hfr happ hPc trivial
  rw [State.frames_setTop' g h.top] at hend
  have hq : gThrown E ad u (gAd ad u sz) cls rm (U.calling g mk (.ref (ad b) :: As).toArray) o s₂ := hq
  obtain ⟨rfl, hW₂, ⟨L, hsame0, hL⟩, hP2, hF2, ce, hce, hcev, hcec⟩ := hq
  have hsz0 : (U.calling g mk (.ref (ad b) :: As).toArray).heap = H := hUh
  rw [hsz0] at hend hce
  obtain ⟨e2, w2, w3, w4, w5, w6⟩ := id hsame0
  have e3 : s₂ = ({ (U.calling g mk (.ref (ad b) :: As).toArray).setFrames s₂.frames with heap := s₂.heap, slotsUsed := s₂.slotsUsed } : State).setVm s₂.vm := by
    have : s₂ = ({ s₂ with vm := (U.calling g mk (.ref (ad b) :: As).toArray).vm } : State).setVm s₂.vm := rfl
    rw [e2] at this
    exact this
  have hf₂ : s₂.frames = .throwing H.size :: .java g :: U.frames.tail := hend
  have hW' : U.WarmedH s₂.vm := hW₂
  obtain ⟨g₀, hg0⟩ := Option.isSome_iff_exists.mp h.top
  obtain ⟨r, hr⟩ := State.topJava?_eq_some.mp hg0
  obtain ⟨T', hT'e⟩ : ∃ T', T' = ({ U with heap := s₂.heap, slotsUsed := s₂.slotsUsed } : State).setVm s₂.vm := ⟨_, rfl⟩
  have hs₂ : s₂ = (T'.setTop g).pushFrame (.throwing H.size) := by
    rw [hT'e]
    have hr' : (({ U with heap := s₂.heap, slotsUsed := s₂.slotsUsed } : State).setVm s₂.vm).frames = .java g₀ :: r := hr
    refine e3.trans ?_
    rw [hf₂, State.calling_eq h.top, State.setFrames_setFrames, State.pushFrame, State.frames_setTop _ hr', State.setTop_of_frames _ hr', State.setFrames_setFrames, hr]
    rfl
  have hsame : U.sameButNew ({ U with heap := s₂.heap, slotsUsed := s₂.slotsUsed } : State) L rm.cells rm.slots := by
    refine ⟨?_, w2, w3, w4, w5, w6⟩
    obtain ⟨t, ht, -⟩ := State.frames_cons hr
    show ({ U with heap := s₂.heap, slotsUsed := s₂.slotsUsed } : State) = { U.setFrames U.frames with heap := s₂.heap, slotsUsed := s₂.slotsUsed }
    rw [State.setFrames_self ht]
  have X2 : Stand (gp Z) (gl Z) (ge Z) R (gs Z) (gm Z) (ga Z) (gb Z) (gme Z) (gc Z) T' (locs ++ L) (cells + rm.cells) (slots + rm.slots) := by
    rw [hT'e]
    exact ⟨X₁.admits, X₁.cas, X₁.clock, X₁.frames, X₁.room, X₁.hears, X₁.method, X₁.code, (X₁.here.setHeapUsed s₂.heap s₂.slotsUsed).setVm hW'.alike, X₁.tail, State.WarmedH.trans X₁.warmed hW', X₁.limits, X₁.bytes, X₁.same.trans (hsame.setVm (gs Z).vm)⟩
  have hTh' : T'.heap = s₂.heap := by rw [hT'e]; rfl
  have hcec' : (gs Z).vm.findClass cls = some ce.cls := by
    rw [← X₁.warmed.alike.findClass]; exact hcec
  obtain ⟨vm', X3, go⟩ := take T' (locs ++ L) _ _ H.size ce ls X2 (by rw [hTh']; exact hce) hcev hcec'
  have hinA := gAd_in h3 C.2.2.2.2.2.2.1 (sz := sz) (by rw [← h1]; exact h4.1)
  have hF2' : H.size ≤ s₂.heap.size ∧ ∀ q : Nat, q < H.size → ¬ gAd ad u sz q → s₂.heap[q]? = H[q]? := by
    have := hF2
    rw [va_F, hsz0] at this; exact this
  obtain ⟨t, a1, b1⟩ := k s₂.heap.size H.size (T'.setVm vm').heap (locs ++ L) ls (by show T'.heap.size = _; rw [hTh']) (by show gP E ad u T'.heap; rw [hTh']; exact hP2) h3
    ⟨Nat.le_trans h4.1 (by show H.size ≤ T'.heap.size; rw [hTh']; exact hF2'.1), fun q p1 p2 => by
      show T'.heap[q]? = _
      rw [hTh', hF2'.2 q (Nat.lt_of_lt_of_le p1 h4.1) (fun z => p2 (hinA q z))]; exact h4.2.1 q p1 p2, fun q hq => by
      rcases List.mem_append.mp hq with h | h
      · exact h4.2.2 q h
      · exact hinA _ (hL q h)⟩ h5 (T'.setVm vm') rfl X3
  refine ⟨t, hstep₁ _ fun acts => ?_, b1⟩
  rw [doInvoke_state]
  have hgo := go t a1
  rw [← hge, ← hs₂] at hgo
  have := hsteps.trans hgo
  rw [hge] at this
  exact this
