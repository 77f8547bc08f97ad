/-! calls of a method with handlers; calls that throw -/
def gMetW (l : Launch) (E : gE) (y : MethodName) (cc : ByteArray) (maxL : Nat) (ret : Option FieldType) (hh : List (Nat × Nat × Nat × Nat)) (rm : Room) (av : List Value) (ad : Nat → Nat) (u : gW) (sz : Nat) (Post : Option Value → gW → Nat → Prop) : Prop :=
  Met l y (Cond.codeWith y cc maxL ret hh :: gT) rm (fun a U => va_Pc av (gPre E ad u sz) a U ∧ gTh U) (gPost E ad (gAd ad u sz) Post) rm.cells rm.slots (gAd ad u sz)
def gRW (Z : gZ) (E : gE) (ad : Nat → Nat) (u : gW) (sz : Nat) (hh : List (Nat × Nat × Nat × Nat)) : Prop :=
  gA Z = gAd ad u sz ∧ (gs Z).heap.size = sz ∧ gP E ad u (gs Z).heap ∧ gTh (gs Z) ∧ (gc Z).exceptionTable.toList = hh.map fun q => (⟨q.1, q.2.1, q.2.2.1, q.2.2.2⟩ : ExceptionTableEntry)
theorem gMetW_of {l : Launch} {E : gE} {y : MethodName} {rm : Room} {av : List Value} {ad : Nat → Nat} {u : gW} {sz : Nat} {Post : Option Value → gW → Nat → Prop} {cc : ByteArray} {maxL : Nat} {ret : Option FieldType} {hh : List (Nat × Nat × Nat × Nat)}
    (own : String) (ho : y.cls = own) (hy : plainName y.cls = true) (hn : (lg_sl av).length ≤ maxL) {lv : List (Nat × Value)} (hlv : lv_args 0 av = lv)
    (body : ∀ Z : gZ, gl Z = l → gC Z cc maxL own gT E → gR Z E ad rm.cells rm.slots Post → (gme Z).sig.returnType = ret → gRW Z E ad u sz hh → GW Z rm maxL E ad u sz lv 0 0 0 []) : gMetW l E y cc maxL ret hh rm av ad u sz Post := by
  refine va_MetW (cc := cc) (maxL := maxL) (ret := ret) (hh := hh) hy rfl ?_
  intro p e s m args below meth c s₁ B hml hv
  obtain ⟨⟨rfl, hsz, hP, hK, hN⟩, hTh⟩ := hv
  have hts := atoms_spec (ws := Cond.codeWith y cc maxL ret hh :: gT) B.pre
  have hown : s.vm.findClass y.cls = some m.cls := findClass_of_methodNamed B.named
  rw [ho] at hown
  have hl := lv_entry av (n := maxL) hn
  rw [lg_entry_eq]
  have hA : ∀ q : Nat, s.heap.size ≤ q → gAd ad u sz q := fun q h => Or.inr (by rw [← hsz]; exact h)
  have htab : c.exceptionTable.toList = hh.map fun q => (⟨q.1, q.2.1, q.2.2.1, q.2.2.2⟩ : ExceptionTableEntry) := by
    obtain ⟨m9, meth9, c9, hn9, e1, e2, -, -, e3, -, -, -⟩ := Cond.codeWith_spec (hts _ List.mem_cons_self)
    cases B.named.symm.trans hn9
    cases B.method.symm.trans e1
    cases (Stand.of_body B).code.symm.trans e2
    rw [← e3, List.map_map]
    exact (List.map_id _).symm.trans (List.map_congr_left fun x _ => rfl)
  have K := body (p, l, e, s, m, av.toArray, below, meth, c, gAd ad u sz, s.heap, MQ below (gPost E ad (gAd ad u sz) Post) av.toArray s rm.cells rm.slots (gAd ad u sz)) rfl
    ⟨B.exec, B.bytes, hml, hown, fun w h => hts w (List.mem_cons_of_mem _ h), hK, hA, B.notSynchronized, hN⟩ ⟨rfl, rfl⟩ B.returns ⟨rfl, hsz, hP, hTh, htab⟩
  exact K s.heap [] _ hsz hP gI_gAd va_S.rf (by rw [← hlv]; exact hl)
/-- wherever the method stands, the words about throwables hold -/
def gThF (Z : gZ) : Prop := ∀ (H : Heap) (locs : List Loc), va_S (gA Z) (gH Z) H locs → ∀ U : State, U.heap = H → (gs Z).WarmedH U.vm → gTh U
theorem gThF_of {Z : gZ} (h : gTh (gs Z)) (hH : gH Z = (gs Z).heap) (hA : ∀ (a : Nat) (cell : Cell), (gs Z).heap[a]? = some cell → cell.vm.isStatics = true → ¬ gA Z a) : gThF Z := fun H locs hS U hU hW => by
  refine gTh_warm hW (fun a cell hc hs => ?_) h
  have h1 := hS.2.1 a (by rw [hH]; exact (Array.getElem?_eq_some_iff.mp hc).1) (hA a cell hc hs)
  rw [hU, h1, hH]; exact hc
/-- a named cell holds no statics -/
theorem named_st {E : gE} {ad : Nat → Nat} {u : gW} {H : Heap} {n : Nat} {e : va_E} {cell : Cell} (hP : gP E ad u H) (hu : u n = some e) (hc : H[ad n]? = some cell) : cell.vm.isStatics = false := by
  have hv := hP.1 n e hu
  cases e with
  | inl a =>
    have g1 : cell = vp_cell a.1 a.2 := Option.some.inj (hc.symm.trans hv)
    rw [g1]
    obtain ⟨cA, N, f⟩ := a
    rcases f with f | f | f | f | f <;> rfl
  | inr o =>
    obtain ⟨r, -, c0, c1, -, c3, -⟩ := hv
    have g1 : cell = c0 := Option.some.inj (hc.symm.trans c1)
    rw [g1, c3]; rfl
theorem gRW_ThF {Z : gZ} {E : gE} {ad : Nat → Nat} {u : gW} {sz : Nat} {hh : List (Nat × Nat × Nat × Nat)} (D : gRW Z E ad u sz hh) (hH : gH Z = (gs Z).heap) : gThF Z := by
  obtain ⟨dA, dsz, dP, dTh, -⟩ := D
  refine gThF_of dTh hH fun a cell hc hs hA => ?_
  rw [dA] at hA
  rcases hA with ⟨n, hn, rfl⟩ | hge
  · cases hu : u n with
    | none => exact hn hu
    | some e => rw [named_st dP hu hc] at hs; cases hs
  · have := (Array.getElem?_eq_some_iff.mp hc).1
    rw [dsz] at this; omega
section GC2
variable {Z : gZ} {R : Room} {cc : ByteArray} {nL : Nat} {own : String} {E : gE} {ad : Nat → Nat} {u : gW} {sz : Nat} {lv : List (Nat × Value)} {cells slots pc : Nat} {st : List Value}
theorem g_run2 {mc ms : Nat} {rest : List Value} {a : Array Value} {Post : Option Value → gW → Nat → Prop} (C : gC Z cc nL own gT E)
    (hr : ∀ (H : Heap) (locs : List Loc) (ls : Array Slot), H.size = sz → gP E ad u H → va_S (gA Z) (gH Z) H locs → lv_has ls nL lv → va_Run (gp Z) (gl Z) (ge Z) R (gs Z) (gm Z) (ga Z) (gb Z) (gme Z) (gc Z) H locs cells slots mc ms (F0 (gm Z) pc ls st) rest (gPost E ad (gAd ad u sz) Post a) (gAd ad u sz))
    (k : ∀ (v : Option Value) (u' : gW) (sz' : Nat), Post v u' sz' → GW Z R nL E ad u' sz' lv (cells + mc) (slots + ms) (pc + 3) (v.toList ++ rest)) : GW Z R nL E ad u sz lv cells slots pc st := by
  intro H locs ls h1 h2 h3 h4 h5 T hT X
  obtain ⟨v, st₀, t, T', L, h0, X', hL, e1, e2, ⟨v', u', sz', hv, hp, hs', hP', hI', hK', hz, hk⟩, go⟩ := hr H locs ls h1 h2 h4 h5 T hT X
  cases hv
  rw [h0] at hz hk
  have hin := gAd_in h3 C.2.2.2.2.2.2.1 (sz := sz) (by rw [← h1]; exact h4.1)
  obtain ⟨t2, a1, b1⟩ := k v u' sz' hp T'.heap (locs ++ L) ls (by rw [e1]; exact hs') (by rw [e1]; exact hP') (fun n hn => hin _ (hI' n hn))
    ⟨Nat.le_trans h4.1 (by rw [e1]; exact hz), fun q g1 g2 => by rw [e1, hk q (Nat.lt_of_lt_of_le g1 h4.1) (fun z => g2 (hin q z))]; exact h4.2.1 q g1 g2, fun q hq => by
      rcases List.mem_append.mp hq with h | h
      · exact h4.2.2 q h
      · exact hin _ (hL q h)⟩ h5 T' rfl X'
  exact ⟨t2, go t2 a1, b1⟩
theorem gBlind2 {av : List Value} : FrameBlind (fun a U => va_Pc av (gPre E ad u sz) a U ∧ gTh U) := fun a U g mk q => ⟨gBlind a U g mk q.1, by
  refine gTh_warm (s := U) (U := U.calling g mk a) ?_ (fun a cell h _ => h) q.2
  exact State.WarmedH.refl U⟩
theorem g_callSW {y : MethodName} {bytes : ByteArray} {maxL index : Nat} {ret : Option FieldType} {hh : List (Nat × Nat × Nat × Nat)} {rm : Room} {As rest : List Value} {Post : Option Value → gW → Nat → Prop} (n : Nat) (C : gC Z cc nL own gT E)
    (hM : gMetW (gl Z) E y bytes maxL ret hh rm As ad u sz Post) (hl : Cond.methodLink own index y ∈ gT) (hin : Cond.static y ∈ gT) (hini : Cond.initialized y.cls ∈ gT) (hcode : Cond.codeWith y bytes maxL ret hh ∈ gT)
    (hdd : y.cls ≠ "java/lang/invoke/MethodHandle" ∧ y.cls ≠ "java/lang/invoke/VarHandle" ∧ (parseMethodDescriptor y.desc).map (fun d => d.parameters.length) = some n) (hR : rm.frames + 1 ≤ R.frames ∧ 8 + (maxL + 11) + rm.locals ≤ R.locals)
    (hn : As.length = n) (hst : st = As.reverse ++ rest) (hlo : (rest.map fun v => v.category).sum ≤ 8) (hd : decode cc pc = .ok (.invokestatic index, 3)) (hf : cells + rm.cells ≤ R.cells ∧ slots + rm.slots ≤ R.slots) (hT : gThF Z)
    (k : ∀ (v : Option Value) (u' : gW) (sz' : Nat), Post v u' sz' → GW Z R nL E ad u' sz' lv (cells + rm.cells) (slots + rm.slots) (pc + 3) (v.toList ++ rest)) : GW Z R nL E ad u sz lv cells slots pc st := by
  refine g_run2 (a := As.toArray) C (fun H locs ls h1 h2 h4 h5 => ?_) k
  have hts := C.2.2.2.2.1
  have hws : ∀ w ∈ Cond.codeWith y bytes maxL ret hh :: gT, ∀ (a' : Array Value) (U : State), (gs Z).WarmedH U.vm → w.before a' U = true := fun w hw a' U hW => by
    have hg : w ∈ gT := (List.mem_cons.mp hw).elim (fun e => e ▸ hcode) id
    exact word_at hW ((gT_good w hg).2) (hts w hg)
  have hK : Back (gl Z) R (gp Z) (ge Z) (gb Z) (gs Z) (ga Z) y 3 8 (PreOf R rm.cells rm.slots (fun a U => va_Pc As (gPre E ad u sz) a U ∧ gTh U)) (PostOf (gPost E ad (gAd ad u sz) Post) rm.cells rm.slots (gAd ad u sz)) :=
    va_backW (bytes := bytes) (maxL := maxL) (ret := ret) (hh := hh) hM gBlind2 rfl rfl hR.1 hR.2 hws List.mem_cons_self (fun a' U hW => word_at hW ((gT_good _ hini).2) (hts _ hini))
  intro T hT0 X
  obtain ⟨mk, methM, cM, hnamed, hmethM, -, -, -, -, -, -, hsigM⟩ := Cond.codeWith_spec (hts _ hcode)
  have hstatic : methM.isStatic = true := Cond.static_spec hnamed hmethM (hts _ hin)
  obtain ⟨kP, hkP, -⟩ := className_of_methodNamed hnamed
  have hinitP : kP.init = .initialized := Cond.initialized_spec (findClass_of_methodNamed hnamed) hkP (hts _ hini)
  have hlen : As.length = methM.sig.parameters.length := by
    have := hdd.2.2
    rw [hsigM] at this
    exact hn.trans (Option.some.inj this).symm
  obtain ⟨vm₁, X₁, hstep₁⟩ := X.invokestatic C.1 C.2.2.2.1 (hts _ hl) hnamed hmethM hstatic hkP hinitP ⟨hdd.1, hdd.2.1⟩ (g := F0 (gm Z) pc ls st) rfl (argsL := As) (rest := rest) hlen hst (by rw [C.2.1]; exact hd)
  obtain ⟨v, ⟨U', l2, c2, s2⟩, X', ⟨g', mk', t, L, e1, e2, hq, e3, hL, e4, e5⟩, hsteps⟩ := hK (gm Z) (gme Z) (gc Z) ⟨T.setVm vm₁, locs, cells, slots⟩ { F0 (gm Z) pc ls st with stack := rest } (.invokestatic index) mk As.toArray X₁ rfl (h5.1.trans C.2.2.1.symm) (by rw [C.2.1]; exact hd) (lv_room hlo) (X₁.named hnamed)
    ⟨hf.1, hf.2, ⟨rfl, hT0 ▸ h1, hT0 ▸ h2, va_K.moved X₁.warmed.alike C.2.2.2.2.2.1, C.2.2.2.2.2.2.2.2.warm X₁.warmed⟩, hT H locs h4 (T.setVm vm₁) hT0 X₁.warmed⟩
  dsimp only [Pt.U, Pt.locs, Pt.cells, Pt.slots] at e1 e2 hq e3 hL e4 e5 X' hsteps
  subst e3 e4 e5
  exact ⟨v, (T.setVm vm₁).calling g' mk' As.toArray, t, U', L, hT0, X', hL, e1, e2, hq, fun target h => hstep₁ _ fun acts => by rw [doInvoke_state]; exact hsteps.trans h⟩
end GC2
