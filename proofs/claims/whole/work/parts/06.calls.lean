theorem gGood {ws : List Cond} (h : ∀ w ∈ ws, w ∈ gT) : GoodIn gT ws := fun w hw => gT_good w (h w hw)
theorem gGoodC {c : Cond} (h : c ∈ gT) : GoodIn gT (c :: gT) := gGood fun w hw => (List.mem_cons.mp hw).elim (fun e => e ▸ h) id
theorem gGoodV {own C : String} {index : Nat} {y : MethodName} {c : Cond} (hl : Cond.methodLink own index y ∈ gT) (hin : Cond.instanceMethod y ∈ gT) (hsel : Cond.selects C y y ∈ gT) (hini : Cond.initialized C ∈ gT) (hc : c ∈ gT) : GoodIn gT (wsV own index C y (c :: gT)) := gGood fun w hw => by
  rcases List.mem_append.mp hw with h | h
  · simp only [List.mem_cons, List.not_mem_nil, or_false] at h
    rcases h with rfl | rfl | rfl | rfl <;> assumption
  · exact (List.mem_cons.mp h).elim (fun e => e ▸ hc) id
theorem gGoodS {own : String} {index : Nat} {y : MethodName} {c : Cond} (hl : Cond.methodLink own index y ∈ gT) (hin : Cond.static y ∈ gT) (hini : Cond.initialized y.cls ∈ gT) (hc : c ∈ gT) : GoodIn gT (va_wsS own index y (c :: gT)) := gGood fun w hw => by
  rcases List.mem_append.mp hw with h | h
  · simp only [List.mem_cons, List.not_mem_nil, or_false] at h
    rcases h with rfl | rfl | rfl <;> assumption
  · exact (List.mem_cons.mp h).elim (fun e => e ▸ hc) id
theorem gAd_in {A : Nat → Prop} {ad : Nat → Nat} {u : gW} {sz b : Nat} (h3 : gI A ad u) (hA : ∀ q : Nat, b ≤ q → A q) (hsz : b ≤ sz) : ∀ q, gAd ad u sz q → A q := by
  rintro q (⟨n, hn, rfl⟩ | h)
  · exact h3 n hn
  · exact hA q (Nat.le_trans hsz h)
theorem gBlind {E : gE} {ad : Nat → Nat} {u : gW} {sz : Nat} {av : List Value} : FrameBlind (va_Pc av (gPre E ad u sz)) := fun a U g mk q => by
  obtain ⟨q0, q1, q2, q3, q4⟩ := q
  exact ⟨q0, q1, q2, va_K.moved (u := U) (U := U.calling g mk a) (Vm.Alike.refl U.vm) q3, q4.same (s := U) (U := U.calling g mk a) rfl⟩
section GCALL
variable {Z : gZ} {R : Room} {cc : ByteArray} {nL : Nat} {own : String} {E : gE} {ad : Nat → Nat} {u : gW} {sz : Nat} {lv : List (Nat × Value)} {cells slots pc : Nat} {st : List Value}
theorem g_run {mc ms : Nat} {rest : List Value} {a : Array Value} {Post : Option Value → gW → Nat → Prop} (C : gC Z cc nL own gT E)
    (hr : ∀ (H : Heap) (locs : List Loc) (ls : Array Slot), H.size = sz → gP E ad u H → lv_has ls nL lv → va_Run (gp Z) (gl Z) (ge Z) R (gs Z) (gm Z) (ga Z) (gb Z) (gme Z) (gc Z) H locs cells slots mc ms (F0 (gm Z) pc ls st) rest (gPost E ad (gAd ad u sz) Post a) (gAd ad u sz))
    (k : ∀ (v : Option Value) (u' : gW) (sz' : Nat), Post v u' sz' → GW Z R nL E ad u' sz' lv (cells + mc) (slots + ms) (pc + 3) (v.toList ++ rest)) : GW Z R nL E ad u sz lv cells slots pc st := by
  intro H locs ls h1 h2 h3 h4 h5 T hT X
  obtain ⟨v, st₀, t, T', L, h0, X', hL, e1, e2, ⟨v', u', sz', hv, hp, hs', hP', hI', hK', hz, hk⟩, go⟩ := hr H locs ls h1 h2 h5 T hT X
  cases hv
  rw [h0] at hz hk
  have hin := gAd_in h3 C.2.2.2.2.2.2.1 (sz := sz) (by rw [← h1]; exact h4.1)
  obtain ⟨t2, a1, b1⟩ := k v u' sz' hp T'.heap (locs ++ L) ls (by rw [e1]; exact hs') (by rw [e1]; exact hP') (fun n hn => hin _ (hI' n hn))
    ⟨Nat.le_trans h4.1 (by rw [e1]; exact hz), fun q g1 g2 => by rw [e1, hk q (Nat.lt_of_lt_of_le g1 h4.1) (fun z => g2 (hin q z))]; exact h4.2.1 q g1 g2, fun q hq => by
      rcases List.mem_append.mp hq with h | h
      · exact h4.2.2 q h
      · exact hin _ (hL q h)⟩ h5 T' rfl X'
  exact ⟨t2, go t2 a1, b1⟩
theorem g_callV {y : MethodName} {bytes : ByteArray} {maxL index ci b N : Nat} {T : u_T} {ret : Option FieldType} {rm : Room} {As rest fs : List Value} {Post : Option Value → gW → Nat → Prop} (n : Nat) (C : gC Z cc nL own gT E)
    (hM : gMet (gl Z) E y bytes maxL ret rm (.ref (ad b) :: As) ad u sz Post) (hl : Cond.methodLink own index y ∈ gT) (hin : Cond.instanceMethod y ∈ gT) (hsel : Cond.selects y.cls y y ∈ gT) (hini : Cond.initialized y.cls ∈ gT) (hcode : Cond.code y bytes maxL ret ∈ gT)
    (hdd : y.cls ≠ "java/lang/invoke/MethodHandle" ∧ y.cls ≠ "java/lang/invoke/VarHandle" ∧ (parseMethodDescriptor y.desc).map (fun d => d.parameters.length) = some n) (hR : rm.frames + 1 ≤ R.frames ∧ 8 + (maxL + 11) + rm.locals ≤ R.locals)
    (hb : u b = some (.inr (ci, fs))) (hc : E.2.1[ci]? = some (y.cls, T, N)) (hn : As.length = n) (hst : st = As.reverse ++ .ref (ad b) :: rest) (hlo : (rest.map fun v => v.category).sum ≤ 8) (hd : decode cc pc = .ok (.invokevirtual index, 3)) (hf : cells + rm.cells ≤ R.cells ∧ slots + rm.slots ≤ R.slots)
    (k : ∀ (v : Option Value) (u' : gW) (sz' : Nat), Post v u' sz' → GW Z R nL E ad u' sz' lv (cells + rm.cells) (slots + rm.slots) (pc + 3) (v.toList ++ rest)) : GW Z R nL E ad u sz lv cells slots pc st :=
  g_run (a := (Value.ref (ad b) :: As).toArray) C (fun H locs ls h1 h2 h5 => va_runV (C := y.cls) (As := As) (rest := rest) (b := ad b) ⟨C.1, C.2.1, C.2.2.1, C.2.2.2.1, C.2.2.2.2.1⟩ hM
    (cwV n C.2.2.2.2.1 (gGoodV hl hin hsel hini hcode) rfl rfl rfl ⟨rfl, hdd⟩ hR) ⟨gBlind, va_recv C.2.2.2.2.2.1 (gP_one h2 hb) (q0 := 0) hc rfl, fun U hU hW => ⟨rfl, by rw [hU]; exact h1, by rw [hU]; exact h2, va_K.moved hW.alike C.2.2.2.2.2.1, C.2.2.2.2.2.2.2.2.warm hW⟩⟩ rfl hn h5.1 hst (lv_room hlo) hd hf) k
theorem g_callS {y : MethodName} {bytes : ByteArray} {maxL index : Nat} {ret : Option FieldType} {rm : Room} {As rest : List Value} {Post : Option Value → gW → Nat → Prop} (n : Nat) (C : gC Z cc nL own gT E)
    (hM : gMet (gl Z) E y bytes maxL ret rm As ad u sz Post) (hl : Cond.methodLink own index y ∈ gT) (hin : Cond.static y ∈ gT) (hini : Cond.initialized y.cls ∈ gT) (hcode : Cond.code y bytes maxL ret ∈ gT)
    (hdd : y.cls ≠ "java/lang/invoke/MethodHandle" ∧ y.cls ≠ "java/lang/invoke/VarHandle" ∧ (parseMethodDescriptor y.desc).map (fun d => d.parameters.length) = some n) (hR : rm.frames + 1 ≤ R.frames ∧ 8 + (maxL + 11) + rm.locals ≤ R.locals)
    (hn : As.length = n) (hst : st = As.reverse ++ rest) (hlo : (rest.map fun v => v.category).sum ≤ 8) (hd : decode cc pc = .ok (.invokestatic index, 3)) (hf : cells + rm.cells ≤ R.cells ∧ slots + rm.slots ≤ R.slots)
    (k : ∀ (v : Option Value) (u' : gW) (sz' : Nat), Post v u' sz' → GW Z R nL E ad u' sz' lv (cells + rm.cells) (slots + rm.slots) (pc + 3) (v.toList ++ rest)) : GW Z R nL E ad u sz lv cells slots pc st :=
  g_run (a := As.toArray) C (fun H locs ls h1 h2 h5 => va_runS (As := As) (rest := rest) ⟨C.1, C.2.1, C.2.2.1, C.2.2.2.1, C.2.2.2.2.1⟩ hM
    (va_cwS n C.2.2.2.2.1 (gGoodS hl hin hini hcode) rfl rfl rfl hdd hR) ⟨gBlind, fun U hU hW => ⟨rfl, by rw [hU]; exact h1, by rw [hU]; exact h2, va_K.moved hW.alike C.2.2.2.2.2.1, C.2.2.2.2.2.2.2.2.warm hW⟩⟩ rfl hn h5.1 hst (lv_room hlo) hd hf) k
theorem g_callI {y : MethodName} {bytes : ByteArray} {maxL index b : Nat} {rm : Room} {As rest : List Value} {Post : Option Value → gW → Nat → Prop} (n : Nat) (C : gC Z cc nL own gT E)
    (hM : gMet (gl Z) E y bytes maxL none rm (.ref (ad b) :: As) ad u sz Post) (hcode : Cond.code y bytes maxL none ∈ gT) (hini : Cond.initialized y.cls ∈ gT) (hl : Cond.methodLink own index y ∈ gT) (hin : Cond.instanceMethod y ∈ gT) (hy : y.name = "<init>")
    (hdd : y.cls ≠ "java/lang/invoke/MethodHandle" ∧ y.cls ≠ "java/lang/invoke/VarHandle" ∧ (parseMethodDescriptor y.desc).map (fun d => d.parameters.length) = some n) (hR : rm.frames + 1 ≤ R.frames ∧ 8 + (maxL + 11) + rm.locals ≤ R.locals)
    (hn : As.length = n) (hst : st = As.reverse ++ .ref (ad b) :: rest) (hlo : (rest.map fun v => v.category).sum ≤ 8) (hd : decode cc pc = .ok (.invokespecial index, 3)) (hf : cells + rm.cells ≤ R.cells ∧ slots + rm.slots ≤ R.slots)
    (k : ∀ (v : Option Value) (u' : gW) (sz' : Nat), Post v u' sz' → GW Z R nL E ad u' sz' lv (cells + rm.cells) (slots + rm.slots) (pc + 3) (v.toList ++ rest)) : GW Z R nL E ad u sz lv cells slots pc st :=
  g_run (a := (Value.ref (ad b) :: As).toArray) C (fun H locs ls h1 h2 h5 => va_runI (As := As) (rest := rest) (b := ad b) ⟨C.1, C.2.1, C.2.2.1, C.2.2.2.1, C.2.2.2.2.1⟩ hM
    (cwI n C.2.2.2.2.1 (gGoodC hcode) rfl rfl rfl (C.2.2.2.2.1 _ hini) (C.2.2.2.2.1 _ hl) (C.2.2.2.2.1 _ hin) hy hdd hR) ⟨gBlind, fun U hU hW => ⟨rfl, by rw [hU]; exact h1, by rw [hU]; exact h2, va_K.moved hW.alike C.2.2.2.2.2.1, C.2.2.2.2.2.2.2.2.warm hW⟩⟩ rfl hn h5.1 hst (lv_room hlo) hd hf) k
theorem g_callIN {y : MethodName} {host : String} {bytes : ByteArray} {maxL index b : Nat} {rm : Room} {As rest : List Value} {Post : Option Value → gW → Nat → Prop} (n : Nat) (C : gC Z cc nL own gT E)
    (hM : gMet (gl Z) E y bytes maxL none rm (.ref (ad b) :: As) ad u sz Post) (hcode : Cond.code y bytes maxL none ∈ gT) (hini : Cond.initialized y.cls ∈ gT) (hl : (own, index, y, host) ∈ gNestL) (hin : Cond.instanceMethod y ∈ gT) (hy : y.name = "<init>")
    (hdd : y.cls ≠ "java/lang/invoke/MethodHandle" ∧ y.cls ≠ "java/lang/invoke/VarHandle" ∧ (parseMethodDescriptor y.desc).map (fun d => d.parameters.length) = some n) (hR : rm.frames + 1 ≤ R.frames ∧ 8 + (maxL + 11) + rm.locals ≤ R.locals)
    (hn : As.length = n) (hst : st = As.reverse ++ .ref (ad b) :: rest) (hlo : (rest.map fun v => v.category).sum ≤ 8) (hd : decode cc pc = .ok (.invokespecial index, 3)) (hf : cells + rm.cells ≤ R.cells ∧ slots + rm.slots ≤ R.slots)
    (k : ∀ (v : Option Value) (u' : gW) (sz' : Nat), Post v u' sz' → GW Z R nL E ad u' sz' lv (cells + rm.cells) (slots + rm.slots) (pc + 3) (v.toList ++ rest)) : GW Z R nL E ad u sz lv cells slots pc st :=
  g_run (a := (Value.ref (ad b) :: As).toArray) C (fun H locs ls h1 h2 h5 => va_runIN (As := As) (rest := rest) (b := ad b) ⟨C.1, C.2.1, C.2.2.1, C.2.2.2.1, C.2.2.2.2.1⟩ hM
    ⟨va_cnB n C.2.2.2.2.1 (gGoodC hcode) rfl rfl rfl (C.2.2.2.2.2.2.2.2.1 _ hl) (C.2.2.2.2.1 _ hini) hdd hR, hy, C.2.2.2.2.1 _ hin⟩ ⟨gBlind, fun U hU hW => ⟨rfl, by rw [hU]; exact h1, by rw [hU]; exact h2, va_K.moved hW.alike C.2.2.2.2.2.1, C.2.2.2.2.2.2.2.2.warm hW⟩⟩ rfl hn h5.1 hst (lv_room hlo) hd hf) k
theorem g_callSN {y : MethodName} {host : String} {bytes : ByteArray} {maxL index : Nat} {ret : Option FieldType} {rm : Room} {As rest : List Value} {Post : Option Value → gW → Nat → Prop} (n : Nat) (C : gC Z cc nL own gT E)
    (hM : gMet (gl Z) E y bytes maxL ret rm As ad u sz Post) (hcode : Cond.code y bytes maxL ret ∈ gT) (hini : Cond.initialized y.cls ∈ gT) (hl : (own, index, y, host) ∈ gNestL) (hin : Cond.static y ∈ gT)
    (hdd : y.cls ≠ "java/lang/invoke/MethodHandle" ∧ y.cls ≠ "java/lang/invoke/VarHandle" ∧ (parseMethodDescriptor y.desc).map (fun d => d.parameters.length) = some n) (hR : rm.frames + 1 ≤ R.frames ∧ 8 + (maxL + 11) + rm.locals ≤ R.locals)
    (hn : As.length = n) (hst : st = As.reverse ++ rest) (hlo : (rest.map fun v => v.category).sum ≤ 8) (hd : decode cc pc = .ok (.invokestatic index, 3)) (hf : cells + rm.cells ≤ R.cells ∧ slots + rm.slots ≤ R.slots)
    (k : ∀ (v : Option Value) (u' : gW) (sz' : Nat), Post v u' sz' → GW Z R nL E ad u' sz' lv (cells + rm.cells) (slots + rm.slots) (pc + 3) (v.toList ++ rest)) : GW Z R nL E ad u sz lv cells slots pc st :=
  g_run (a := As.toArray) C (fun H locs ls h1 h2 h5 => va_runSN (As := As) (rest := rest) ⟨C.1, C.2.1, C.2.2.1, C.2.2.2.1, C.2.2.2.2.1⟩ hM
    ⟨va_cnB n C.2.2.2.2.1 (gGoodC hcode) rfl rfl rfl (C.2.2.2.2.2.2.2.2.1 _ hl) (C.2.2.2.2.1 _ hini) hdd hR, C.2.2.2.2.1 _ hin, trivial⟩ ⟨gBlind, fun U hU hW => ⟨rfl, by rw [hU]; exact h1, by rw [hU]; exact h2, va_K.moved hW.alike C.2.2.2.2.2.1, C.2.2.2.2.2.2.2.2.warm hW⟩⟩ rfl hn h5.1 hst (lv_room hlo) hd hf) k
theorem g_callVN {y : MethodName} {host : String} {bytes : ByteArray} {maxL index ci b N : Nat} {T : u_T} {ret : Option FieldType} {rm : Room} {As rest fs : List Value} {Post : Option Value → gW → Nat → Prop} (n : Nat) (C : gC Z cc nL own gT E)
    (hM : gMet (gl Z) E y bytes maxL ret rm (.ref (ad b) :: As) ad u sz Post) (hcode : Cond.code y bytes maxL ret ∈ gT) (hini : Cond.initialized y.cls ∈ gT) (hl : (own, index, y, host) ∈ gNestL) (hin : Cond.instanceMethod y ∈ gT) (hsel : Cond.selects y.cls y y ∈ gT)
    (hdd : y.cls ≠ "java/lang/invoke/MethodHandle" ∧ y.cls ≠ "java/lang/invoke/VarHandle" ∧ (parseMethodDescriptor y.desc).map (fun d => d.parameters.length) = some n) (hR : rm.frames + 1 ≤ R.frames ∧ 8 + (maxL + 11) + rm.locals ≤ R.locals)
    (hb : u b = some (.inr (ci, fs))) (hc : E.2.1[ci]? = some (y.cls, T, N)) (hn : As.length = n) (hst : st = As.reverse ++ .ref (ad b) :: rest) (hlo : (rest.map fun v => v.category).sum ≤ 8) (hd : decode cc pc = .ok (.invokevirtual index, 3)) (hf : cells + rm.cells ≤ R.cells ∧ slots + rm.slots ≤ R.slots)
    (k : ∀ (v : Option Value) (u' : gW) (sz' : Nat), Post v u' sz' → GW Z R nL E ad u' sz' lv (cells + rm.cells) (slots + rm.slots) (pc + 3) (v.toList ++ rest)) : GW Z R nL E ad u sz lv cells slots pc st :=
  g_run (a := (Value.ref (ad b) :: As).toArray) C (fun H locs ls h1 h2 h5 => va_runVN (C := y.cls) (As := As) (rest := rest) (b := ad b) ⟨C.1, C.2.1, C.2.2.1, C.2.2.2.1, C.2.2.2.2.1⟩ hM
    ⟨va_cnB n C.2.2.2.2.1 (gGoodC hcode) rfl rfl rfl (C.2.2.2.2.2.2.2.2.1 _ hl) (C.2.2.2.2.1 _ hini) hdd hR, C.2.2.2.2.1 _ hin, C.2.2.2.2.1 _ hsel⟩ ⟨gBlind, va_recv C.2.2.2.2.2.1 (gP_one h2 hb) (q0 := 0) hc rfl, fun U hU hW => ⟨rfl, by rw [hU]; exact h1, by rw [hU]; exact h2, va_K.moved hW.alike C.2.2.2.2.2.1, C.2.2.2.2.2.2.2.2.warm hW⟩⟩ rfl hn h5.1 hst (lv_room hlo) hd hf) k
end GCALL
