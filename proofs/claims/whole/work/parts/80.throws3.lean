/-! a call that ends in a throw -/
def noTr (l : Launch) : Prop := ∀ e : Env, l.admits e → e.platform.stackTraces = false
def gThrown (E : gE) (ad : Nat → Nat) (u : gW) (A : Nat → Prop) (cls : String) (rm : Room) (st : State) (o : Outcome) (t : State) : Prop :=
  o = .threw st.heap.size ∧ st.WarmedH t.vm ∧ (∃ L, st.sameButNew ({ t with vm := st.vm } : State) L rm.cells rm.slots ∧ ∀ q ∈ L, A q.base) ∧ gP E ad u t.heap ∧ va_F A st t ∧ ∃ ce : Cell, t.heap[st.heap.size]? = some ce ∧ ce.vm = .none ∧ st.vm.findClass cls = some ce.cls
def gMetT (l : Launch) (E : gE) (y : MethodName) (cc : ByteArray) (maxL : Nat) (ret : Option FieldType) (rm : Room) (av : List Value) (ad : Nat → Nat) (u : gW) (sz : Nat) (cls : String) : Prop :=
  MetFree l y (headSpec (Cond.code y cc maxL ret :: gT) rm) (fun a U => va_Pc av (gPre E ad u sz) a U ∧ gTh U) (fun _ _ _ _ _ => True) (fun _ st o t => gThrown E ad u (gAd ad u sz) cls rm st o t)
/-- the end of a method that throws -/
def gRT (Z : gZ) (E : gE) (ad : Nat → Nat) (u : gW) (sz : Nat) (cls : String) (rm : Room) : Prop :=
  gQ Z = (fun t => ∃ o, t.status = .running ∧ Ended t (gb Z) o ∧ gThrown E ad u (gAd ad u sz) cls rm (gs Z) o t) ∧ gH Z = (gs Z).heap ∧ gA Z = gAd ad u sz ∧ (gs Z).heap.size = sz ∧ gP E ad u (gs Z).heap ∧ gTh (gs Z) ∧ (gc Z).exceptionTable.toList = []
theorem gMetT_of {l : Launch} {E : gE} {y : MethodName} {rm : Room} {av : List Value} {ad : Nat → Nat} {u : gW} {sz : Nat} {cls : String} {cc : ByteArray} {maxL : Nat} {ret : Option FieldType}
    (own : String) (ho : y.cls = own) (hy : plainName y.cls = true) (hn : (lg_sl av).length ≤ maxL) {lv : List (Nat × Value)} (hlv : lv_args 0 av = lv)
    (body : ∀ Z : gZ, gl Z = l → gC Z cc maxL own gT E → gRT Z E ad u sz cls rm → GW Z rm maxL E ad u sz lv 0 0 0 []) : gMetT l E y cc maxL ret rm av ad u sz cls := by
  refine MetFree.of_bodyS (code := cc) (maxLocals := maxL) (ret := ret) hy ?_ ?_
  · intro args s m h hn
    obtain ⟨meth, c, h1, h2, h3, h4, h5, h6, -, -⟩ := Cond.code_spec hn (atoms_spec (ws := Cond.code y cc maxL ret :: gT) h _ List.mem_cons_self)
    exact ⟨meth, c, h1, h2, h3, h4, h5, h6⟩
  · intro p e s m args below meth c s₁ B hml hv _
    obtain ⟨⟨rfl, hsz, hP, hK, hN⟩, hTh⟩ := hv
    have hts := atoms_spec (ws := Cond.code y cc maxL ret :: gT) B.pre
    have hown : s.vm.findClass y.cls = some m.cls := findClass_of_methodNamed B.named
    rw [ho] at hown
    have hl := lv_entry av (n := maxL) hn
    have hA : ∀ q : Nat, s.heap.size ≤ q → gAd ad u sz q := fun q h => Or.inr (by rw [← hsz]; exact h)
    have hno : c.exceptionTable.toList = [] := by
      have := B.noHandlers (hts _ List.mem_cons_self)
      rw [Array.isEmpty_iff.mp this]
    have K := body (p, l, e, s, m, av.toArray, below, meth, c, gAd ad u sz, s.heap, fun t => ∃ o, t.status = .running ∧ Ended t below o ∧ gThrown E ad u (gAd ad u sz) cls rm s o t) rfl
      ⟨B.exec, B.bytes, hml, hown, fun w h => hts w (List.mem_cons_of_mem _ h), hK, hA, B.notSynchronized, hN⟩ ⟨rfl, rfl, rfl, hsz, hP, hTh, hno⟩
    have K2 := K s.heap [] _ hsz hP gI_gAd va_S.rf (by rw [← hlv]; exact hl)
    have hh0 : s₁.heap = s.heap := by rw [B.state]; rfl
    obtain ⟨t, a1, o, b1, b2, b3⟩ := K2 s₁ hh0 (Stand.of_body B)
    rw [← lg_entry_eq] at a1
    exact ⟨t, o, a1, b1, b2, b3⟩
/-- a cell that the frame word keeps, none of its slots among the freed ones -/
theorem cell_same {s t : State} {L : List Loc} {k n a : Nat} {c : Cell} (h : s.sameButNew t L k n) (hc : s.heap[a]? = some c) (hL : ∀ i, (⟨a, i⟩ : Loc) ∉ L) : t.heap[a]? = some c := by
  obtain ⟨c', h1, h2, h3, h4⟩ := h.2.2.2.2.2 a c hc
  rw [h1, h2]
  congr 1
  have : c'.slots = c.slots := by
    apply Array.ext_getElem?
    intro i
    exact h4 i (hL i)
  rw [this]
/-- which of the freed slots have really changed -/
noncomputable def chL (s T : State) (locs : List Loc) : List Loc := locs.filter fun q => @decide (¬ ∀ c c' : Cell, s.heap[q.base]? = some c → T.heap[q.base]? = some c' → c'.slots[q.slot]? = c.slots[q.slot]?) (Classical.propDecidable _)
theorem chL_in {s T : State} {locs : List Loc} {q : Loc} : q ∈ chL s T locs ↔ q ∈ locs ∧ ¬ ∀ c c' : Cell, s.heap[q.base]? = some c → T.heap[q.base]? = some c' → c'.slots[q.slot]? = c.slots[q.slot]? := by
  rw [chL, List.mem_filter, @decide_eq_true_iff _ (Classical.propDecidable _)]
theorem chL_same {s T : State} {locs : List Loc} {k n : Nat} (h : s.sameButNew (T.setVm s.vm) locs k n) : s.sameButNew (T.setVm s.vm) (chL s T locs) k n := by
  obtain ⟨q1, q2, q3, q4, q5, q6⟩ := h
  refine ⟨q1, q2, q3, q4, q5, fun a c hc => ?_⟩
  obtain ⟨c', d1, d2, d3, d4⟩ := q6 a c hc
  refine ⟨c', d1, d2, d3, fun i hi => ?_⟩
  by_cases hm : (⟨a, i⟩ : Loc) ∈ locs
  · exact Classical.byContradiction fun hn => hi (chL_in.mpr ⟨hm, fun hq => hn (hq c c' hc d1)⟩)
  · exact d4 i hm
/-- a named cell that says the same at both states has not changed in what it says -/
theorem va_keep {D : va_G} {cl : List vw_C} {q : Nat} {e : va_E} {s T t : State} {locs : List Loc} {k n : Nat} (hs : va_at D cl (q, e) s.heap) (hT : va_at D cl (q, e) T.heap) (h : s.sameButNew t (chL s T locs) k n) : va_at D cl (q, e) t.heap := by
  cases e with
  | inl a =>
    have h1 : s.heap[q]? = some (vp_cell a.1 a.2) := hs
    have h2 : T.heap[q]? = some (vp_cell a.1 a.2) := hT
    exact cell_same h h1 fun i hi => (chL_in.mp hi).2 fun c c' e1 e2 => by
      have g1 : c = vp_cell a.1 a.2 := Option.some.inj (e1.symm.trans h1)
      have g2 : c' = vp_cell a.1 a.2 := Option.some.inj (e2.symm.trans h2)
      rw [g1, g2]
  | inr o =>
    obtain ⟨r, r1, cell, c1, c2, c3, c4⟩ := hs
    obtain ⟨r', r1', cell', c1', c2', c3', c4'⟩ := hT
    have er : r' = r := Option.some.inj (r1'.symm.trans r1)
    subst er
    obtain ⟨c', d1, d2, d3, d4⟩ := h.2.2.2.2.2 q cell c1
    refine ⟨r', r1, c', d1, by rw [d2]; exact c2, by rw [d2]; exact c3, fun j hj => ?_⟩
    rw [d4 _ fun hi => (chL_in.mp hi).2 fun x x' e1 e2 => ?_]
    · exact c4 j hj
    · have g1 : x = cell := Option.some.inj (e1.symm.trans c1)
      have g2 : x' = cell' := Option.some.inj (e2.symm.trans c1')
      rw [g1, g2]
      exact (c4' j hj).trans (c4 j hj).symm
/-- a text off the pool, by what the pool has at the start -/
theorem w_ldcS {p : Program} {l : Launch} {e : Env} {R : Room} {s : State} {m : MethodId} {args : Array Value} {below : List Frame} {meth : Method} {c : Code} {T : State} {locs : List Loc} {cells slots : Nat} (X : Stand p l e R s m args below meth c T locs cells slots) (hexec : p.tables.exec = Jvm.exec) {own : String} {index : Nat} (hown : s.vm.findClass own = some m.cls) (hs : strR s own index) {g : JFrame} (hg : g.method = m) (hdg : decode c.code g.pc = .ok (.ldc index, 2)) :
    ∃ a : Nat, ∀ target, Steps p.tables e below (T.setTop { g with pc := g.pc + 2, stack := .ref a :: g.stack }) target → Steps p.tables e below (T.setTop g) target := by
  obtain ⟨cI, k, cf, i, a, h1, hk, hcf, hcp, hr⟩ := hs
  cases hown.symm.trans h1
  obtain ⟨k', hk', he⟩ := X.warmed.alike.2.2 _ _ hk
  have hr' : k'.resolved[index]? = some (some (.string a)) := by
    rcases X.warmed.entry hk hk' index with h | ⟨h, -⟩
    · rw [h]; exact hr
    · rw [hr] at h; cases h
  refine ⟨a, fun target hrest => ?_⟩
  subst hg
  jvm_step X.here [hexec, hdg, ldc.wp_string (e := e) (s := T) (f := g) X.here.top hk' (by rw [he]; exact hcf) hcp hr']
  exact hrest
