/-! what a call's start must say beside the words of gT: the links to private members of nest mates; the arrays over our classes -/
def gNestL : List (String × Nat × MethodName × String) := [("ExpenseClubs", 23, ⟨"ExpenseClubs$Draft", "<init>", "()V"⟩, "ExpenseClubs"), ("ExpenseClubs", 30, ⟨"ExpenseClubs$Grouping", "<init>", "()V"⟩, "ExpenseClubs"), ("ExpenseClubs", 39, ⟨"ExpenseClubs$Club", "<init>", "()V"⟩, "ExpenseClubs"), ("ExpenseClubs$Club", 20, ⟨"ExpenseClubs$Settlement", "<init>", "()V"⟩, "ExpenseClubs"), ("ExpenseClubs$Draft", 47, ⟨"ExpenseClubs", "sumOf", "([J)J"⟩, "ExpenseClubs"), ("ExpenseClubs$Draft", 75, ⟨"ExpenseClubs", "cut", "(J[JI[J)I"⟩, "ExpenseClubs"), ("ExpenseClubs$Draft", 87, ⟨"ExpenseClubs", "portion", "(JJJ)J"⟩, "ExpenseClubs")]
def gN (U : State) : Prop := (∀ q ∈ gNestL, va_Nw (.methodLinkNest q.1 q.2.1 q.2.2.1 q.2.2.2) U) ∧ va_AO "ExpenseClubs$Club" U ∧ va_AO "ExpenseClubs$Bill" U
theorem gN.warm {s U : State} (hW : s.WarmedH U.vm) (h : gN s) : gN U := ⟨fun q hq => va_Nw.warmM hW (h.1 q hq), h.2.1.moved hW.alike, h.2.2.moved hW.alike⟩
theorem gN.same {s U : State} (e : s.vm = U.vm) (h : gN s) : gN U := ⟨fun q hq => va_Nw.same rfl e (h.1 q hq), h.2.1.moved (by rw [e]; exact Vm.Alike.refl _), h.2.2.moved (by rw [e]; exact Vm.Alike.refl _)⟩
/-! GHOST WORLDS: a world is a function from NAMES (numbers of my own) to cells; 'ad' says at which address a named cell lies. -/
abbrev gW : Type := Nat → Option va_E
def gup (u : gW) (n : Nat) (e : va_E) : gW := fun k => if k = n then some e else u k
theorem gup_self (u : gW) (n : Nat) (e : va_E) : gup u n e n = some e := if_pos rfl
theorem gup_ne {u : gW} {n k : Nat} {e : va_E} (h : k ≠ n) : gup u n e k = u k := if_neg h
def gP (E : gE) (ad : Nat → Nat) (u : gW) (H : Heap) : Prop := (∀ (n : Nat) (e : va_E), u n = some e → va_at E.1 E.2.1 (ad n, e) H) ∧ ∀ n k : Nat, u n ≠ none → u k ≠ none → ad n = ad k → n = k
def gI (A : Nat → Prop) (ad : Nat → Nat) (u : gW) : Prop := ∀ n : Nat, u n ≠ none → A (ad n)
abbrev gZ : Type := Program × Launch × Env × State × MethodId × Array Value × List Frame × Method × Code × (Nat → Prop) × Heap × (State → Prop)
def gp (Z : gZ) : Program := Z.1
def gl (Z : gZ) : Launch := Z.2.1
def ge (Z : gZ) : Env := Z.2.2.1
def gs (Z : gZ) : State := Z.2.2.2.1
def gm (Z : gZ) : MethodId := Z.2.2.2.2.1
def ga (Z : gZ) : Array Value := Z.2.2.2.2.2.1
def gb (Z : gZ) : List Frame := Z.2.2.2.2.2.2.1
def gme (Z : gZ) : Method := Z.2.2.2.2.2.2.2.1
def gc (Z : gZ) : Code := Z.2.2.2.2.2.2.2.2.1
def gA (Z : gZ) : Nat → Prop := Z.2.2.2.2.2.2.2.2.2.1
def gH (Z : gZ) : Heap := Z.2.2.2.2.2.2.2.2.2.2.1
def gQ (Z : gZ) : State → Prop := Z.2.2.2.2.2.2.2.2.2.2.2
/-- the machine at pc with locals lv, operand stack st, the world u at addresses ad in a heap of size sz, comes to gQ Z -/
def GW (Z : gZ) (R : Room) (nL : Nat) (E : gE) (ad : Nat → Nat) (u : gW) (sz : Nat) (lv : List (Nat × Value)) (cells slots pc : Nat) (st : List Value) : Prop :=
  ∀ (H : Heap) (locs : List Loc) (ls : Array Slot), H.size = sz → gP E ad u H → gI (gA Z) ad u → va_S (gA Z) (gH Z) H locs → lv_has ls nL lv →
    W (gp Z) (gl Z) (ge Z) R (gs Z) (gm Z) (ga Z) (gb Z) (gme Z) (gc Z) H locs cells slots (gQ Z) (F0 (gm Z) pc ls st)
/-- what stays the same through a method -/
def gC (Z : gZ) (cc : ByteArray) (nL : Nat) (own : String) (Ts : List Cond) (E : gE) : Prop :=
  (gp Z).tables.exec = Jvm.exec ∧ (gc Z).code = cc ∧ (gc Z).maxLocals = nL ∧ (gs Z).vm.findClass own = some (gm Z).cls ∧ (∀ w ∈ Ts, w.before (ga Z) (gs Z) = true) ∧ va_K E.1 E.2.1 E.2.2 (gs Z) ∧ (∀ q : Nat, (gH Z).size ≤ q → gA Z q) ∧ (gme Z).locks = false ∧ gN (gs Z)
/-- which addresses a method may write -/
def gAd (ad : Nat → Nat) (u : gW) (sz : Nat) : Nat → Prop := fun q => (∃ n : Nat, u n ≠ none ∧ q = ad n) ∨ sz ≤ q
def gPre (E : gE) (ad : Nat → Nat) (u : gW) (sz : Nat) (U : State) : Prop := U.heap.size = sz ∧ gP E ad u U.heap ∧ va_K E.1 E.2.1 E.2.2 U ∧ gN U
def gPost (E : gE) (ad : Nat → Nat) (A : Nat → Prop) (Post : Option Value → gW → Nat → Prop) : Array Value → State → Outcome → State → Prop := fun _ st oc t =>
  ∃ (v : Option Value) (u : gW) (sz : Nat), oc = .returned v ∧ Post v u sz ∧ t.heap.size = sz ∧ gP E ad u t.heap ∧ gI A ad u ∧ va_K E.1 E.2.1 E.2.2 t ∧ va_F A st t
/-- a contract: called with argsV in the world u at ad, heap of size sz, it returns with Post -/
def gMet (l : Launch) (E : gE) (y : MethodName) (cc : ByteArray) (maxL : Nat) (ret : Option FieldType) (rm : Room) (argsV : List Value) (ad : Nat → Nat) (u : gW) (sz : Nat) (Post : Option Value → gW → Nat → Prop) : Prop :=
  Met l y (Cond.code y cc maxL ret :: gT) rm (va_Pc argsV (gPre E ad u sz)) (gPost E ad (gAd ad u sz) Post) rm.cells rm.slots (gAd ad u sz)
/-- the end of a method: what gQ is -/
def gR (Z : gZ) (E : gE) (ad : Nat → Nat) (cells slots : Nat) (Post : Option Value → gW → Nat → Prop) : Prop :=
  gQ Z = MQ (gb Z) (gPost E ad (gA Z) Post) (ga Z) (gs Z) cells slots (gA Z) ∧ gH Z = (gs Z).heap
theorem gI_gAd {ad : Nat → Nat} {u : gW} {sz : Nat} : gI (gAd ad u sz) ad u := fun n h => Or.inl ⟨n, h, rfl⟩
theorem gMet_of {l : Launch} {E : gE} {y : MethodName} {rm : Room} {argsV : List Value} {ad : Nat → Nat} {u : gW} {sz : Nat} {Post : Option Value → gW → Nat → Prop} {cc : ByteArray} {maxL : Nat} {ret : Option FieldType}
    (own : String) (ho : y.cls = own) (hy : plainName y.cls = true) (hn : (lg_sl argsV).length ≤ maxL) {lv : List (Nat × Value)} (hlv : lv_args 0 argsV = lv)
    (body : ∀ Z : gZ, gl Z = l → gC Z cc maxL own gT E → gR Z E ad rm.cells rm.slots Post → (gme Z).sig.returnType = ret → (gme Z).name = y.name → GW Z rm maxL E ad u sz lv 0 0 0 []) : gMet l E y cc maxL ret rm argsV ad u sz Post := by
  refine Met.ofW (cc := cc) (maxL := maxL) (ret := ret) hy rfl ?_
  intro p e s m args below meth c s₁ B hml hv
  obtain ⟨rfl, hsz, hP, hK, hN⟩ := hv
  have hts := atoms_spec (ws := Cond.code y cc maxL ret :: gT) B.pre
  have hown : s.vm.findClass y.cls = some m.cls := findClass_of_methodNamed B.named
  rw [ho] at hown
  have hname := (name_of_methodNamed B.named B.method).1
  have hl := lv_entry argsV (n := maxL) hn
  rw [lg_entry_eq]
  have hA : ∀ q : Nat, s.heap.size ≤ q → gAd ad u sz q := fun q h => Or.inr (by rw [← hsz]; exact h)
  have K := body (p, l, e, s, m, argsV.toArray, below, meth, c, gAd ad u sz, s.heap, MQ below (gPost E ad (gAd ad u sz) Post) argsV.toArray s rm.cells rm.slots (gAd ad u sz)) rfl
    ⟨B.exec, B.bytes, hml, hown, fun w h => hts w (List.mem_cons_of_mem _ h), hK, hA, B.notSynchronized, hN⟩ ⟨rfl, rfl⟩ B.returns hname
  exact K s.heap [] _ hsz hP gI_gAd va_S.rf (by rw [← hlv]; exact hl)
