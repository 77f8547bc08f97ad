/-! new, dup, ldc, the throwable's own making, athrow -/
set_option maxHeartbeats 4000000 in
theorem g_throwS {Z : gZ} {R : Room} {cc : ByteArray} {nL : Nat} {own : String} {E : gE} {ad : Nat → Nat} {u : gW} {sz : Nat} {lv : List (Nat × Value)} {cells slots pc : Nat} {cls : String} {ic0 idx ic : Nat} (C : gC Z cc nL own gT E) (D : gRT Z E ad u sz cls R) (htr : noTr (gl Z))
    (hat : ∀ a ∈ Bundle.ownAtoms own ic cls ["java/lang/RuntimeException", "java/lang/Exception"], a ∈ gT ∨ a ∈ thL) (hstr : strR (gs Z) own idx) (hfit : Bundle.fit cls = true)
    (hcl : Cond.classLink own ic0 cls ∈ gT) (hins : Cond.instantiable cls 6 ∈ gT) (hini : Cond.initialized cls ∈ gT)
    (hd0 : decode cc pc = .ok (.new ic0, 3)) (hd1 : decode cc (pc + 3) = .ok (.dup, 1)) (hd2 : decode cc (pc + 4) = .ok (.ldc idx, 2)) (hd3 : decode cc (pc + 6) = .ok (.invokespecial ic, 3)) (hd4 : decode cc (pc + 9) = .ok (.athrow, 1))
    (hRf : 5 < R.frames) (hRl : 82 ≤ R.locals) (hcells : cells + 1 = R.cells) (hslots : slots + 6 = R.slots) : GW Z R nL E ad u sz lv cells slots pc [] := by
  intro H locs ls h1 h2 h3 h4 h5
  obtain ⟨dQ, dH, dA, dsz, dP, dTh, dno⟩ := D
  have hts := C.2.2.2.2.1
  refine W.newc C.1 C.2.1 C.2.2.2.1 (hts _ hcl) (hts _ hins) (hts _ hini) (g := F0 (gm Z) pc ls []) rfl hd0 (by omega) (by omega) fun cC kC k1 k2 k3 k4 => ?_
  refine lv_dup (pc := pc + 3) C.1 C.2.1 hd1 rfl ?_
  intro T hT X
  have hTh : ∀ q : Nat, q < H.size → T.heap[q]? = H[q]? := fun q hq => by
    rw [hT, Array.getElem?_push_lt hq]
    exact (Array.getElem?_eq_getElem hq).symm
  obtain ⟨sa, hldc⟩ := w_ldcS X C.1 (own := own) (index := idx) C.2.2.2.1 hstr (g := F0 (gm Z) (pc + 4) ls [.ref H.size, .ref H.size]) rfl (by rw [C.2.1]; exact hd2)
  have X' : Stand (gp Z) (gl Z) (ge Z) R (gs Z) (gm Z) (ga Z) (gb Z) (gme Z) (gc Z) T (chL (gs Z) T locs) (cells + 1) (slots + 6) := { X with same := chL_same X.same }
  have hnew : (gs Z).heap.size ≤ H.size := by rw [h1, dsz]; exact Nat.le_refl _
  have hstat : ∀ q ∈ chL (gs Z) T locs, ∀ cell, (gs Z).heap[q.base]? = some cell → cell.vm.isStatics = false := fun q hq cell hc => by
    have hA := h4.2.2 q (chL_in.mp hq).1
    rw [dA] at hA
    rcases hA with ⟨n, hn, he⟩ | hge
    · cases hu : u n with
      | none => exact absurd hu hn
      | some e =>
        have hv := dP.1 n e hu
        rw [he] at hc
        cases e with
        | inl a =>
          have g1 : cell = vp_cell a.1 a.2 := Option.some.inj (hc.symm.trans hv)
          rw [g1]
          obtain ⟨cA, N, f⟩ := a
          rcases f with f | f | f | f | f <;> rfl
        | inr o =>
          obtain ⟨r, -, c0, c1, -, c3, -⟩ := hv
          have g1 : cell = c0 := Option.some.inj (hc.symm.trans c1)
          rw [g1, c3]; rfl
    · have := (Array.getElem?_eq_some_iff.mp hc).1
      rw [dsz] at this; omega
  obtain ⟨U, hU1, hU2, hU3, hU4, hU5, ce, hU6, hU7⟩ := X'.ctorThrowS C.1 (htr _ X.admits) (own := own) (cls := cls) (names := ["java/lang/RuntimeException", "java/lang/Exception"]) (ic := ic) C.2.2.2.1 hfit (by decide)
    (fun a ha => (hat a ha).elim (fun q => hts a q) (fun q => by
      have := dTh.1 a q
      simp only [thL, List.mem_cons, List.not_mem_nil, or_false] at q
      rcases q with rfl | rfl | rfl | rfl | rfl | rfl | rfl | rfl | rfl <;> exact this)) hstat
    (a := H.size) (cX := cC) (kX := kC) k1 k2 (by rw [hT]; simp [freshCell]) hnew (msg := .ref sa) rfl
    (g := { F0 (gm Z) (pc + 4) ls [.ref H.size, .ref H.size] with pc := pc + 4 + 2, stack := .ref sa :: [.ref H.size, .ref H.size] }) rfl (by rw [C.2.2.1]; exact h5.1) rfl rfl (rest := []) rfl (by rw [C.2.1]; exact hd3) (by rw [C.2.1]; exact hd4) (fun x hx => by rw [dno] at hx; cases hx) (by simpa using hRf) (by simpa [JFrame.monitorRoom, Value.category] using hRl) C.2.2.2.2.2.2.2.1
  have esz : H.size = (gs Z).heap.size := h1.trans dsz.symm
  rw [dQ]
  refine ⟨U, hldc U hU1, .threw H.size, hU2, hU3, by rw [esz], hU4, ⟨chL (gs Z) T locs, by rw [← hcells, ← hslots]; exact hU5, fun q hq => by rw [← dA]; exact h4.2.2 q (chL_in.mp hq).1⟩, ⟨fun n e he => ?_, h2.2⟩, ⟨hU5.2.1, fun q hq hA => ?_⟩, ce, by rw [← esz]; exact hU6, hU7.vm, hU7.cls⟩
  · have hvH := h2.1 n e he
    have hvT : va_at E.1 E.2.1 (ad n, e) T.heap := hvH.kept (hTh _ hvH.lt)
    exact va_keep (t := { U with vm := (gs Z).vm }) (dP.1 n e he) hvT hU5
  · cases hc : (gs Z).heap[q]? with
    | none => exact absurd hc (by rw [Array.getElem?_eq_getElem hq]; exact fun h => by cases h)
    | some c =>
      have hno : ∀ i, (⟨q, i⟩ : Loc) ∉ chL (gs Z) T locs := fun i hi => hA (by
        have := h4.2.2 _ (chL_in.mp hi).1
        rw [dA] at this
        exact this)
      exact (cell_same (t := { U with vm := (gs Z).vm }) hU5 hc hno).trans rfl
