theorem gP_one {E : gE} {ad : Nat → Nat} {u : gW} {H : Heap} {n : Nat} {e : va_E} (h : gP E ad u H) (he : u n = some e) : va_P E.1 E.2.1 [(ad n, e)] H := by
  intro k q hk
  have hz : k < 1 := (List.getElem?_eq_some_iff.mp hk).1
  rw [show k = 0 by omega] at hk
  cases hk
  exact h.1 n e he
theorem gP_set {E : gE} {ad : Nat → Nat} {u : gW} {H H1 : Heap} {n : Nat} {e0 e : va_E} (h : gP E ad u H) (hn : u n = some e0) (he : va_at E.1 E.2.1 (ad n, e) H1) (oq : ∀ q : Nat, q ≠ ad n → H1[q]? = H[q]?) : gP E ad (gup u n e) H1 := by
  have dom : ∀ k, gup u n e k ≠ none → u k ≠ none := by
    intro k hk
    by_cases hkn : k = n
    · subst hkn; rw [hn]; exact fun h => by cases h
    · rwa [gup_ne hkn] at hk
  refine ⟨fun k e' hk => ?_, fun a b ha hb hab => h.2 a b (dom a ha) (dom b hb) hab⟩
  by_cases hkn : k = n
  · subst hkn
    rw [gup_self] at hk
    cases hk
    exact he
  · rw [gup_ne hkn] at hk
    refine (h.1 k e' hk).kept (oq _ fun hq => hkn (h.2 k n (by rw [hk]; exact fun h => by cases h) (by rw [hn]; exact fun h => by cases h) hq))
theorem gI_set {A : Nat → Prop} {ad : Nat → Nat} {u : gW} {n : Nat} {e0 e : va_E} (h : gI A ad u) (hn : u n = some e0) : gI A ad (gup u n e) := by
  intro k hk
  by_cases hkn : k = n
  · subst hkn; exact h k (by rw [hn]; exact fun h => by cases h)
  · rw [gup_ne hkn] at hk; exact h k hk
theorem gI_at {A : Nat → Prop} {ad : Nat → Nat} {u : gW} {n : Nat} {e0 : va_E} (h : gI A ad u) (hn : u n = some e0) : A (ad n) := h n (by rw [hn]; exact fun h => by cases h)
theorem gP_new {E : gE} {ad : Nat → Nat} {u : gW} {H H1 : Heap} {n : Nat} {e : va_E} (h : gP E ad u H) (hn : u n = none) (ha : ad n = H.size) (he : va_at E.1 E.2.1 (ad n, e) H1) (oq : ∀ q : Nat, q < H.size → H1[q]? = H[q]?) : gP E ad (gup u n e) H1 := by
  have lt : ∀ k, u k ≠ none → ad k < H.size := by
    intro k hk
    cases hu : u k with
    | none => exact absurd hu hk
    | some e' => exact (h.1 k e' hu).lt
  refine ⟨fun k e' hk => ?_, fun a b h1 h2 hab => ?_⟩
  · by_cases hkn : k = n
    · subst hkn
      rw [gup_self] at hk
      cases hk
      exact he
    · rw [gup_ne hkn] at hk
      exact (h.1 k e' hk).kept (oq _ (h.1 k e' hk).lt)
  · by_cases ha1 : a = n
    · by_cases hb1 : b = n
      · rw [ha1, hb1]
      · rw [gup_ne hb1] at h2
        have := lt b h2
        subst ha1
        omega
    · rw [gup_ne ha1] at h1
      by_cases hb1 : b = n
      · have := lt a h1
        subst hb1
        omega
      · rw [gup_ne hb1] at h2
        exact h.2 a b h1 h2 hab
theorem gI_new {A : Nat → Prop} {ad : Nat → Nat} {u : gW} {n : Nat} {e : va_E} (h : gI A ad u) (hA : A (ad n)) : gI A ad (gup u n e) := by
  intro k hk
  by_cases hkn : k = n
  · subst hkn; exact hA
  · rw [gup_ne hkn] at hk; exact h k hk
section GH
variable {Z : gZ} {R : Room} {cc : ByteArray} {nL : Nat} {own : String} {Ts : List Cond} {E : gE} {ad : Nat → Nat} {u : gW} {sz : Nat} {lv : List (Nat × Value)} {cells slots pc : Nat} {st : List Value}
theorem g_get {ref C0 : String} {T : u_T} {N ci index : Nat} {fs : List Value} {v : Value} (n k : Nat) (C : gC Z cc nL own Ts E) (he : u n = some (.inr (ci, fs))) (hc : E.2.1[ci]? = some (C0, T, N)) (hin : ∀ w ∈ u_ws C0 T N, w ∈ Ts) (hk : k < N) (hlink : Cond.fieldLink own index ref (T k).2.1 (T k).2.2.1 ∈ Ts) (href : ref = (T k).1) (hv : fs[k]? = some v) (hd : decode cc pc = .ok (.getfield index, 3))
    (kk : GW Z R nL E ad u sz lv cells slots (pc + 3) (v :: st)) : GW Z R nL E ad u sz lv cells slots pc (.ref (ad n) :: st) := fun H locs ls h1 h2 h3 h4 h5 =>
  va_get C.1 C.2.1 C.2.2.2.2.1 hin C.2.2.2.1 C.2.2.2.2.2.1 (gP_one h2 he) 0 rfl hc k hk (C.2.2.2.2.1 _ hlink) (fun _ h9 => by rw [href]; exact h9) hv hd (kk H locs ls h1 h2 h3 h4 h5)
theorem g_put {ref C0 : String} {T : u_T} {N ci index : Nat} {fs : List Value} {v : Value} (n k : Nat) (C : gC Z cc nL own Ts E) (he : u n = some (.inr (ci, fs))) (hc : E.2.1[ci]? = some (C0, T, N)) (hin : ∀ w ∈ u_ws C0 T N, w ∈ Ts) (ty0 : Nat → FieldType) (hty : ∀ k, k < N → parseFieldDescriptor (T k).2.2.1 = some (ty0 k)) (hnm : ∀ a, a < N → ∀ b, b < N → a ≠ b → (T a).2.1 ≠ (T b).2.1) (hk : k < N) (hlink : Cond.fieldLink own index ref (T k).2.1 (T k).2.2.1 ∈ Ts) (href : ref = (T k).1) (hfin : (T k).2.2.2 = false) (hn : narrow (ty0 k) v = v) (hfit : fits (ty0 k) v = true) (hl : k < fs.length) (hd : decode cc pc = .ok (.putfield index, 3))
    (kk : GW Z R nL E ad (gup u n (.inr (ci, fs.set k v))) sz lv cells slots (pc + 3) st) : GW Z R nL E ad u sz lv cells slots pc (v :: .ref (ad n) :: st) := by
  intro H locs ls h1 h2 h3 h4 h5
  obtain ⟨hx, hb, hml, hown, hts, hK, hA, hlk⟩ := C
  have hap := va_apart (own := own) hts hin ty0 hty hnm hK hc
  obtain ⟨r, g1, cell, q1, q2, q3, q4⟩ := h2.1 n _ he
  have hr : r = (C0, T, N) := Option.some.inj (g1.symm.trans hc)
  subst hr
  obtain ⟨hS, hfc, kC, hkC, hkind⟩ := hK.1 ci _ hc
  obtain ⟨cf, kf, fi, f, hi, hsl⟩ := hS k hk
  have hlay := hts _ (hin _ (u_in_lay hk))
  unfold u_lay at hlay
  rw [if_neg (by rw [hfin]; decide)] at hlay
  have hst := (u_facts hfc hkC (u_lays hts hin hk) hi).1
  have h6 := u_store hfc hkC hkind hlay hi (hty k hk) hn hfit
  subst href
  refine W.putK hx hb (f := f) ⟨hown, hts _ hlink, ⟨_, _, _, hi⟩, hst⟩ (by rw [q2]; exact h6) q1 q3 (by rw [hsl]; exact k2_hasslot (q4 k hk)) rfl rfl hd fun H' e1 e2 e3 => ?_
  rw [hsl] at e1 ⊢
  exact kk H' _ ls (e2.trans h1) (gP_set h2 he ⟨_, hc, t_OB.to (V := updV (vp_V fs) k v) ⟨_, e1, q2, q3, t_set q4 hap hk v⟩ (fun j _ => vp_updV_set hl v j)⟩ e3) (gI_set h3 he) (h4.put e2 e3 (gI_at h3 he)) h5
theorem g_putF {ref C0 : String} {T : u_T} {N ci index : Nat} {fs : List Value} {v : Value} (n k : Nat) (C : gC Z cc nL own Ts E) (hini : (gme Z).name = "<init>") (he : u n = some (.inr (ci, fs))) (hc : E.2.1[ci]? = some (C0, T, N)) (hin : ∀ w ∈ u_ws C0 T N, w ∈ Ts) (ty0 : Nat → FieldType) (hty : ∀ k, k < N → parseFieldDescriptor (T k).2.2.1 = some (ty0 k)) (hnm : ∀ a, a < N → ∀ b, b < N → a ≠ b → (T a).2.1 ≠ (T b).2.1) (hk : k < N) (hlink : Cond.fieldLink own index ref (T k).2.1 (T k).2.2.1 ∈ Ts) (href : ref = (T k).1) (hfin : (T k).2.2.2 = true) (hdecl : (T k).1 = own) (hn : narrow (ty0 k) v = v) (hfit : fits (ty0 k) v = true) (hl : k < fs.length) (hd : decode cc pc = .ok (.putfield index, 3))
    (kk : GW Z R nL E ad (gup u n (.inr (ci, fs.set k v))) sz lv cells slots (pc + 3) st) : GW Z R nL E ad u sz lv cells slots pc (v :: .ref (ad n) :: st) := by
  intro H locs ls h1 h2 h3 h4 h5
  obtain ⟨hx, hb, hml, hown, hts, hK, hA, hlk⟩ := C
  have hap := va_apart (own := own) hts hin ty0 hty hnm hK hc
  obtain ⟨r, g1, cell, q1, q2, q3, q4⟩ := h2.1 n _ he
  have hr : r = (C0, T, N) := Option.some.inj (g1.symm.trans hc)
  subst hr
  obtain ⟨hS, hfc, kC, hkC, hkind⟩ := hK.1 ci _ hc
  obtain ⟨cf, kf, fi, f, hi, hsl⟩ := hS k hk
  have hlay := hts _ (hin _ (u_in_lay hk))
  unfold u_lay at hlay
  rw [if_pos hfin] at hlay
  have hst := (u_facts hfc hkC (u_lays hts hin hk) hi).1
  have hcf : (gm Z).cls = cf := by
    obtain ⟨_, _, c', _, _, _, -, -, hf', -, -, -, hown2, -⟩ := Cond.laysFinal_spec hlay
    have e1 : c' = cf := by have := hi.symm.trans hf'; simp at this; exact this.1.symm
    rw [hdecl] at hown2
    rw [← e1]; exact Option.some.inj (hown.symm.trans hown2)
  have h6 := u_fits hfc hkC hkind (Or.inr hlay) hi (hty k hk) hn hfit
  subst href
  refine W.putFinK hx hb hown (hts _ hlink) hi hst hcf hini (by rw [q2]; exact h6) q1 q3 (by rw [hsl]; exact k2_hasslot (q4 k hk)) rfl rfl hd fun H' e1 e2 e3 => ?_
  rw [hsl] at e1 ⊢
  exact kk H' _ ls (e2.trans h1) (gP_set h2 he ⟨_, hc, t_OB.to (V := updV (vp_V fs) k v) ⟨_, e1, q2, q3, t_set q4 hap hk v⟩ (fun j _ => vp_updV_set hl v j)⟩ e3) (gI_set h3 he) (h4.put e2 e3 (gI_at h3 he)) h5
theorem g_iald {cA : ClassId} {N : Nat} {f : Nat → Int32} {i : Int32} (n t0 : Nat) (C : gC Z cc nL own Ts E) (he : u n = some (.inl (cA, N, .inl f))) (ht : E.2.2[t0]? = some (cA, .int)) (hin : vp_in i N) (hd : decode cc pc = .ok (.iaload, 1))
    (kk : GW Z R nL E ad u sz lv cells slots (pc + 1) (.int (f i.toNatClampNeg) :: st)) : GW Z R nL E ad u sz lv cells slots pc (.int i :: .ref (ad n) :: st) := fun H locs ls h1 h2 h3 h4 h5 =>
  va_iald C.1 C.2.1 C.2.2.2.2.2.1 (gP_one h2 he) 0 t0 rfl ht hin hd (kk H locs ls h1 h2 h3 h4 h5)
theorem g_zald {cA : ClassId} {N : Nat} {f : Nat → Int32} {i : Int32} (n t0 : Nat) (C : gC Z cc nL own Ts E) (he : u n = some (.inl (cA, N, .inl f))) (ht : E.2.2[t0]? = some (cA, .boolean)) (hin : vp_in i N) (hd : decode cc pc = .ok (.baload, 1))
    (kk : GW Z R nL E ad u sz lv cells slots (pc + 1) (.int (f i.toNatClampNeg) :: st)) : GW Z R nL E ad u sz lv cells slots pc (.int i :: .ref (ad n) :: st) := fun H locs ls h1 h2 h3 h4 h5 =>
  va_zald C.1 C.2.1 C.2.2.2.2.2.1 (gP_one h2 he) 0 t0 rfl ht hin hd (kk H locs ls h1 h2 h3 h4 h5)
theorem g_lald {cA : ClassId} {N : Nat} {f : Nat → Int64} {i : Int32} (n t0 : Nat) (C : gC Z cc nL own Ts E) (he : u n = some (.inl (cA, N, .inr (.inl f)))) (ht : E.2.2[t0]? = some (cA, .long)) (hin : vp_in i N) (hd : decode cc pc = .ok (.laload, 1))
    (kk : GW Z R nL E ad u sz lv cells slots (pc + 1) (.long (f i.toNatClampNeg) :: st)) : GW Z R nL E ad u sz lv cells slots pc (.int i :: .ref (ad n) :: st) := fun H locs ls h1 h2 h3 h4 h5 =>
  va_lald C.1 C.2.1 C.2.2.2.2.2.1 (gP_one h2 he) 0 t0 rfl ht hin hd (kk H locs ls h1 h2 h3 h4 h5)
theorem g_aald {C0 : String} {cA : ClassId} {N : Nat} {f : Nat → Option Nat} {i : Int32} (n t0 : Nat) (C : gC Z cc nL own Ts E) (he : u n = some (.inl (cA, N, .inr (.inr (.inr (.inr f)))))) (ht : E.2.2[t0]? = some (cA, .object C0)) (hin : vp_in i N) (r : Option Nat) (hr : f i.toNatClampNeg = r) (hd : decode cc pc = .ok (.aaload, 1))
    (kk : GW Z R nL E ad u sz lv cells slots (pc + 1) (va_rf r :: st)) : GW Z R nL E ad u sz lv cells slots pc (.int i :: .ref (ad n) :: st) := fun H locs ls h1 h2 h3 h4 h5 =>
  va_aldq C.1 C.2.1 C.2.2.2.2.2.1 (gP_one h2 he) 0 t0 rfl ht hin hd (by rw [hr]; exact kk H locs ls h1 h2 h3 h4 h5)
theorem g_alen {cA : ClassId} {x : vp_A} {ty : FieldType} (n t0 : Nat) (v : Int32) (C : gC Z cc nL own Ts E) (he : u n = some (.inl (cA, x))) (ht : E.2.2[t0]? = some (cA, ty)) (hv : Int32.ofNat x.1 = v) (hd : decode cc pc = .ok (.arraylength, 1))
    (kk : GW Z R nL E ad u sz lv cells slots (pc + 1) (.int v :: st)) : GW Z R nL E ad u sz lv cells slots pc (.ref (ad n) :: st) := fun H locs ls h1 h2 h3 h4 h5 =>
  va_alen C.1 C.2.1 C.2.2.2.2.2.1 (gP_one h2 he) 0 t0 rfl ht hv hd (kk H locs ls h1 h2 h3 h4 h5)
theorem g_iast {cA : ClassId} {N : Nat} {f : Nat → Int32} {i x : Int32} (n t0 : Nat) (C : gC Z cc nL own Ts E) (he : u n = some (.inl (cA, N, .inl f))) (ht : E.2.2[t0]? = some (cA, .int)) (hin : vp_in i N) (hd : decode cc pc = .ok (.iastore, 1))
    (kk : GW Z R nL E ad (gup u n (.inl (cA, N, .inl (upd f i.toNatClampNeg x)))) sz lv cells slots (pc + 1) st) : GW Z R nL E ad u sz lv cells slots pc (.int x :: .int i :: .ref (ad n) :: st) := by
  intro H locs ls h1 h2 h3 h4 h5
  refine W.iast C.1 C.2.1 (h2.1 n _ he) ((C.2.2.2.2.2.1.2 t0 _ ht).1 N (fun j => .int (f j))) (fun q => by cases q) (by show ¬ (i < 0 ∨ (arrV _ _ _).slots.size ≤ _); rw [arrV_size]; exact hin) rfl rfl hd fun H1 e z oq => ?_
  refine kk H1 _ ls (z.trans h1) (gP_set h2 he ?_ oq) (gI_set h3 he) (h4.put z oq (gI_at h3 he)) h5
  show H1[ad n]? = some (vp_cell _ _)
  rw [e]
  rw [vp_cell_i, vp_cell_i, arrV_store]
  congr 2
  funext q
  by_cases hq : q = i.toNatClampNeg
  · subst hq
    simp [updV, upd]
  · simp [updV, upd, hq]
theorem g_zast {cA : ClassId} {N : Nat} {f : Nat → Int32} {i x : Int32} (n t0 : Nat) (C : gC Z cc nL own Ts E) (he : u n = some (.inl (cA, N, .inl f))) (ht : E.2.2[t0]? = some (cA, .boolean)) (hin : vp_in i N) (hd : decode cc pc = .ok (.bastore, 1))
    (kk : GW Z R nL E ad (gup u n (.inl (cA, N, .inl (upd f i.toNatClampNeg (vp_nar .boolean x))))) sz lv cells slots (pc + 1) st) : GW Z R nL E ad u sz lv cells slots pc (.int x :: .int i :: .ref (ad n) :: st) := by
  intro H locs ls h1 h2 h3 h4 h5
  refine W.zast C.1 C.2.1 (h2.1 n _ he) ((C.2.2.2.2.2.1.2 t0 _ ht).1 N (fun j => .int (f j))) (fun q => by cases q) (by show ¬ (i < 0 ∨ (arrV _ _ _).slots.size ≤ _); rw [arrV_size]; exact hin) rfl rfl hd fun H1 e z oq => ?_
  refine kk H1 _ ls (z.trans h1) (gP_set h2 he ?_ oq) (gI_set h3 he) (h4.put z oq (gI_at h3 he)) h5
  show H1[ad n]? = some (vp_cell _ _)
  rw [e]
  rw [vp_cell_i, vp_cell_i, arrV_store]
  congr 2
  funext q
  by_cases hq : q = i.toNatClampNeg
  · subst hq
    simp [updV, upd, vp_nar]
    try rfl
  · simp [updV, upd, hq]
theorem g_last {cA : ClassId} {N : Nat} {f : Nat → Int64} {i : Int32} {x : Int64} (n t0 : Nat) (C : gC Z cc nL own Ts E) (he : u n = some (.inl (cA, N, .inr (.inl f)))) (ht : E.2.2[t0]? = some (cA, .long)) (hin : vp_in i N) (hd : decode cc pc = .ok (.lastore, 1))
    (kk : GW Z R nL E ad (gup u n (.inl (cA, N, .inr (.inl (vp_updL f i.toNatClampNeg x))))) sz lv cells slots (pc + 1) st) : GW Z R nL E ad u sz lv cells slots pc (.long x :: .int i :: .ref (ad n) :: st) := by
  intro H locs ls h1 h2 h3 h4 h5
  refine W.last C.1 C.2.1 (h2.1 n _ he) ((C.2.2.2.2.2.1.2 t0 _ ht).1 N (fun j => .long (f j))) (fun q => by cases q) (by show ¬ (i < 0 ∨ (arrV _ _ _).slots.size ≤ _); rw [arrV_size]; exact hin) rfl rfl hd fun H1 e z oq => ?_
  refine kk H1 _ ls (z.trans h1) (gP_set h2 he ?_ oq) (gI_set h3 he) (h4.put z oq (gI_at h3 he)) h5
  show H1[ad n]? = some (vp_cell _ _)
  rw [e]
  rw [vp_cell_l, vp_cell_l, arrV_store]
  congr 2
  funext q
  by_cases hq : q = i.toNatClampNeg
  · subst hq
    simp [updV, vp_updL]
  · simp [updV, vp_updL, hq]
theorem g_aast {cA : ClassId} {r : vw_C} {N ci : Nat} {f : Nat → Option Nat} {vs : List Value} {i : Int32} (n k t0 : Nat) (C : gC Z cc nL own Ts E) (he : u n = some (.inl (cA, N, .inr (.inr (.inr (.inr f)))))) (ht : E.2.2[t0]? = some (cA, .object r.1)) (hv : u k = some (.inr (ci, vs))) (hc : E.2.1[ci]? = some r) (hin : vp_in i N) (hd : decode cc pc = .ok (.aastore, 1))
    (kk : GW Z R nL E ad (gup u n (.inl (cA, N, .inr (.inr (.inr (.inr (va_up f i.toNatClampNeg (some (ad k))))))))) sz lv cells slots (pc + 1) st) : GW Z R nL E ad u sz lv cells slots pc (.ref (ad k) :: .int i :: .ref (ad n) :: st) := by
  intro H locs ls h1 h2 h3 h4 h5
  obtain ⟨hx, hb, hml, hown, hts, hK, hA, hlk⟩ := C
  have hlt : i.toNatClampNeg < N := Nat.not_le.mp fun q => hin (Or.inr q)
  have h0 : ¬ i < 0 := fun q => hin (Or.inl q)
  obtain ⟨r', hr', cellV, g1, g2, g3, -⟩ := h2.1 k _ hv
  have hcls := (hK.1 ci r hc).2
  obtain ⟨kA, comp, k1, k2, k3, -⟩ := (hK.2 t0 _ ht).2
  have hcomp : comp = E.1.1 ci := Option.some.inj (k3.symm.trans hcls.1)
  subst hcomp
  obtain ⟨kC, hkC, -⟩ := hcls.2
  refine W.aast hx hb (h2.1 n _ he) (fun q h => by cases h) (fun h => by cases h) k1 k2 rfl hkC ⟨h0, by show _ < (arrV _ _ _).slots.size; rw [arrV_size]; exact hlt⟩ g1 (fun q h => by rw [g3] at h; cases h) (by rw [g2]; exact hkC) (by rw [g2]; exact va_assign hcls) rfl rfl hd fun H1 e z oq => ?_
  refine kk H1 _ ls (z.trans h1) (gP_set h2 he ?_ oq) (gI_set h3 he) (h4.put z oq (gI_at h3 he)) h5
  show H1[ad n]? = some (vp_cell _ _)
  rw [e]
  rw [vp_cell_q, vp_cell_q, arrV_store]
  congr 2
  funext q
  by_cases hq : q = i.toNatClampNeg
  · subst hq
    simp [updV, va_up, va_rf]
  · simp [updV, va_up, hq]
theorem g_new {C0 : String} {T : u_T} {N ci index : Nat} {fs : List Value} (n : Nat) (C : gC Z cc nL own Ts E) (hn : u n = none) (ha : ad n = sz) (hc : E.2.1[ci]? = some (C0, T, N)) (hin : ∀ w ∈ u_ws C0 T N, w ∈ Ts) (ty0 : Nat → FieldType) (hty : ∀ k, k < N → parseFieldDescriptor (T k).2.2.1 = some (ty0 k)) (hcl : Cond.classLink own index C0 ∈ Ts) (hinst : Cond.instantiable C0 N ∈ Ts) (hini : Cond.initialized C0 ∈ Ts) (hfs : ∀ j, j < N → defaultValue (ty0 j) = vp_V fs j) (hcells : cells + 1 ≤ R.cells) (hslots : slots + N ≤ R.slots) (hd : decode cc pc = .ok (.new index, 3))
    (kk : GW Z R nL E ad (gup u n (.inr (ci, fs))) (sz + 1) lv (cells + 1) (slots + N) (pc + 3) (.ref (ad n) :: st)) : GW Z R nL E ad u sz lv cells slots pc st := by
  intro H locs ls h1 h2 h3 h4 h5
  obtain ⟨hx, hb, hml, hown, hts, hK, hA, hlk⟩ := C
  have hKn := hK.1 ci _ hc
  have hsz : ad n = H.size := ha.trans h1.symm
  refine W.newcK hx hb hown (hts _ hcl) (hts _ hinst) (hts _ hini) rfl hd hcells hslots hKn.2.1 rfl fun H1 kC hkC e1 z1 o1 => ?_
  have K := kk H1 locs ls (by rw [z1, h1]) (gP_new h2 hn hsz (show va_at E.1 E.2.1 (ad n, .inr (ci, fs)) H1 by
    rw [hsz]
    exact ⟨_, hc, (u_born ty0 hts hin hKn hkC e1 hty).to hfs⟩) o1) (gI_new h3 (hA _ (by rw [hsz]; exact h4.1)))
    ⟨Nat.le_trans h4.1 (by omega), fun x g1 g2 => (o1 x (Nat.lt_of_lt_of_le g1 h4.1)).trans (h4.2.1 x g1 g2), h4.2.2⟩ h5
  rw [hsz] at K
  exact K
theorem g_newa {atype : ArrayType} {ty : FieldType} {i : Int32} {N : Nat} {cA : ClassId} {a0 : vp_A} (n t0 : Nat) (C : gC Z cc nL own Ts E) (hn : u n = none) (ha : ad n = sz) (harr : Cond.arrayClass (newarray.typeOf atype) ∈ Ts) (hty : newarray.typeOf atype = ty) (ht : E.2.2[t0]? = some (cA, ty)) (hcell : ∀ cA : ClassId, vp_cell cA a0 = arrV cA N (fun _ => defaultValue ty)) (hi : ¬ i < 0) (hN : i.toNatClampNeg = N) (hbytes : N * componentBytes ty ≤ 536870912) (hcells : cells + 1 ≤ R.cells) (hslots : slots + N ≤ R.slots) (hd : decode cc pc = .ok (.newarray atype, 2))
    (kk : GW Z R nL E ad (gup u n (.inl (cA, a0))) (sz + 1) lv (cells + 1) (slots + N) (pc + 2) (.ref (ad n) :: st)) : GW Z R nL E ad u sz lv cells slots pc (.int i :: st) := by
  intro H locs ls h1 h2 h3 h4 h5
  obtain ⟨hx, hb, hml, hown, hts, hK, hA, hlk⟩ := C
  have hsz : ad n = H.size := ha.trans h1.symm
  subst hty
  refine va_newaK hx hb (hts _ harr) rfl hd rfl hi hN hbytes hcells hslots rfl fun H1 cA' e1 z1 o1 hAr hNm => ?_
  have hsame : cA' = cA := by
    have h9 := (hK.2 t0 _ ht).2
    have h8 : (gs Z).vm.findClass ("[" ++ (newarray.typeOf atype).toString) = some cA := by
      cases atype <;> exact h9
    exact Option.some.inj (hNm.symm.trans h8)
  subst hsame
  have K := kk H1 locs ls (by rw [z1, h1]) (gP_new h2 hn hsz (show va_at E.1 E.2.1 (ad n, .inl (cA', a0)) H1 by
    rw [hsz]
    show H1[H.size]? = some (vp_cell _ _)
    rw [hcell]; exact e1) o1) (gI_new h3 (hA _ (by rw [hsz]; exact h4.1)))
    ⟨Nat.le_trans h4.1 (by omega), fun x g1 g2 => (o1 x (Nat.lt_of_lt_of_le g1 h4.1)).trans (h4.2.1 x g1 g2), h4.2.2⟩ h5
  rw [hsz] at K
  exact K
theorem g_objInit {idx n : Nat} (C : gC Z cc nL own Ts E) (hlink : Cond.methodLink own idx Lib.objectInit ∈ Ts) (hinst : Cond.instanceMethod Lib.objectInit ∈ Ts) (hcode : Cond.code Lib.objectInit ⟨#[0xb1]⟩ 1 none ∈ Ts) (hd : decode cc pc = .ok (.invokespecial idx, 3)) (hf : 1 ≤ R.frames) (hlo : (st.map fun v => v.category).sum + 12 ≤ R.locals)
    (kk : GW Z R nL E ad u sz lv cells slots (pc + 3) st) : GW Z R nL E ad u sz lv cells slots pc (.ref n :: st) := by
  intro H locs ls h1 h2 h3 h4 h5
  refine W.objInit C.1 C.2.1 C.2.2.2.1 (C.2.2.2.2.1 _ hlink) (C.2.2.2.2.1 _ hinst) (C.2.2.2.2.1 _ hcode) rfl (by rw [C.2.2.1]; exact h5.1) rfl hd hf ?_ ?_
  · simpa [JFrame.monitorRoom] using hlo
  · exact kk H locs ls h1 h2 h3 h4 h5
theorem g_iret {v : Int32} {Post : Option Value → gW → Nat → Prop} (C : gC Z cc nL own Ts E) (r : gR Z E ad cells slots Post) (hr : (gme Z).sig.returnType = some .int) (hp : Post (some (.int v)) u sz) (hd : decode cc pc = .ok (.ireturn, 1)) : GW Z R nL E ad u sz lv cells slots pc [.int v] := by
  intro H locs ls h1 h2 h3 h4 h5
  rw [r.1]
  exact W.iret C.1 C.2.1 hr (fun t ht hW => ⟨_, u, sz, rfl, hp, by rw [ht]; exact h1, by rw [ht]; exact h2, h3, va_K.moved hW.alike C.2.2.2.2.2.1, by have h := h4; rw [r.2] at h; exact h.F ht⟩) h4.2.2 hd C.2.2.2.2.2.2.2.1
theorem g_zret {v : Int32} {Post : Option Value → gW → Nat → Prop} (C : gC Z cc nL own Ts E) (r : gR Z E ad cells slots Post) (hr : (gme Z).sig.returnType = some .boolean) (hn : narrow .boolean (.int v) = .int v) (hp : Post (some (.int v)) u sz) (hd : decode cc pc = .ok (.ireturn, 1)) : GW Z R nL E ad u sz lv cells slots pc [.int v] := by
  intro H locs ls h1 h2 h3 h4 h5
  rw [r.1]
  exact W.zret C.1 C.2.1 hr hn (fun t ht hW => ⟨_, u, sz, rfl, hp, by rw [ht]; exact h1, by rw [ht]; exact h2, h3, va_K.moved hW.alike C.2.2.2.2.2.1, by have h := h4; rw [r.2] at h; exact h.F ht⟩) h4.2.2 hd C.2.2.2.2.2.2.2.1
theorem g_lret {v : Int64} {Post : Option Value → gW → Nat → Prop} (C : gC Z cc nL own Ts E) (r : gR Z E ad cells slots Post) (hr : (gme Z).sig.returnType = some .long) (hp : Post (some (.long v)) u sz) (hd : decode cc pc = .ok (.lreturn, 1)) : GW Z R nL E ad u sz lv cells slots pc [.long v] := by
  intro H locs ls h1 h2 h3 h4 h5
  rw [r.1]
  exact W.lret C.1 C.2.1 hr (fun t ht hW => ⟨_, u, sz, rfl, hp, by rw [ht]; exact h1, by rw [ht]; exact h2, h3, va_K.moved hW.alike C.2.2.2.2.2.1, by have h := h4; rw [r.2] at h; exact h.F ht⟩) h4.2.2 hd C.2.2.2.2.2.2.2.1
theorem g_vret {Post : Option Value → gW → Nat → Prop} (C : gC Z cc nL own Ts E) (r : gR Z E ad cells slots Post) (hr : (gme Z).sig.returnType = none) (hp : Post none u sz) (hd : decode cc pc = .ok (.return_, 1)) : GW Z R nL E ad u sz lv cells slots pc [] := by
  intro H locs ls h1 h2 h3 h4 h5
  rw [r.1]
  exact W.vret C.1 C.2.1 hr (fun t ht hW => ⟨_, u, sz, rfl, hp, by rw [ht]; exact h1, by rw [ht]; exact h2, h3, va_K.moved hW.alike C.2.2.2.2.2.1, by have h := h4; rw [r.2] at h; exact h.F ht⟩) h4.2.2 hd C.2.2.2.2.2.2.2.1
theorem g_aret {v : Value} {rt : FieldType} {Post : Option Value → gW → Nat → Prop} (C : gC Z cc nL own Ts E) (r : gR Z E ad cells slots Post) (hr : (gme Z).sig.returnType = some rt) (hrt : (∃ n, rt = .object n) ∨ ∃ t, rt = .array t) (hv : v = .null ∨ ∃ a, v = .ref a) (hp : Post (some v) u sz) (hd : decode cc pc = .ok (.areturn, 1)) : GW Z R nL E ad u sz lv cells slots pc [v] := by
  intro H locs ls h1 h2 h3 h4 h5
  rw [r.1]
  exact W.aret C.1 C.2.1 hr hrt hv (fun t ht hW => ⟨_, u, sz, rfl, hp, by rw [ht]; exact h1, by rw [ht]; exact h2, h3, va_K.moved hW.alike C.2.2.2.2.2.1, by have h := h4; rw [r.2] at h; exact h.F ht⟩) h4.2.2 hd C.2.2.2.2.2.2.2.1
end GH
