section GNQ
variable {Z : gZ} {R : Room} {cc : ByteArray} {nL : Nat} {own : String} {Ts : List Cond} {E : gE} {ad : Nat → Nat} {u : gW} {sz : Nat} {lv : List (Nat × Value)} {cells slots pc : Nat} {st : List Value}
theorem g_newq {C0 : String} {index : Nat} {i : Int32} {N : Nat} {cA : ClassId} (n t0 : Nat) (C : gC Z cc nL own Ts E) (hn : u n = none) (ha : ad n = sz) (hcl : Cond.classLink own index C0 ∈ Ts) (hover : va_AO C0 (gs Z)) (ht : E.2.2[t0]? = some (cA, .object C0)) (hi : ¬ i < 0) (hN : i.toNatClampNeg = N) (hbytes : N * 4 ≤ 536870912) (hcells : cells + 1 ≤ R.cells) (hslots : slots + N ≤ R.slots) (hd : decode cc pc = .ok (.anewarray index, 3))
    (kk : GW Z R nL E ad (gup u n (.inl (cA, N, .inr (.inr (.inr (.inr (fun _ => none))))))) (sz + 1) lv (cells + 1) (slots + N) (pc + 3) (.ref (ad n) :: st)) : GW Z R nL E ad u sz lv cells slots pc (.int i :: st) := by
  intro H locs ls h1 h2 h3 h4 h5
  obtain ⟨hx, hb, hml, hown, hts, hK, hA, hlk⟩ := C
  have hsz : ad n = H.size := ha.trans h1.symm
  subst hN
  refine W.anew hx hb hown (hts _ hcl) (va_AO.use hover) rfl hd rfl hi hbytes hcells hslots fun cA' kA comp f1 f2 f3 f4 => ?_
  obtain ⟨kA2, comp2, k1, k2, k3, k4⟩ := (hK.2 t0 _ ht).2
  have hsame : cA' = cA := Option.some.inj (f1.symm.trans k4)
  subst hsame
  generalize hH1 : H.push ({ cls := cA', slots := Array.replicate i.toNatClampNeg .null, vm := .none } : Cell) = H1
  have z1 : H1.size = H.size + 1 := by rw [← hH1, Array.size_push]
  have e1 : H1[H.size]? = some (arrV cA' i.toNatClampNeg (fun _ => .null)) := by rw [← hH1, Array.getElem?_push_size, ← arrV_new]
  have o1 : ∀ q : Nat, q < H.size → H1[q]? = H[q]? := fun q hq => by rw [← hH1, Array.getElem?_push, if_neg (Nat.ne_of_lt hq)]
  have K := kk H1 locs ls (by rw [z1, h1]) (gP_new h2 hn hsz (show va_at E.1 E.2.1 (ad n, .inl (cA', i.toNatClampNeg, .inr (.inr (.inr (.inr (fun _ => none)))))) H1 by
    rw [hsz]
    show H1[H.size]? = some (vp_cell _ _)
    rw [vp_cell_q]; exact e1) o1) (gI_new h3 (hA _ (by rw [hsz]; exact h4.1)))
    ⟨Nat.le_trans h4.1 (by omega), fun x g1 g2 => (o1 x (Nat.lt_of_lt_of_le g1 h4.1)).trans (h4.2.1 x g1 g2), h4.2.2⟩ h5
  rw [hsz] at K
  exact K
end GNQ
set_option maxHeartbeats 4000000 in
set_option maxRecDepth 100000 in
theorem k_S_init (l : Launch) (X : gX) (ad : Nat → Nat) (u : gW) (sz : Nat) (t : Nat) (hb : u t = some (.inr (4, [.null, .null, .null, .null, .null, .int 0, .int 0, .int 0, .int 0])))  (hf0 : u (t + 1) = none) (ha0 : ad (t + 1) = sz) (hf1 : u (t + 2) = none) (ha1 : ad (t + 2) = sz + 1) (hf2 : u (t + 3) = none) (ha2 : ad (t + 3) = sz + 2) (hf3 : u (t + 4) = none) (ha3 : ad (t + 4) = sz + 3) (hf4 : u (t + 5) = none) (ha4 : ad (t + 5) = sz + 4) : gMet l (EE X) y_S_init c_S_init 1 none ({ frames := 1, cells := 5, slots := 60, locals := 20 }) [.ref (ad t)] ad u sz (fun v u' sz' => v = none ∧ u' = gup (gup (gup (gup (gup (gup u t (.inr (4, [.ref (ad (t + 1)), .ref (ad (t + 2)), .ref (ad (t + 3)), .ref (ad (t + 4)), .ref (ad (t + 5)), .int 0, .int 0, .int 0, .int 0]))) (t + 1) (.inl ((X.2 0), 12, .inl (fun _ => 0)))) (t + 2) (.inl ((X.2 0), 12, .inl (fun _ => 0)))) (t + 3) (.inl ((X.2 0), 12, .inl (fun _ => 0)))) (t + 4) (.inl ((X.2 1), 12, .inr (.inl (fun _ => 0))))) (t + 5) (.inl ((X.2 2), 12, .inl (fun _ => 0))) ∧ sz' = sz + 5) := by
  refine gMet_of "ExpenseClubs$Settlement" rfl (by decide) (Nat.le_of_ble_eq_true rfl) (lv := [(0, .ref (ad t))]) rfl (fun Z hZl C hR hret hname => ?_)
  refine g_aload_n C d_S_init_0 rfl 0 rfl ?_
  refine g_objInit C (gmem wd_114 rfl) (gmem wd_21 rfl) (gmem wd_22 rfl) d_S_init_1 (Nat.le_of_ble_eq_true rfl) (Nat.le_of_ble_eq_true rfl) ?_
  refine g_aload_n C d_S_init_4 rfl 0 rfl ?_
  refine g_bipush (v := 12) C d_S_init_5 (by decide) ?_
  refine g_newa (atype := .int) (ty := .int) (cA := (X.2 0)) (N := 12) (a0 := (12, .inl (fun _ => 0))) (t + 1) 0 C hf0 ha0 (gmem wd_80 rfl) rfl rfl (fun _ => rfl) (by decide) (by decide) (by decide) (Nat.le_of_ble_eq_true rfl) (Nat.le_of_ble_eq_true rfl) d_S_init_7 ?_
  obtain ⟨u1, hu1⟩ : ∃ z, z = gup u (t + 1) (.inl ((X.2 0), 12, .inl (fun _ => 0))) := ⟨_, rfl⟩
  rw [← hu1]
  have hu1_0 : u1 t = some (.inr (4, [.null, .null, .null, .null, .null, .int 0, .int 0, .int 0, .int 0])) := by rw [hu1, gup_ne (by omega)]; exact hb
  have hu1_1 : u1 (t + 1) = some (.inl ((X.2 0), 12, .inl (fun _ => 0))) := by rw [hu1]; exact gup_self _ _ _
  have hu1_f1 : u1 (t + 2) = none := by rw [hu1, gup_ne (by omega)]; exact hf1
  have hu1_f2 : u1 (t + 3) = none := by rw [hu1, gup_ne (by omega)]; exact hf2
  have hu1_f3 : u1 (t + 4) = none := by rw [hu1, gup_ne (by omega)]; exact hf3
  have hu1_f4 : u1 (t + 5) = none := by rw [hu1, gup_ne (by omega)]; exact hf4
  show GW Z _ _ _ ad u1 (sz + 1) [(0, .ref (ad t))] 1 12 9 [.ref (ad (t + 1)), .ref (ad t)]
  refine g_putF t 0 C hname hu1_0 rfl i_S t_S t_S_ok n_S (by decide) (gmem wd_115 rfl) rfl rfl rfl rfl rfl (Nat.le_of_ble_eq_true rfl) d_S_init_9 ?_
  show GW Z _ _ _ ad (gup u1 t (.inr (4, [.ref (ad (t + 1)), .null, .null, .null, .null, .int 0, .int 0, .int 0, .int 0]))) _ _ _ _ _ _
  obtain ⟨u2, hu2⟩ : ∃ z, z = gup u1 t (.inr (4, [.ref (ad (t + 1)), .null, .null, .null, .null, .int 0, .int 0, .int 0, .int 0])) := ⟨_, rfl⟩
  rw [← hu2]
  have hu2_0 : u2 t = some (.inr (4, [.ref (ad (t + 1)), .null, .null, .null, .null, .int 0, .int 0, .int 0, .int 0])) := by rw [hu2]; exact gup_self _ _ _
  have hu2_1 : u2 (t + 1) = some (.inl ((X.2 0), 12, .inl (fun _ => 0))) := by rw [hu2, gup_ne (by omega)]; exact hu1_1
  have hu2_f0 : u2 (t + 2) = none := by rw [hu2, gup_ne (by omega)]; exact hu1_f1
  have hu2_f1 : u2 (t + 3) = none := by rw [hu2, gup_ne (by omega)]; exact hu1_f2
  have hu2_f2 : u2 (t + 4) = none := by rw [hu2, gup_ne (by omega)]; exact hu1_f3
  have hu2_f3 : u2 (t + 5) = none := by rw [hu2, gup_ne (by omega)]; exact hu1_f4
  refine g_aload_n C d_S_init_12 rfl 0 rfl ?_
  refine g_bipush (v := 12) C d_S_init_13 (by decide) ?_
  refine g_newa (atype := .int) (ty := .int) (cA := (X.2 0)) (N := 12) (a0 := (12, .inl (fun _ => 0))) (t + 2) 0 C hu2_f0 ha1 (gmem wd_80 rfl) rfl rfl (fun _ => rfl) (by decide) (by decide) (by decide) (Nat.le_of_ble_eq_true rfl) (Nat.le_of_ble_eq_true rfl) d_S_init_15 ?_
  obtain ⟨u3, hu3⟩ : ∃ z, z = gup u2 (t + 2) (.inl ((X.2 0), 12, .inl (fun _ => 0))) := ⟨_, rfl⟩
  rw [← hu3]
  have hu3_0 : u3 t = some (.inr (4, [.ref (ad (t + 1)), .null, .null, .null, .null, .int 0, .int 0, .int 0, .int 0])) := by rw [hu3, gup_ne (by omega)]; exact hu2_0
  have hu3_1 : u3 (t + 1) = some (.inl ((X.2 0), 12, .inl (fun _ => 0))) := by rw [hu3, gup_ne (by omega)]; exact hu2_1
  have hu3_2 : u3 (t + 2) = some (.inl ((X.2 0), 12, .inl (fun _ => 0))) := by rw [hu3]; exact gup_self _ _ _
  have hu3_f1 : u3 (t + 3) = none := by rw [hu3, gup_ne (by omega)]; exact hu2_f1
  have hu3_f2 : u3 (t + 4) = none := by rw [hu3, gup_ne (by omega)]; exact hu2_f2
  have hu3_f3 : u3 (t + 5) = none := by rw [hu3, gup_ne (by omega)]; exact hu2_f3
  show GW Z _ _ _ ad u3 (sz + 2) [(0, .ref (ad t))] 2 24 17 [.ref (ad (t + 2)), .ref (ad t)]
  refine g_putF t 1 C hname hu3_0 rfl i_S t_S t_S_ok n_S (by decide) (gmem wd_118 rfl) rfl rfl rfl rfl rfl (Nat.le_of_ble_eq_true rfl) d_S_init_17 ?_
  show GW Z _ _ _ ad (gup u3 t (.inr (4, [.ref (ad (t + 1)), .ref (ad (t + 2)), .null, .null, .null, .int 0, .int 0, .int 0, .int 0]))) _ _ _ _ _ _
  obtain ⟨u4, hu4⟩ : ∃ z, z = gup u3 t (.inr (4, [.ref (ad (t + 1)), .ref (ad (t + 2)), .null, .null, .null, .int 0, .int 0, .int 0, .int 0])) := ⟨_, rfl⟩
  rw [← hu4]
  have hu4_0 : u4 t = some (.inr (4, [.ref (ad (t + 1)), .ref (ad (t + 2)), .null, .null, .null, .int 0, .int 0, .int 0, .int 0])) := by rw [hu4]; exact gup_self _ _ _
  have hu4_1 : u4 (t + 1) = some (.inl ((X.2 0), 12, .inl (fun _ => 0))) := by rw [hu4, gup_ne (by omega)]; exact hu3_1
  have hu4_2 : u4 (t + 2) = some (.inl ((X.2 0), 12, .inl (fun _ => 0))) := by rw [hu4, gup_ne (by omega)]; exact hu3_2
  have hu4_f0 : u4 (t + 3) = none := by rw [hu4, gup_ne (by omega)]; exact hu3_f1
  have hu4_f1 : u4 (t + 4) = none := by rw [hu4, gup_ne (by omega)]; exact hu3_f2
  have hu4_f2 : u4 (t + 5) = none := by rw [hu4, gup_ne (by omega)]; exact hu3_f3
  refine g_aload_n C d_S_init_20 rfl 0 rfl ?_
  refine g_bipush (v := 12) C d_S_init_21 (by decide) ?_
  refine g_newa (atype := .int) (ty := .int) (cA := (X.2 0)) (N := 12) (a0 := (12, .inl (fun _ => 0))) (t + 3) 0 C hu4_f0 ha2 (gmem wd_80 rfl) rfl rfl (fun _ => rfl) (by decide) (by decide) (by decide) (Nat.le_of_ble_eq_true rfl) (Nat.le_of_ble_eq_true rfl) d_S_init_23 ?_
  obtain ⟨u5, hu5⟩ : ∃ z, z = gup u4 (t + 3) (.inl ((X.2 0), 12, .inl (fun _ => 0))) := ⟨_, rfl⟩
  rw [← hu5]
  have hu5_0 : u5 t = some (.inr (4, [.ref (ad (t + 1)), .ref (ad (t + 2)), .null, .null, .null, .int 0, .int 0, .int 0, .int 0])) := by rw [hu5, gup_ne (by omega)]; exact hu4_0
  have hu5_1 : u5 (t + 1) = some (.inl ((X.2 0), 12, .inl (fun _ => 0))) := by rw [hu5, gup_ne (by omega)]; exact hu4_1
  have hu5_2 : u5 (t + 2) = some (.inl ((X.2 0), 12, .inl (fun _ => 0))) := by rw [hu5, gup_ne (by omega)]; exact hu4_2
  have hu5_3 : u5 (t + 3) = some (.inl ((X.2 0), 12, .inl (fun _ => 0))) := by rw [hu5]; exact gup_self _ _ _
  have hu5_f1 : u5 (t + 4) = none := by rw [hu5, gup_ne (by omega)]; exact hu4_f1
  have hu5_f2 : u5 (t + 5) = none := by rw [hu5, gup_ne (by omega)]; exact hu4_f2
  show GW Z _ _ _ ad u5 (sz + 3) [(0, .ref (ad t))] 3 36 25 [.ref (ad (t + 3)), .ref (ad t)]
  refine g_putF t 2 C hname hu5_0 rfl i_S t_S t_S_ok n_S (by decide) (gmem wd_121 rfl) rfl rfl rfl rfl rfl (Nat.le_of_ble_eq_true rfl) d_S_init_25 ?_
  show GW Z _ _ _ ad (gup u5 t (.inr (4, [.ref (ad (t + 1)), .ref (ad (t + 2)), .ref (ad (t + 3)), .null, .null, .int 0, .int 0, .int 0, .int 0]))) _ _ _ _ _ _
  obtain ⟨u6, hu6⟩ : ∃ z, z = gup u5 t (.inr (4, [.ref (ad (t + 1)), .ref (ad (t + 2)), .ref (ad (t + 3)), .null, .null, .int 0, .int 0, .int 0, .int 0])) := ⟨_, rfl⟩
  rw [← hu6]
  have hu6_0 : u6 t = some (.inr (4, [.ref (ad (t + 1)), .ref (ad (t + 2)), .ref (ad (t + 3)), .null, .null, .int 0, .int 0, .int 0, .int 0])) := by rw [hu6]; exact gup_self _ _ _
  have hu6_1 : u6 (t + 1) = some (.inl ((X.2 0), 12, .inl (fun _ => 0))) := by rw [hu6, gup_ne (by omega)]; exact hu5_1
  have hu6_2 : u6 (t + 2) = some (.inl ((X.2 0), 12, .inl (fun _ => 0))) := by rw [hu6, gup_ne (by omega)]; exact hu5_2
  have hu6_3 : u6 (t + 3) = some (.inl ((X.2 0), 12, .inl (fun _ => 0))) := by rw [hu6, gup_ne (by omega)]; exact hu5_3
  have hu6_f0 : u6 (t + 4) = none := by rw [hu6, gup_ne (by omega)]; exact hu5_f1
  have hu6_f1 : u6 (t + 5) = none := by rw [hu6, gup_ne (by omega)]; exact hu5_f2
  refine g_aload_n C d_S_init_28 rfl 0 rfl ?_
  refine g_bipush (v := 12) C d_S_init_29 (by decide) ?_
  refine g_newa (atype := .long) (ty := .long) (cA := (X.2 1)) (N := 12) (a0 := (12, .inr (.inl (fun _ => 0)))) (t + 4) 1 C hu6_f0 ha3 (gmem wd_60 rfl) rfl rfl (fun _ => rfl) (by decide) (by decide) (by decide) (Nat.le_of_ble_eq_true rfl) (Nat.le_of_ble_eq_true rfl) d_S_init_31 ?_
  obtain ⟨u7, hu7⟩ : ∃ z, z = gup u6 (t + 4) (.inl ((X.2 1), 12, .inr (.inl (fun _ => 0)))) := ⟨_, rfl⟩
  rw [← hu7]
  have hu7_0 : u7 t = some (.inr (4, [.ref (ad (t + 1)), .ref (ad (t + 2)), .ref (ad (t + 3)), .null, .null, .int 0, .int 0, .int 0, .int 0])) := by rw [hu7, gup_ne (by omega)]; exact hu6_0
  have hu7_1 : u7 (t + 1) = some (.inl ((X.2 0), 12, .inl (fun _ => 0))) := by rw [hu7, gup_ne (by omega)]; exact hu6_1
  have hu7_2 : u7 (t + 2) = some (.inl ((X.2 0), 12, .inl (fun _ => 0))) := by rw [hu7, gup_ne (by omega)]; exact hu6_2
  have hu7_3 : u7 (t + 3) = some (.inl ((X.2 0), 12, .inl (fun _ => 0))) := by rw [hu7, gup_ne (by omega)]; exact hu6_3
  have hu7_4 : u7 (t + 4) = some (.inl ((X.2 1), 12, .inr (.inl (fun _ => 0)))) := by rw [hu7]; exact gup_self _ _ _
  have hu7_f1 : u7 (t + 5) = none := by rw [hu7, gup_ne (by omega)]; exact hu6_f1
  show GW Z _ _ _ ad u7 (sz + 4) [(0, .ref (ad t))] 4 48 33 [.ref (ad (t + 4)), .ref (ad t)]
  refine g_putF t 3 C hname hu7_0 rfl i_S t_S t_S_ok n_S (by decide) (gmem wd_124 rfl) rfl rfl rfl rfl rfl (Nat.le_of_ble_eq_true rfl) d_S_init_33 ?_
  show GW Z _ _ _ ad (gup u7 t (.inr (4, [.ref (ad (t + 1)), .ref (ad (t + 2)), .ref (ad (t + 3)), .ref (ad (t + 4)), .null, .int 0, .int 0, .int 0, .int 0]))) _ _ _ _ _ _
  obtain ⟨u8, hu8⟩ : ∃ z, z = gup u7 t (.inr (4, [.ref (ad (t + 1)), .ref (ad (t + 2)), .ref (ad (t + 3)), .ref (ad (t + 4)), .null, .int 0, .int 0, .int 0, .int 0])) := ⟨_, rfl⟩
  rw [← hu8]
  have hu8_0 : u8 t = some (.inr (4, [.ref (ad (t + 1)), .ref (ad (t + 2)), .ref (ad (t + 3)), .ref (ad (t + 4)), .null, .int 0, .int 0, .int 0, .int 0])) := by rw [hu8]; exact gup_self _ _ _
  have hu8_1 : u8 (t + 1) = some (.inl ((X.2 0), 12, .inl (fun _ => 0))) := by rw [hu8, gup_ne (by omega)]; exact hu7_1
  have hu8_2 : u8 (t + 2) = some (.inl ((X.2 0), 12, .inl (fun _ => 0))) := by rw [hu8, gup_ne (by omega)]; exact hu7_2
  have hu8_3 : u8 (t + 3) = some (.inl ((X.2 0), 12, .inl (fun _ => 0))) := by rw [hu8, gup_ne (by omega)]; exact hu7_3
  have hu8_4 : u8 (t + 4) = some (.inl ((X.2 1), 12, .inr (.inl (fun _ => 0)))) := by rw [hu8, gup_ne (by omega)]; exact hu7_4
  have hu8_f0 : u8 (t + 5) = none := by rw [hu8, gup_ne (by omega)]; exact hu7_f1
  refine g_aload_n C d_S_init_36 rfl 0 rfl ?_
  refine g_bipush (v := 12) C d_S_init_37 (by decide) ?_
  refine g_newa (atype := .boolean) (ty := .boolean) (cA := (X.2 2)) (N := 12) (a0 := (12, .inl (fun _ => 0))) (t + 5) 2 C hu8_f0 ha4 (gmem wd_159 rfl) rfl rfl (fun _ => rfl) (by decide) (by decide) (by decide) (Nat.le_of_ble_eq_true rfl) (Nat.le_of_ble_eq_true rfl) d_S_init_39 ?_
  obtain ⟨u9, hu9⟩ : ∃ z, z = gup u8 (t + 5) (.inl ((X.2 2), 12, .inl (fun _ => 0))) := ⟨_, rfl⟩
  rw [← hu9]
  have hu9_0 : u9 t = some (.inr (4, [.ref (ad (t + 1)), .ref (ad (t + 2)), .ref (ad (t + 3)), .ref (ad (t + 4)), .null, .int 0, .int 0, .int 0, .int 0])) := by rw [hu9, gup_ne (by omega)]; exact hu8_0
  have hu9_1 : u9 (t + 1) = some (.inl ((X.2 0), 12, .inl (fun _ => 0))) := by rw [hu9, gup_ne (by omega)]; exact hu8_1
  have hu9_2 : u9 (t + 2) = some (.inl ((X.2 0), 12, .inl (fun _ => 0))) := by rw [hu9, gup_ne (by omega)]; exact hu8_2
  have hu9_3 : u9 (t + 3) = some (.inl ((X.2 0), 12, .inl (fun _ => 0))) := by rw [hu9, gup_ne (by omega)]; exact hu8_3
  have hu9_4 : u9 (t + 4) = some (.inl ((X.2 1), 12, .inr (.inl (fun _ => 0)))) := by rw [hu9, gup_ne (by omega)]; exact hu8_4
  have hu9_5 : u9 (t + 5) = some (.inl ((X.2 2), 12, .inl (fun _ => 0))) := by rw [hu9]; exact gup_self _ _ _
  show GW Z _ _ _ ad u9 (sz + 5) [(0, .ref (ad t))] 5 60 41 [.ref (ad (t + 5)), .ref (ad t)]
  refine g_putF t 4 C hname hu9_0 rfl i_S t_S t_S_ok n_S (by decide) (gmem wd_127 rfl) rfl rfl rfl rfl rfl (Nat.le_of_ble_eq_true rfl) d_S_init_41 ?_
  show GW Z _ _ _ ad (gup u9 t (.inr (4, [.ref (ad (t + 1)), .ref (ad (t + 2)), .ref (ad (t + 3)), .ref (ad (t + 4)), .ref (ad (t + 5)), .int 0, .int 0, .int 0, .int 0]))) _ _ _ _ _ _
  obtain ⟨u10, hu10⟩ : ∃ z, z = gup u9 t (.inr (4, [.ref (ad (t + 1)), .ref (ad (t + 2)), .ref (ad (t + 3)), .ref (ad (t + 4)), .ref (ad (t + 5)), .int 0, .int 0, .int 0, .int 0])) := ⟨_, rfl⟩
  rw [← hu10]
  have hu10_0 : u10 t = some (.inr (4, [.ref (ad (t + 1)), .ref (ad (t + 2)), .ref (ad (t + 3)), .ref (ad (t + 4)), .ref (ad (t + 5)), .int 0, .int 0, .int 0, .int 0])) := by rw [hu10]; exact gup_self _ _ _
  have hu10_1 : u10 (t + 1) = some (.inl ((X.2 0), 12, .inl (fun _ => 0))) := by rw [hu10, gup_ne (by omega)]; exact hu9_1
  have hu10_2 : u10 (t + 2) = some (.inl ((X.2 0), 12, .inl (fun _ => 0))) := by rw [hu10, gup_ne (by omega)]; exact hu9_2
  have hu10_3 : u10 (t + 3) = some (.inl ((X.2 0), 12, .inl (fun _ => 0))) := by rw [hu10, gup_ne (by omega)]; exact hu9_3
  have hu10_4 : u10 (t + 4) = some (.inl ((X.2 1), 12, .inr (.inl (fun _ => 0)))) := by rw [hu10, gup_ne (by omega)]; exact hu9_4
  have hu10_5 : u10 (t + 5) = some (.inl ((X.2 2), 12, .inl (fun _ => 0))) := by rw [hu10, gup_ne (by omega)]; exact hu9_5
  have hfin11 : u10 = gup (gup (gup (gup (gup (gup u t (.inr (4, [.ref (ad (t + 1)), .ref (ad (t + 2)), .ref (ad (t + 3)), .ref (ad (t + 4)), .ref (ad (t + 5)), .int 0, .int 0, .int 0, .int 0]))) (t + 1) (.inl ((X.2 0), 12, .inl (fun _ => 0)))) (t + 2) (.inl ((X.2 0), 12, .inl (fun _ => 0)))) (t + 3) (.inl ((X.2 0), 12, .inl (fun _ => 0)))) (t + 4) (.inl ((X.2 1), 12, .inr (.inl (fun _ => 0))))) (t + 5) (.inl ((X.2 2), 12, .inl (fun _ => 0))) := by
    funext k
    by_cases hk0 : k = t
    · rw [hk0, hu10_0, gup_ne (by omega), gup_ne (by omega), gup_ne (by omega), gup_ne (by omega), gup_ne (by omega), gup_self]
    by_cases hk1 : k = t + 1
    · rw [hk1, hu10_1, gup_ne (by omega), gup_ne (by omega), gup_ne (by omega), gup_ne (by omega), gup_self]
    by_cases hk2 : k = t + 2
    · rw [hk2, hu10_2, gup_ne (by omega), gup_ne (by omega), gup_ne (by omega), gup_self]
    by_cases hk3 : k = t + 3
    · rw [hk3, hu10_3, gup_ne (by omega), gup_ne (by omega), gup_self]
    by_cases hk4 : k = t + 4
    · rw [hk4, hu10_4, gup_ne (by omega), gup_self]
    by_cases hk5 : k = t + 5
    · rw [hk5, hu10_5, gup_self]
    rw [hu10, gup_ne hk0]
    rw [hu9, gup_ne hk5]
    rw [hu8, gup_ne hk0]
    rw [hu7, gup_ne hk4]
    rw [hu6, gup_ne hk0]
    rw [hu5, gup_ne hk3]
    rw [hu4, gup_ne hk0]
    rw [hu3, gup_ne hk2]
    rw [hu2, gup_ne hk0]
    rw [hu1, gup_ne hk1]
    rw [gup_ne hk5, gup_ne hk4, gup_ne hk3, gup_ne hk2, gup_ne hk1, gup_ne hk0]
  exact g_vret C hR hret ⟨rfl, hfin11, rfl⟩ d_S_init_44

set_option maxHeartbeats 4000000 in
set_option maxRecDepth 100000 in
theorem k_D_init (l : Launch) (X : gX) (ad : Nat → Nat) (u : gW) (sz : Nat) (d : Nat) (hb : u d = some (.inr (2, [.null, .null, .null, .int 0, .int 0, .int 0, .int 0])))  (hf0 : u (d + 1) = none) (ha0 : ad (d + 1) = sz) (hf1 : u (d + 2) = none) (ha1 : ad (d + 2) = sz + 1) : gMet l (EE X) y_D_init c_D_init 1 none ({ frames := 1, cells := 2, slots := 24, locals := 20 }) [.ref (ad d)] ad u sz (fun v u' sz' => v = none ∧ u' = gup (gup (gup u d (.inr (2, [.ref (ad (d + 1)), .ref (ad (d + 2)), .null, .int 0, .int 0, .int 0, .int 0]))) (d + 1) (.inl ((X.2 1), 12, .inr (.inl (fun _ => 0))))) (d + 2) (.inl ((X.2 1), 12, .inr (.inl (fun _ => 0)))) ∧ sz' = sz + 2) := by
  refine gMet_of "ExpenseClubs$Draft" rfl (by decide) (Nat.le_of_ble_eq_true rfl) (lv := [(0, .ref (ad d))]) rfl (fun Z hZl C hR hret hname => ?_)
  refine g_aload_n C d_D_init_0 rfl 0 rfl ?_
  refine g_objInit C (gmem wd_32 rfl) (gmem wd_21 rfl) (gmem wd_22 rfl) d_D_init_1 (Nat.le_of_ble_eq_true rfl) (Nat.le_of_ble_eq_true rfl) ?_
  refine g_aload_n C d_D_init_4 rfl 0 rfl ?_
  refine g_bipush (v := 12) C d_D_init_5 (by decide) ?_
  refine g_newa (atype := .long) (ty := .long) (cA := (X.2 1)) (N := 12) (a0 := (12, .inr (.inl (fun _ => 0)))) (d + 1) 1 C hf0 ha0 (gmem wd_60 rfl) rfl rfl (fun _ => rfl) (by decide) (by decide) (by decide) (Nat.le_of_ble_eq_true rfl) (Nat.le_of_ble_eq_true rfl) d_D_init_7 ?_
  obtain ⟨u1, hu1⟩ : ∃ z, z = gup u (d + 1) (.inl ((X.2 1), 12, .inr (.inl (fun _ => 0)))) := ⟨_, rfl⟩
  rw [← hu1]
  have hu1_0 : u1 d = some (.inr (2, [.null, .null, .null, .int 0, .int 0, .int 0, .int 0])) := by rw [hu1, gup_ne (by omega)]; exact hb
  have hu1_1 : u1 (d + 1) = some (.inl ((X.2 1), 12, .inr (.inl (fun _ => 0)))) := by rw [hu1]; exact gup_self _ _ _
  have hu1_f1 : u1 (d + 2) = none := by rw [hu1, gup_ne (by omega)]; exact hf1
  show GW Z _ _ _ ad u1 (sz + 1) [(0, .ref (ad d))] 1 12 9 [.ref (ad (d + 1)), .ref (ad d)]
  refine g_putF d 0 C hname hu1_0 rfl i_D t_D t_D_ok n_D (by decide) (gmem wd_33 rfl) rfl rfl rfl rfl rfl (Nat.le_of_ble_eq_true rfl) d_D_init_9 ?_
  show GW Z _ _ _ ad (gup u1 d (.inr (2, [.ref (ad (d + 1)), .null, .null, .int 0, .int 0, .int 0, .int 0]))) _ _ _ _ _ _
  obtain ⟨u2, hu2⟩ : ∃ z, z = gup u1 d (.inr (2, [.ref (ad (d + 1)), .null, .null, .int 0, .int 0, .int 0, .int 0])) := ⟨_, rfl⟩
  rw [← hu2]
  have hu2_0 : u2 d = some (.inr (2, [.ref (ad (d + 1)), .null, .null, .int 0, .int 0, .int 0, .int 0])) := by rw [hu2]; exact gup_self _ _ _
  have hu2_1 : u2 (d + 1) = some (.inl ((X.2 1), 12, .inr (.inl (fun _ => 0)))) := by rw [hu2, gup_ne (by omega)]; exact hu1_1
  have hu2_f0 : u2 (d + 2) = none := by rw [hu2, gup_ne (by omega)]; exact hu1_f1
  refine g_aload_n C d_D_init_12 rfl 0 rfl ?_
  refine g_bipush (v := 12) C d_D_init_13 (by decide) ?_
  refine g_newa (atype := .long) (ty := .long) (cA := (X.2 1)) (N := 12) (a0 := (12, .inr (.inl (fun _ => 0)))) (d + 2) 1 C hu2_f0 ha1 (gmem wd_60 rfl) rfl rfl (fun _ => rfl) (by decide) (by decide) (by decide) (Nat.le_of_ble_eq_true rfl) (Nat.le_of_ble_eq_true rfl) d_D_init_15 ?_
  obtain ⟨u3, hu3⟩ : ∃ z, z = gup u2 (d + 2) (.inl ((X.2 1), 12, .inr (.inl (fun _ => 0)))) := ⟨_, rfl⟩
  rw [← hu3]
  have hu3_0 : u3 d = some (.inr (2, [.ref (ad (d + 1)), .null, .null, .int 0, .int 0, .int 0, .int 0])) := by rw [hu3, gup_ne (by omega)]; exact hu2_0
  have hu3_1 : u3 (d + 1) = some (.inl ((X.2 1), 12, .inr (.inl (fun _ => 0)))) := by rw [hu3, gup_ne (by omega)]; exact hu2_1
  have hu3_2 : u3 (d + 2) = some (.inl ((X.2 1), 12, .inr (.inl (fun _ => 0)))) := by rw [hu3]; exact gup_self _ _ _
  show GW Z _ _ _ ad u3 (sz + 2) [(0, .ref (ad d))] 2 24 17 [.ref (ad (d + 2)), .ref (ad d)]
  refine g_putF d 1 C hname hu3_0 rfl i_D t_D t_D_ok n_D (by decide) (gmem wd_35 rfl) rfl rfl rfl rfl rfl (Nat.le_of_ble_eq_true rfl) d_D_init_17 ?_
  show GW Z _ _ _ ad (gup u3 d (.inr (2, [.ref (ad (d + 1)), .ref (ad (d + 2)), .null, .int 0, .int 0, .int 0, .int 0]))) _ _ _ _ _ _
  obtain ⟨u4, hu4⟩ : ∃ z, z = gup u3 d (.inr (2, [.ref (ad (d + 1)), .ref (ad (d + 2)), .null, .int 0, .int 0, .int 0, .int 0])) := ⟨_, rfl⟩
  rw [← hu4]
  have hu4_0 : u4 d = some (.inr (2, [.ref (ad (d + 1)), .ref (ad (d + 2)), .null, .int 0, .int 0, .int 0, .int 0])) := by rw [hu4]; exact gup_self _ _ _
  have hu4_1 : u4 (d + 1) = some (.inl ((X.2 1), 12, .inr (.inl (fun _ => 0)))) := by rw [hu4, gup_ne (by omega)]; exact hu3_1
  have hu4_2 : u4 (d + 2) = some (.inl ((X.2 1), 12, .inr (.inl (fun _ => 0)))) := by rw [hu4, gup_ne (by omega)]; exact hu3_2
  have hfin5 : u4 = gup (gup (gup u d (.inr (2, [.ref (ad (d + 1)), .ref (ad (d + 2)), .null, .int 0, .int 0, .int 0, .int 0]))) (d + 1) (.inl ((X.2 1), 12, .inr (.inl (fun _ => 0))))) (d + 2) (.inl ((X.2 1), 12, .inr (.inl (fun _ => 0)))) := by
    funext k
    by_cases hk0 : k = d
    · rw [hk0, hu4_0, gup_ne (by omega), gup_ne (by omega), gup_self]
    by_cases hk1 : k = d + 1
    · rw [hk1, hu4_1, gup_ne (by omega), gup_self]
    by_cases hk2 : k = d + 2
    · rw [hk2, hu4_2, gup_self]
    rw [hu4, gup_ne hk0]
    rw [hu3, gup_ne hk2]
    rw [hu2, gup_ne hk0]
    rw [hu1, gup_ne hk1]
    rw [gup_ne hk2, gup_ne hk1, gup_ne hk0]
  exact g_vret C hR hret ⟨rfl, hfin5, rfl⟩ d_D_init_20

set_option maxHeartbeats 4000000 in
set_option maxRecDepth 100000 in
theorem k_G_init (l : Launch) (X : gX) (ad : Nat → Nat) (u : gW) (sz : Nat) (g : Nat) (hb : u g = some (.inr (3, [.null, .null, .null, .int 0])))  (hf0 : u (g + 1) = none) (ha0 : ad (g + 1) = sz) (hf1 : u (g + 2) = none) (ha1 : ad (g + 2) = sz + 1) (hf2 : u (g + 3) = none) (ha2 : ad (g + 3) = sz + 2) : gMet l (EE X) y_G_init c_G_init 1 none ({ frames := 1, cells := 3, slots := 4120, locals := 20 }) [.ref (ad g)] ad u sz (fun v u' sz' => v = none ∧ u' = gup (gup (gup (gup u g (.inr (3, [.ref (ad (g + 1)), .ref (ad (g + 2)), .ref (ad (g + 3)), .int 0]))) (g + 1) (.inl ((X.2 0), 12, .inl (fun _ => 0)))) (g + 2) (.inl ((X.2 1), 12, .inr (.inl (fun _ => 0))))) (g + 3) (.inl ((X.2 0), 4096, .inl (fun _ => 0))) ∧ sz' = sz + 3) := by
  refine gMet_of "ExpenseClubs$Grouping" rfl (by decide) (Nat.le_of_ble_eq_true rfl) (lv := [(0, .ref (ad g))]) rfl (fun Z hZl C hR hret hname => ?_)
  refine g_aload_n C d_G_init_0 rfl 0 rfl ?_
  refine g_objInit C (gmem wd_66 rfl) (gmem wd_21 rfl) (gmem wd_22 rfl) d_G_init_1 (Nat.le_of_ble_eq_true rfl) (Nat.le_of_ble_eq_true rfl) ?_
  refine g_aload_n C d_G_init_4 rfl 0 rfl ?_
  refine g_bipush (v := 12) C d_G_init_5 (by decide) ?_
  refine g_newa (atype := .int) (ty := .int) (cA := (X.2 0)) (N := 12) (a0 := (12, .inl (fun _ => 0))) (g + 1) 0 C hf0 ha0 (gmem wd_80 rfl) rfl rfl (fun _ => rfl) (by decide) (by decide) (by decide) (Nat.le_of_ble_eq_true rfl) (Nat.le_of_ble_eq_true rfl) d_G_init_7 ?_
  obtain ⟨u1, hu1⟩ : ∃ z, z = gup u (g + 1) (.inl ((X.2 0), 12, .inl (fun _ => 0))) := ⟨_, rfl⟩
  rw [← hu1]
  have hu1_0 : u1 g = some (.inr (3, [.null, .null, .null, .int 0])) := by rw [hu1, gup_ne (by omega)]; exact hb
  have hu1_1 : u1 (g + 1) = some (.inl ((X.2 0), 12, .inl (fun _ => 0))) := by rw [hu1]; exact gup_self _ _ _
  have hu1_f1 : u1 (g + 2) = none := by rw [hu1, gup_ne (by omega)]; exact hf1
  have hu1_f2 : u1 (g + 3) = none := by rw [hu1, gup_ne (by omega)]; exact hf2
  show GW Z _ _ _ ad u1 (sz + 1) [(0, .ref (ad g))] 1 12 9 [.ref (ad (g + 1)), .ref (ad g)]
  refine g_putF g 0 C hname hu1_0 rfl i_G t_G t_G_ok n_G (by decide) (gmem wd_67 rfl) rfl rfl rfl rfl rfl (Nat.le_of_ble_eq_true rfl) d_G_init_9 ?_
  show GW Z _ _ _ ad (gup u1 g (.inr (3, [.ref (ad (g + 1)), .null, .null, .int 0]))) _ _ _ _ _ _
  obtain ⟨u2, hu2⟩ : ∃ z, z = gup u1 g (.inr (3, [.ref (ad (g + 1)), .null, .null, .int 0])) := ⟨_, rfl⟩
  rw [← hu2]
  have hu2_0 : u2 g = some (.inr (3, [.ref (ad (g + 1)), .null, .null, .int 0])) := by rw [hu2]; exact gup_self _ _ _
  have hu2_1 : u2 (g + 1) = some (.inl ((X.2 0), 12, .inl (fun _ => 0))) := by rw [hu2, gup_ne (by omega)]; exact hu1_1
  have hu2_f0 : u2 (g + 2) = none := by rw [hu2, gup_ne (by omega)]; exact hu1_f1
  have hu2_f1 : u2 (g + 3) = none := by rw [hu2, gup_ne (by omega)]; exact hu1_f2
  refine g_aload_n C d_G_init_12 rfl 0 rfl ?_
  refine g_bipush (v := 12) C d_G_init_13 (by decide) ?_
  refine g_newa (atype := .long) (ty := .long) (cA := (X.2 1)) (N := 12) (a0 := (12, .inr (.inl (fun _ => 0)))) (g + 2) 1 C hu2_f0 ha1 (gmem wd_60 rfl) rfl rfl (fun _ => rfl) (by decide) (by decide) (by decide) (Nat.le_of_ble_eq_true rfl) (Nat.le_of_ble_eq_true rfl) d_G_init_15 ?_
  obtain ⟨u3, hu3⟩ : ∃ z, z = gup u2 (g + 2) (.inl ((X.2 1), 12, .inr (.inl (fun _ => 0)))) := ⟨_, rfl⟩
  rw [← hu3]
  have hu3_0 : u3 g = some (.inr (3, [.ref (ad (g + 1)), .null, .null, .int 0])) := by rw [hu3, gup_ne (by omega)]; exact hu2_0
  have hu3_1 : u3 (g + 1) = some (.inl ((X.2 0), 12, .inl (fun _ => 0))) := by rw [hu3, gup_ne (by omega)]; exact hu2_1
  have hu3_2 : u3 (g + 2) = some (.inl ((X.2 1), 12, .inr (.inl (fun _ => 0)))) := by rw [hu3]; exact gup_self _ _ _
  have hu3_f1 : u3 (g + 3) = none := by rw [hu3, gup_ne (by omega)]; exact hu2_f1
  show GW Z _ _ _ ad u3 (sz + 2) [(0, .ref (ad g))] 2 24 17 [.ref (ad (g + 2)), .ref (ad g)]
  refine g_putF g 1 C hname hu3_0 rfl i_G t_G t_G_ok n_G (by decide) (gmem wd_68 rfl) rfl rfl rfl rfl rfl (Nat.le_of_ble_eq_true rfl) d_G_init_17 ?_
  show GW Z _ _ _ ad (gup u3 g (.inr (3, [.ref (ad (g + 1)), .ref (ad (g + 2)), .null, .int 0]))) _ _ _ _ _ _
  obtain ⟨u4, hu4⟩ : ∃ z, z = gup u3 g (.inr (3, [.ref (ad (g + 1)), .ref (ad (g + 2)), .null, .int 0])) := ⟨_, rfl⟩
  rw [← hu4]
  have hu4_0 : u4 g = some (.inr (3, [.ref (ad (g + 1)), .ref (ad (g + 2)), .null, .int 0])) := by rw [hu4]; exact gup_self _ _ _
  have hu4_1 : u4 (g + 1) = some (.inl ((X.2 0), 12, .inl (fun _ => 0))) := by rw [hu4, gup_ne (by omega)]; exact hu3_1
  have hu4_2 : u4 (g + 2) = some (.inl ((X.2 1), 12, .inr (.inl (fun _ => 0)))) := by rw [hu4, gup_ne (by omega)]; exact hu3_2
  have hu4_f0 : u4 (g + 3) = none := by rw [hu4, gup_ne (by omega)]; exact hu3_f1
  refine g_aload_n C d_G_init_20 rfl 0 rfl ?_
  refine g_sipush (v := 4096) C d_G_init_21 (by decide) ?_
  refine g_newa (atype := .int) (ty := .int) (cA := (X.2 0)) (N := 4096) (a0 := (4096, .inl (fun _ => 0))) (g + 3) 0 C hu4_f0 ha2 (gmem wd_80 rfl) rfl rfl (fun _ => rfl) (by decide) (by decide) (by decide) (Nat.le_of_ble_eq_true rfl) (Nat.le_of_ble_eq_true rfl) d_G_init_24 ?_
  obtain ⟨u5, hu5⟩ : ∃ z, z = gup u4 (g + 3) (.inl ((X.2 0), 4096, .inl (fun _ => 0))) := ⟨_, rfl⟩
  rw [← hu5]
  have hu5_0 : u5 g = some (.inr (3, [.ref (ad (g + 1)), .ref (ad (g + 2)), .null, .int 0])) := by rw [hu5, gup_ne (by omega)]; exact hu4_0
  have hu5_1 : u5 (g + 1) = some (.inl ((X.2 0), 12, .inl (fun _ => 0))) := by rw [hu5, gup_ne (by omega)]; exact hu4_1
  have hu5_2 : u5 (g + 2) = some (.inl ((X.2 1), 12, .inr (.inl (fun _ => 0)))) := by rw [hu5, gup_ne (by omega)]; exact hu4_2
  have hu5_3 : u5 (g + 3) = some (.inl ((X.2 0), 4096, .inl (fun _ => 0))) := by rw [hu5]; exact gup_self _ _ _
  show GW Z _ _ _ ad u5 (sz + 3) [(0, .ref (ad g))] 3 4120 26 [.ref (ad (g + 3)), .ref (ad g)]
  refine g_putF g 2 C hname hu5_0 rfl i_G t_G t_G_ok n_G (by decide) (gmem wd_69 rfl) rfl rfl rfl rfl rfl (Nat.le_of_ble_eq_true rfl) d_G_init_26 ?_
  show GW Z _ _ _ ad (gup u5 g (.inr (3, [.ref (ad (g + 1)), .ref (ad (g + 2)), .ref (ad (g + 3)), .int 0]))) _ _ _ _ _ _
  obtain ⟨u6, hu6⟩ : ∃ z, z = gup u5 g (.inr (3, [.ref (ad (g + 1)), .ref (ad (g + 2)), .ref (ad (g + 3)), .int 0])) := ⟨_, rfl⟩
  rw [← hu6]
  have hu6_0 : u6 g = some (.inr (3, [.ref (ad (g + 1)), .ref (ad (g + 2)), .ref (ad (g + 3)), .int 0])) := by rw [hu6]; exact gup_self _ _ _
  have hu6_1 : u6 (g + 1) = some (.inl ((X.2 0), 12, .inl (fun _ => 0))) := by rw [hu6, gup_ne (by omega)]; exact hu5_1
  have hu6_2 : u6 (g + 2) = some (.inl ((X.2 1), 12, .inr (.inl (fun _ => 0)))) := by rw [hu6, gup_ne (by omega)]; exact hu5_2
  have hu6_3 : u6 (g + 3) = some (.inl ((X.2 0), 4096, .inl (fun _ => 0))) := by rw [hu6, gup_ne (by omega)]; exact hu5_3
  have hfin7 : u6 = gup (gup (gup (gup u g (.inr (3, [.ref (ad (g + 1)), .ref (ad (g + 2)), .ref (ad (g + 3)), .int 0]))) (g + 1) (.inl ((X.2 0), 12, .inl (fun _ => 0)))) (g + 2) (.inl ((X.2 1), 12, .inr (.inl (fun _ => 0))))) (g + 3) (.inl ((X.2 0), 4096, .inl (fun _ => 0))) := by
    funext k
    by_cases hk0 : k = g
    · rw [hk0, hu6_0, gup_ne (by omega), gup_ne (by omega), gup_ne (by omega), gup_self]
    by_cases hk1 : k = g + 1
    · rw [hk1, hu6_1, gup_ne (by omega), gup_ne (by omega), gup_self]
    by_cases hk2 : k = g + 2
    · rw [hk2, hu6_2, gup_ne (by omega), gup_self]
    by_cases hk3 : k = g + 3
    · rw [hk3, hu6_3, gup_self]
    rw [hu6, gup_ne hk0]
    rw [hu5, gup_ne hk3]
    rw [hu4, gup_ne hk0]
    rw [hu3, gup_ne hk2]
    rw [hu2, gup_ne hk0]
    rw [hu1, gup_ne hk1]
    rw [gup_ne hk3, gup_ne hk2, gup_ne hk1, gup_ne hk0]
  exact g_vret C hR hret ⟨rfl, hfin7, rfl⟩ d_G_init_29

set_option maxHeartbeats 4000000 in
set_option maxRecDepth 100000 in
theorem k_B_init (l : Launch) (X : gX) (ad : Nat → Nat) (u : gW) (sz : Nat) (d b : Nat) (c : Int64) (hb : u d = some (.inr (0, [.null, .long 0, .null, .null, .null, .int 0])))  (hf0 : u (d + 1) = none) (ha0 : ad (d + 1) = sz) (hf1 : u (d + 2) = none) (ha1 : ad (d + 2) = sz + 1) (hf2 : u (d + 3) = none) (ha2 : ad (d + 3) = sz + 2) : gMet l (EE X) y_B_init c_B_init 4 none ({ frames := 1, cells := 3, slots := 36, locals := 20 }) [.ref (ad d), .ref (ad b), .long c] ad u sz (fun v u' sz' => v = none ∧ u' = gup (gup (gup (gup u d (.inr (0, [.ref (ad b), .long c, .ref (ad (d + 1)), .ref (ad (d + 2)), .ref (ad (d + 3)), .int 0]))) (d + 1) (.inl ((X.2 1), 12, .inr (.inl (fun _ => 0))))) (d + 2) (.inl ((X.2 1), 12, .inr (.inl (fun _ => 0))))) (d + 3) (.inl ((X.2 1), 12, .inr (.inl (fun _ => 0)))) ∧ sz' = sz + 3) := by
  refine gMet_of "ExpenseClubs$Bill" rfl (by decide) (Nat.le_of_ble_eq_true rfl) (lv := [(0, .ref (ad d)), (1, .ref (ad b)), (2, .long c)]) rfl (fun Z hZl C hR hret hname => ?_)
  refine g_aload_n C d_B_init_0 rfl 0 rfl ?_
  refine g_objInit C (gmem wd_281 rfl) (gmem wd_21 rfl) (gmem wd_22 rfl) d_B_init_1 (Nat.le_of_ble_eq_true rfl) (Nat.le_of_ble_eq_true rfl) ?_
  refine g_aload_n C d_B_init_4 rfl 0 rfl ?_
  refine g_bipush (v := 12) C d_B_init_5 (by decide) ?_
  refine g_newa (atype := .long) (ty := .long) (cA := (X.2 1)) (N := 12) (a0 := (12, .inr (.inl (fun _ => 0)))) (d + 1) 1 C hf0 ha0 (gmem wd_60 rfl) rfl rfl (fun _ => rfl) (by decide) (by decide) (by decide) (Nat.le_of_ble_eq_true rfl) (Nat.le_of_ble_eq_true rfl) d_B_init_7 ?_
  obtain ⟨u1, hu1⟩ : ∃ z, z = gup u (d + 1) (.inl ((X.2 1), 12, .inr (.inl (fun _ => 0)))) := ⟨_, rfl⟩
  rw [← hu1]
  have hu1_0 : u1 d = some (.inr (0, [.null, .long 0, .null, .null, .null, .int 0])) := by rw [hu1, gup_ne (by omega)]; exact hb
  have hu1_1 : u1 (d + 1) = some (.inl ((X.2 1), 12, .inr (.inl (fun _ => 0)))) := by rw [hu1]; exact gup_self _ _ _
  have hu1_f1 : u1 (d + 2) = none := by rw [hu1, gup_ne (by omega)]; exact hf1
  have hu1_f2 : u1 (d + 3) = none := by rw [hu1, gup_ne (by omega)]; exact hf2
  show GW Z _ _ _ ad u1 (sz + 1) [(0, .ref (ad d)), (1, .ref (ad b)), (2, .long c)] 1 12 9 [.ref (ad (d + 1)), .ref (ad d)]
  refine g_putF d 2 C hname hu1_0 rfl i_B t_B t_B_ok n_B (by decide) (gmem wd_287 rfl) rfl rfl rfl rfl rfl (Nat.le_of_ble_eq_true rfl) d_B_init_9 ?_
  show GW Z _ _ _ ad (gup u1 d (.inr (0, [.null, .long 0, .ref (ad (d + 1)), .null, .null, .int 0]))) _ _ _ _ _ _
  obtain ⟨u2, hu2⟩ : ∃ z, z = gup u1 d (.inr (0, [.null, .long 0, .ref (ad (d + 1)), .null, .null, .int 0])) := ⟨_, rfl⟩
  rw [← hu2]
  have hu2_0 : u2 d = some (.inr (0, [.null, .long 0, .ref (ad (d + 1)), .null, .null, .int 0])) := by rw [hu2]; exact gup_self _ _ _
  have hu2_1 : u2 (d + 1) = some (.inl ((X.2 1), 12, .inr (.inl (fun _ => 0)))) := by rw [hu2, gup_ne (by omega)]; exact hu1_1
  have hu2_f0 : u2 (d + 2) = none := by rw [hu2, gup_ne (by omega)]; exact hu1_f1
  have hu2_f1 : u2 (d + 3) = none := by rw [hu2, gup_ne (by omega)]; exact hu1_f2
  refine g_aload_n C d_B_init_12 rfl 0 rfl ?_
  refine g_bipush (v := 12) C d_B_init_13 (by decide) ?_
  refine g_newa (atype := .long) (ty := .long) (cA := (X.2 1)) (N := 12) (a0 := (12, .inr (.inl (fun _ => 0)))) (d + 2) 1 C hu2_f0 ha1 (gmem wd_60 rfl) rfl rfl (fun _ => rfl) (by decide) (by decide) (by decide) (Nat.le_of_ble_eq_true rfl) (Nat.le_of_ble_eq_true rfl) d_B_init_15 ?_
  obtain ⟨u3, hu3⟩ : ∃ z, z = gup u2 (d + 2) (.inl ((X.2 1), 12, .inr (.inl (fun _ => 0)))) := ⟨_, rfl⟩
  rw [← hu3]
  have hu3_0 : u3 d = some (.inr (0, [.null, .long 0, .ref (ad (d + 1)), .null, .null, .int 0])) := by rw [hu3, gup_ne (by omega)]; exact hu2_0
  have hu3_1 : u3 (d + 1) = some (.inl ((X.2 1), 12, .inr (.inl (fun _ => 0)))) := by rw [hu3, gup_ne (by omega)]; exact hu2_1
  have hu3_2 : u3 (d + 2) = some (.inl ((X.2 1), 12, .inr (.inl (fun _ => 0)))) := by rw [hu3]; exact gup_self _ _ _
  have hu3_f1 : u3 (d + 3) = none := by rw [hu3, gup_ne (by omega)]; exact hu2_f1
  show GW Z _ _ _ ad u3 (sz + 2) [(0, .ref (ad d)), (1, .ref (ad b)), (2, .long c)] 2 24 17 [.ref (ad (d + 2)), .ref (ad d)]
  refine g_putF d 3 C hname hu3_0 rfl i_B t_B t_B_ok n_B (by decide) (gmem wd_291 rfl) rfl rfl rfl rfl rfl (Nat.le_of_ble_eq_true rfl) d_B_init_17 ?_
  show GW Z _ _ _ ad (gup u3 d (.inr (0, [.null, .long 0, .ref (ad (d + 1)), .ref (ad (d + 2)), .null, .int 0]))) _ _ _ _ _ _
  obtain ⟨u4, hu4⟩ : ∃ z, z = gup u3 d (.inr (0, [.null, .long 0, .ref (ad (d + 1)), .ref (ad (d + 2)), .null, .int 0])) := ⟨_, rfl⟩
  rw [← hu4]
  have hu4_0 : u4 d = some (.inr (0, [.null, .long 0, .ref (ad (d + 1)), .ref (ad (d + 2)), .null, .int 0])) := by rw [hu4]; exact gup_self _ _ _
  have hu4_1 : u4 (d + 1) = some (.inl ((X.2 1), 12, .inr (.inl (fun _ => 0)))) := by rw [hu4, gup_ne (by omega)]; exact hu3_1
  have hu4_2 : u4 (d + 2) = some (.inl ((X.2 1), 12, .inr (.inl (fun _ => 0)))) := by rw [hu4, gup_ne (by omega)]; exact hu3_2
  have hu4_f0 : u4 (d + 3) = none := by rw [hu4, gup_ne (by omega)]; exact hu3_f1
  refine g_aload_n C d_B_init_20 rfl 0 rfl ?_
  refine g_bipush (v := 12) C d_B_init_21 (by decide) ?_
  refine g_newa (atype := .long) (ty := .long) (cA := (X.2 1)) (N := 12) (a0 := (12, .inr (.inl (fun _ => 0)))) (d + 3) 1 C hu4_f0 ha2 (gmem wd_60 rfl) rfl rfl (fun _ => rfl) (by decide) (by decide) (by decide) (Nat.le_of_ble_eq_true rfl) (Nat.le_of_ble_eq_true rfl) d_B_init_23 ?_
  obtain ⟨u5, hu5⟩ : ∃ z, z = gup u4 (d + 3) (.inl ((X.2 1), 12, .inr (.inl (fun _ => 0)))) := ⟨_, rfl⟩
  rw [← hu5]
  have hu5_0 : u5 d = some (.inr (0, [.null, .long 0, .ref (ad (d + 1)), .ref (ad (d + 2)), .null, .int 0])) := by rw [hu5, gup_ne (by omega)]; exact hu4_0
  have hu5_1 : u5 (d + 1) = some (.inl ((X.2 1), 12, .inr (.inl (fun _ => 0)))) := by rw [hu5, gup_ne (by omega)]; exact hu4_1
  have hu5_2 : u5 (d + 2) = some (.inl ((X.2 1), 12, .inr (.inl (fun _ => 0)))) := by rw [hu5, gup_ne (by omega)]; exact hu4_2
  have hu5_3 : u5 (d + 3) = some (.inl ((X.2 1), 12, .inr (.inl (fun _ => 0)))) := by rw [hu5]; exact gup_self _ _ _
  show GW Z _ _ _ ad u5 (sz + 3) [(0, .ref (ad d)), (1, .ref (ad b)), (2, .long c)] 3 36 25 [.ref (ad (d + 3)), .ref (ad d)]
  refine g_putF d 4 C hname hu5_0 rfl i_B t_B t_B_ok n_B (by decide) (gmem wd_295 rfl) rfl rfl rfl rfl rfl (Nat.le_of_ble_eq_true rfl) d_B_init_25 ?_
  show GW Z _ _ _ ad (gup u5 d (.inr (0, [.null, .long 0, .ref (ad (d + 1)), .ref (ad (d + 2)), .ref (ad (d + 3)), .int 0]))) _ _ _ _ _ _
  obtain ⟨u6, hu6⟩ : ∃ z, z = gup u5 d (.inr (0, [.null, .long 0, .ref (ad (d + 1)), .ref (ad (d + 2)), .ref (ad (d + 3)), .int 0])) := ⟨_, rfl⟩
  rw [← hu6]
  have hu6_0 : u6 d = some (.inr (0, [.null, .long 0, .ref (ad (d + 1)), .ref (ad (d + 2)), .ref (ad (d + 3)), .int 0])) := by rw [hu6]; exact gup_self _ _ _
  have hu6_1 : u6 (d + 1) = some (.inl ((X.2 1), 12, .inr (.inl (fun _ => 0)))) := by rw [hu6, gup_ne (by omega)]; exact hu5_1
  have hu6_2 : u6 (d + 2) = some (.inl ((X.2 1), 12, .inr (.inl (fun _ => 0)))) := by rw [hu6, gup_ne (by omega)]; exact hu5_2
  have hu6_3 : u6 (d + 3) = some (.inl ((X.2 1), 12, .inr (.inl (fun _ => 0)))) := by rw [hu6, gup_ne (by omega)]; exact hu5_3
  refine g_aload_n C d_B_init_28 rfl 0 rfl ?_
  refine g_aload_n C d_B_init_29 rfl 1 rfl ?_
  refine g_putF d 0 C hname hu6_0 rfl i_B t_B t_B_ok n_B (by decide) (gmem wd_282 rfl) rfl rfl rfl rfl rfl (Nat.le_of_ble_eq_true rfl) d_B_init_30 ?_
  show GW Z _ _ _ ad (gup u6 d (.inr (0, [.ref (ad b), .long 0, .ref (ad (d + 1)), .ref (ad (d + 2)), .ref (ad (d + 3)), .int 0]))) _ _ _ _ _ _
  obtain ⟨u7, hu7⟩ : ∃ z, z = gup u6 d (.inr (0, [.ref (ad b), .long 0, .ref (ad (d + 1)), .ref (ad (d + 2)), .ref (ad (d + 3)), .int 0])) := ⟨_, rfl⟩
  rw [← hu7]
  have hu7_0 : u7 d = some (.inr (0, [.ref (ad b), .long 0, .ref (ad (d + 1)), .ref (ad (d + 2)), .ref (ad (d + 3)), .int 0])) := by rw [hu7]; exact gup_self _ _ _
  have hu7_1 : u7 (d + 1) = some (.inl ((X.2 1), 12, .inr (.inl (fun _ => 0)))) := by rw [hu7, gup_ne (by omega)]; exact hu6_1
  have hu7_2 : u7 (d + 2) = some (.inl ((X.2 1), 12, .inr (.inl (fun _ => 0)))) := by rw [hu7, gup_ne (by omega)]; exact hu6_2
  have hu7_3 : u7 (d + 3) = some (.inl ((X.2 1), 12, .inr (.inl (fun _ => 0)))) := by rw [hu7, gup_ne (by omega)]; exact hu6_3
  refine g_aload_n C d_B_init_33 rfl 0 rfl ?_
  refine g_lload_n C d_B_init_34 rfl 2 rfl ?_
  refine g_putF d 1 C hname hu7_0 rfl i_B t_B t_B_ok n_B (by decide) (gmem wd_284 rfl) rfl rfl rfl rfl rfl (Nat.le_of_ble_eq_true rfl) d_B_init_35 ?_
  show GW Z _ _ _ ad (gup u7 d (.inr (0, [.ref (ad b), .long c, .ref (ad (d + 1)), .ref (ad (d + 2)), .ref (ad (d + 3)), .int 0]))) _ _ _ _ _ _
  obtain ⟨u8, hu8⟩ : ∃ z, z = gup u7 d (.inr (0, [.ref (ad b), .long c, .ref (ad (d + 1)), .ref (ad (d + 2)), .ref (ad (d + 3)), .int 0])) := ⟨_, rfl⟩
  rw [← hu8]
  have hu8_0 : u8 d = some (.inr (0, [.ref (ad b), .long c, .ref (ad (d + 1)), .ref (ad (d + 2)), .ref (ad (d + 3)), .int 0])) := by rw [hu8]; exact gup_self _ _ _
  have hu8_1 : u8 (d + 1) = some (.inl ((X.2 1), 12, .inr (.inl (fun _ => 0)))) := by rw [hu8, gup_ne (by omega)]; exact hu7_1
  have hu8_2 : u8 (d + 2) = some (.inl ((X.2 1), 12, .inr (.inl (fun _ => 0)))) := by rw [hu8, gup_ne (by omega)]; exact hu7_2
  have hu8_3 : u8 (d + 3) = some (.inl ((X.2 1), 12, .inr (.inl (fun _ => 0)))) := by rw [hu8, gup_ne (by omega)]; exact hu7_3
  have hfin9 : u8 = gup (gup (gup (gup u d (.inr (0, [.ref (ad b), .long c, .ref (ad (d + 1)), .ref (ad (d + 2)), .ref (ad (d + 3)), .int 0]))) (d + 1) (.inl ((X.2 1), 12, .inr (.inl (fun _ => 0))))) (d + 2) (.inl ((X.2 1), 12, .inr (.inl (fun _ => 0))))) (d + 3) (.inl ((X.2 1), 12, .inr (.inl (fun _ => 0)))) := by
    funext k
    by_cases hk0 : k = d
    · rw [hk0, hu8_0, gup_ne (by omega), gup_ne (by omega), gup_ne (by omega), gup_self]
    by_cases hk1 : k = d + 1
    · rw [hk1, hu8_1, gup_ne (by omega), gup_ne (by omega), gup_self]
    by_cases hk2 : k = d + 2
    · rw [hk2, hu8_2, gup_ne (by omega), gup_self]
    by_cases hk3 : k = d + 3
    · rw [hk3, hu8_3, gup_self]
    rw [hu8, gup_ne hk0]
    rw [hu7, gup_ne hk0]
    rw [hu6, gup_ne hk0]
    rw [hu5, gup_ne hk3]
    rw [hu4, gup_ne hk0]
    rw [hu3, gup_ne hk2]
    rw [hu2, gup_ne hk0]
    rw [hu1, gup_ne hk1]
    rw [gup_ne hk3, gup_ne hk2, gup_ne hk1, gup_ne hk0]
  exact g_vret C hR hret ⟨rfl, hfin9, rfl⟩ d_B_init_38

set_option maxHeartbeats 4000000 in
set_option maxRecDepth 100000 in
theorem k_C_init (l : Launch) (X : gX) (ad : Nat → Nat) (u : gW) (sz : Nat) (b : Nat) (hb : u b = some (.inr (1, [.null, .null, .null, .int 0, .int 0, .int 0])))  (hf0 : u (b + 1) = none) (ha0 : ad (b + 1) = sz) (hf1 : u (b + 2) = none) (ha1 : ad (b + 2) = sz + 1) (hf2 : u (b + 3) = none) (ha2 : ad (b + 3) = sz + 2) (hf3 : u (b + 3 + 1) = none) (ha3 : ad (b + 3 + 1) = sz + 3) (hf4 : u (b + 3 + 2) = none) (ha4 : ad (b + 3 + 2) = sz + 4) (hf5 : u (b + 3 + 3) = none) (ha5 : ad (b + 3 + 3) = sz + 5) (hf6 : u (b + 3 + 4) = none) (ha6 : ad (b + 3 + 4) = sz + 6) (hf7 : u (b + 3 + 5) = none) (ha7 : ad (b + 3 + 5) = sz + 7) : gMet l (EE X) y_C_init c_C_init 1 none ({ frames := 2, cells := 8, slots := 93, locals := 40 }) [.ref (ad b)] ad u sz (fun v u' sz' => v = none ∧ u' = gup (gup (gup (gup (gup (gup (gup (gup (gup u b (.inr (1, [.ref (ad (b + 1)), .ref (ad (b + 2)), .ref (ad (b + 3)), .int 0, .int 0, .int 0]))) (b + 1) (.inl ((X.2 1), 12, .inr (.inl (fun _ => 0))))) (b + 2) (.inl ((X.2 1), 12, .inr (.inl (fun _ => 0))))) (b + 3) (.inr (4, [.ref (ad (b + 3 + 1)), .ref (ad (b + 3 + 2)), .ref (ad (b + 3 + 3)), .ref (ad (b + 3 + 4)), .ref (ad (b + 3 + 5)), .int 0, .int 0, .int 0, .int 0]))) (b + 3 + 1) (.inl ((X.2 0), 12, .inl (fun _ => 0)))) (b + 3 + 2) (.inl ((X.2 0), 12, .inl (fun _ => 0)))) (b + 3 + 3) (.inl ((X.2 0), 12, .inl (fun _ => 0)))) (b + 3 + 4) (.inl ((X.2 1), 12, .inr (.inl (fun _ => 0))))) (b + 3 + 5) (.inl ((X.2 2), 12, .inl (fun _ => 0))) ∧ sz' = sz + 8) := by
  refine gMet_of "ExpenseClubs$Club" rfl (by decide) (Nat.le_of_ble_eq_true rfl) (lv := [(0, .ref (ad b))]) rfl (fun Z hZl C hR hret hname => ?_)
  refine g_aload_n C d_C_init_0 rfl 0 rfl ?_
  refine g_objInit C (gmem wd_108 rfl) (gmem wd_21 rfl) (gmem wd_22 rfl) d_C_init_1 (Nat.le_of_ble_eq_true rfl) (Nat.le_of_ble_eq_true rfl) ?_
  refine g_aload_n C d_C_init_4 rfl 0 rfl ?_
  refine g_bipush (v := 12) C d_C_init_5 (by decide) ?_
  refine g_newa (atype := .long) (ty := .long) (cA := (X.2 1)) (N := 12) (a0 := (12, .inr (.inl (fun _ => 0)))) (b + 1) 1 C hf0 ha0 (gmem wd_60 rfl) rfl rfl (fun _ => rfl) (by decide) (by decide) (by decide) (Nat.le_of_ble_eq_true rfl) (Nat.le_of_ble_eq_true rfl) d_C_init_7 ?_
  obtain ⟨u1, hu1⟩ : ∃ z, z = gup u (b + 1) (.inl ((X.2 1), 12, .inr (.inl (fun _ => 0)))) := ⟨_, rfl⟩
  rw [← hu1]
  have hu1_0 : u1 b = some (.inr (1, [.null, .null, .null, .int 0, .int 0, .int 0])) := by rw [hu1, gup_ne (by omega)]; exact hb
  have hu1_1 : u1 (b + 1) = some (.inl ((X.2 1), 12, .inr (.inl (fun _ => 0)))) := by rw [hu1]; exact gup_self _ _ _
  have hu1_f1 : u1 (b + 2) = none := by rw [hu1, gup_ne (by omega)]; exact hf1
  have hu1_f2 : u1 (b + 3) = none := by rw [hu1, gup_ne (by omega)]; exact hf2
  have hu1_f3 : u1 (b + 3 + 1) = none := by rw [hu1, gup_ne (by omega)]; exact hf3
  have hu1_f4 : u1 (b + 3 + 2) = none := by rw [hu1, gup_ne (by omega)]; exact hf4
  have hu1_f5 : u1 (b + 3 + 3) = none := by rw [hu1, gup_ne (by omega)]; exact hf5
  have hu1_f6 : u1 (b + 3 + 4) = none := by rw [hu1, gup_ne (by omega)]; exact hf6
  have hu1_f7 : u1 (b + 3 + 5) = none := by rw [hu1, gup_ne (by omega)]; exact hf7
  show GW Z _ _ _ ad u1 (sz + 1) [(0, .ref (ad b))] 1 12 9 [.ref (ad (b + 1)), .ref (ad b)]
  refine g_putF b 0 C hname hu1_0 rfl i_C t_C t_C_ok n_C (by decide) (gmem wd_160 rfl) rfl rfl rfl rfl rfl (Nat.le_of_ble_eq_true rfl) d_C_init_9 ?_
  show GW Z _ _ _ ad (gup u1 b (.inr (1, [.ref (ad (b + 1)), .null, .null, .int 0, .int 0, .int 0]))) _ _ _ _ _ _
  obtain ⟨u2, hu2⟩ : ∃ z, z = gup u1 b (.inr (1, [.ref (ad (b + 1)), .null, .null, .int 0, .int 0, .int 0])) := ⟨_, rfl⟩
  rw [← hu2]
  have hu2_0 : u2 b = some (.inr (1, [.ref (ad (b + 1)), .null, .null, .int 0, .int 0, .int 0])) := by rw [hu2]; exact gup_self _ _ _
  have hu2_1 : u2 (b + 1) = some (.inl ((X.2 1), 12, .inr (.inl (fun _ => 0)))) := by rw [hu2, gup_ne (by omega)]; exact hu1_1
  have hu2_f0 : u2 (b + 2) = none := by rw [hu2, gup_ne (by omega)]; exact hu1_f1
  have hu2_f1 : u2 (b + 3) = none := by rw [hu2, gup_ne (by omega)]; exact hu1_f2
  have hu2_f2 : u2 (b + 3 + 1) = none := by rw [hu2, gup_ne (by omega)]; exact hu1_f3
  have hu2_f3 : u2 (b + 3 + 2) = none := by rw [hu2, gup_ne (by omega)]; exact hu1_f4
  have hu2_f4 : u2 (b + 3 + 3) = none := by rw [hu2, gup_ne (by omega)]; exact hu1_f5
  have hu2_f5 : u2 (b + 3 + 4) = none := by rw [hu2, gup_ne (by omega)]; exact hu1_f6
  have hu2_f6 : u2 (b + 3 + 5) = none := by rw [hu2, gup_ne (by omega)]; exact hu1_f7
  refine g_aload_n C d_C_init_12 rfl 0 rfl ?_
  refine g_bipush (v := 12) C d_C_init_13 (by decide) ?_
  refine g_newa (atype := .long) (ty := .long) (cA := (X.2 1)) (N := 12) (a0 := (12, .inr (.inl (fun _ => 0)))) (b + 2) 1 C hu2_f0 ha1 (gmem wd_60 rfl) rfl rfl (fun _ => rfl) (by decide) (by decide) (by decide) (Nat.le_of_ble_eq_true rfl) (Nat.le_of_ble_eq_true rfl) d_C_init_15 ?_
  obtain ⟨u3, hu3⟩ : ∃ z, z = gup u2 (b + 2) (.inl ((X.2 1), 12, .inr (.inl (fun _ => 0)))) := ⟨_, rfl⟩
  rw [← hu3]
  have hu3_0 : u3 b = some (.inr (1, [.ref (ad (b + 1)), .null, .null, .int 0, .int 0, .int 0])) := by rw [hu3, gup_ne (by omega)]; exact hu2_0
  have hu3_1 : u3 (b + 1) = some (.inl ((X.2 1), 12, .inr (.inl (fun _ => 0)))) := by rw [hu3, gup_ne (by omega)]; exact hu2_1
  have hu3_2 : u3 (b + 2) = some (.inl ((X.2 1), 12, .inr (.inl (fun _ => 0)))) := by rw [hu3]; exact gup_self _ _ _
  have hu3_f1 : u3 (b + 3) = none := by rw [hu3, gup_ne (by omega)]; exact hu2_f1
  have hu3_f2 : u3 (b + 3 + 1) = none := by rw [hu3, gup_ne (by omega)]; exact hu2_f2
  have hu3_f3 : u3 (b + 3 + 2) = none := by rw [hu3, gup_ne (by omega)]; exact hu2_f3
  have hu3_f4 : u3 (b + 3 + 3) = none := by rw [hu3, gup_ne (by omega)]; exact hu2_f4
  have hu3_f5 : u3 (b + 3 + 4) = none := by rw [hu3, gup_ne (by omega)]; exact hu2_f5
  have hu3_f6 : u3 (b + 3 + 5) = none := by rw [hu3, gup_ne (by omega)]; exact hu2_f6
  show GW Z _ _ _ ad u3 (sz + 2) [(0, .ref (ad b))] 2 24 17 [.ref (ad (b + 2)), .ref (ad b)]
  refine g_putF b 1 C hname hu3_0 rfl i_C t_C t_C_ok n_C (by decide) (gmem wd_162 rfl) rfl rfl rfl rfl rfl (Nat.le_of_ble_eq_true rfl) d_C_init_17 ?_
  show GW Z _ _ _ ad (gup u3 b (.inr (1, [.ref (ad (b + 1)), .ref (ad (b + 2)), .null, .int 0, .int 0, .int 0]))) _ _ _ _ _ _
  obtain ⟨u4, hu4⟩ : ∃ z, z = gup u3 b (.inr (1, [.ref (ad (b + 1)), .ref (ad (b + 2)), .null, .int 0, .int 0, .int 0])) := ⟨_, rfl⟩
  rw [← hu4]
  have hu4_0 : u4 b = some (.inr (1, [.ref (ad (b + 1)), .ref (ad (b + 2)), .null, .int 0, .int 0, .int 0])) := by rw [hu4]; exact gup_self _ _ _
  have hu4_1 : u4 (b + 1) = some (.inl ((X.2 1), 12, .inr (.inl (fun _ => 0)))) := by rw [hu4, gup_ne (by omega)]; exact hu3_1
  have hu4_2 : u4 (b + 2) = some (.inl ((X.2 1), 12, .inr (.inl (fun _ => 0)))) := by rw [hu4, gup_ne (by omega)]; exact hu3_2
  have hu4_f0 : u4 (b + 3) = none := by rw [hu4, gup_ne (by omega)]; exact hu3_f1
  have hu4_f1 : u4 (b + 3 + 1) = none := by rw [hu4, gup_ne (by omega)]; exact hu3_f2
  have hu4_f2 : u4 (b + 3 + 2) = none := by rw [hu4, gup_ne (by omega)]; exact hu3_f3
  have hu4_f3 : u4 (b + 3 + 3) = none := by rw [hu4, gup_ne (by omega)]; exact hu3_f4
  have hu4_f4 : u4 (b + 3 + 4) = none := by rw [hu4, gup_ne (by omega)]; exact hu3_f5
  have hu4_f5 : u4 (b + 3 + 5) = none := by rw [hu4, gup_ne (by omega)]; exact hu3_f6
  refine g_aload_n C d_C_init_20 rfl 0 rfl ?_
  refine g_new (ci := 4) (fs := [.null, .null, .null, .null, .null, .int 0, .int 0, .int 0, .int 0]) (b + 3) C hu4_f0 ha2 rfl i_S t_S t_S_ok (gmem wd_109 rfl) (gmem wd_110 rfl) (gmem wd_6 rfl) (fun j hj => by rcases (show j = 0 ∨ j = 1 ∨ j = 2 ∨ j = 3 ∨ j = 4 ∨ j = 5 ∨ j = 6 ∨ j = 7 ∨ j = 8 by omega) with rfl | rfl | rfl | rfl | rfl | rfl | rfl | rfl | rfl <;> rfl) (Nat.le_of_ble_eq_true rfl) (Nat.le_of_ble_eq_true rfl) d_C_init_21 ?_
  obtain ⟨u5, hu5⟩ : ∃ z, z = gup u4 (b + 3) (.inr (4, [.null, .null, .null, .null, .null, .int 0, .int 0, .int 0, .int 0])) := ⟨_, rfl⟩
  rw [← hu5]
  have hu5_0 : u5 b = some (.inr (1, [.ref (ad (b + 1)), .ref (ad (b + 2)), .null, .int 0, .int 0, .int 0])) := by rw [hu5, gup_ne (by omega)]; exact hu4_0
  have hu5_1 : u5 (b + 1) = some (.inl ((X.2 1), 12, .inr (.inl (fun _ => 0)))) := by rw [hu5, gup_ne (by omega)]; exact hu4_1
  have hu5_2 : u5 (b + 2) = some (.inl ((X.2 1), 12, .inr (.inl (fun _ => 0)))) := by rw [hu5, gup_ne (by omega)]; exact hu4_2
  have hu5_3 : u5 (b + 3) = some (.inr (4, [.null, .null, .null, .null, .null, .int 0, .int 0, .int 0, .int 0])) := by rw [hu5]; exact gup_self _ _ _
  have hu5_f1 : u5 (b + 3 + 1) = none := by rw [hu5, gup_ne (by omega)]; exact hu4_f1
  have hu5_f2 : u5 (b + 3 + 2) = none := by rw [hu5, gup_ne (by omega)]; exact hu4_f2
  have hu5_f3 : u5 (b + 3 + 3) = none := by rw [hu5, gup_ne (by omega)]; exact hu4_f3
  have hu5_f4 : u5 (b + 3 + 4) = none := by rw [hu5, gup_ne (by omega)]; exact hu4_f4
  have hu5_f5 : u5 (b + 3 + 5) = none := by rw [hu5, gup_ne (by omega)]; exact hu4_f5
  show GW Z _ _ _ ad u5 (sz + 3) [(0, .ref (ad b))] 3 33 24 [.ref (ad (b + 3)), .ref (ad b)]
  refine g_dup C d_C_init_24 rfl ?_
  refine g_callIN 0 C (k_S_init _ X ad u5 (sz + 3) (b + 3) hu5_3 hu5_f1 ha3 hu5_f2 ha4 hu5_f3 ha5 hu5_f4 ha6 hu5_f5 ha7) (gmem wd_113 rfl) (gmem wd_6 rfl) (List.mem_of_getElem? (i := 3) rfl) (gmem wd_112 rfl) rfl ⟨by decide, by decide, by decide +kernel⟩ ⟨Nat.le_of_ble_eq_true rfl, Nat.le_of_ble_eq_true rfl⟩ rfl rfl (Nat.le_of_ble_eq_true rfl) d_C_init_25 ⟨Nat.le_of_ble_eq_true rfl, Nat.le_of_ble_eq_true rfl⟩ ?_
  rintro v9 ui6 s9 ⟨h9, hui6, hs9⟩; rw [h9, hs9]; clear h9 hs9 v9 s9
  have hui6_0 : ui6 b = some (.inr (1, [.ref (ad (b + 1)), .ref (ad (b + 2)), .null, .int 0, .int 0, .int 0])) := by rw [hui6, gup_ne (by omega), gup_ne (by omega), gup_ne (by omega), gup_ne (by omega), gup_ne (by omega), gup_ne (by omega)]; exact hu5_0
  have hui6_1 : ui6 (b + 1) = some (.inl ((X.2 1), 12, .inr (.inl (fun _ => 0)))) := by rw [hui6, gup_ne (by omega), gup_ne (by omega), gup_ne (by omega), gup_ne (by omega), gup_ne (by omega), gup_ne (by omega)]; exact hu5_1
  have hui6_2 : ui6 (b + 2) = some (.inl ((X.2 1), 12, .inr (.inl (fun _ => 0)))) := by rw [hui6, gup_ne (by omega), gup_ne (by omega), gup_ne (by omega), gup_ne (by omega), gup_ne (by omega), gup_ne (by omega)]; exact hu5_2
  have hui6_3 : ui6 (b + 3) = some (.inr (4, [.ref (ad (b + 3 + 1)), .ref (ad (b + 3 + 2)), .ref (ad (b + 3 + 3)), .ref (ad (b + 3 + 4)), .ref (ad (b + 3 + 5)), .int 0, .int 0, .int 0, .int 0])) := by rw [hui6, gup_ne (by omega), gup_ne (by omega), gup_ne (by omega), gup_ne (by omega), gup_ne (by omega), gup_self]
  have hui6_4 : ui6 (b + 3 + 1) = some (.inl ((X.2 0), 12, .inl (fun _ => 0))) := by rw [hui6, gup_ne (by omega), gup_ne (by omega), gup_ne (by omega), gup_ne (by omega), gup_self]
  have hui6_5 : ui6 (b + 3 + 2) = some (.inl ((X.2 0), 12, .inl (fun _ => 0))) := by rw [hui6, gup_ne (by omega), gup_ne (by omega), gup_ne (by omega), gup_self]
  have hui6_6 : ui6 (b + 3 + 3) = some (.inl ((X.2 0), 12, .inl (fun _ => 0))) := by rw [hui6, gup_ne (by omega), gup_ne (by omega), gup_self]
  have hui6_7 : ui6 (b + 3 + 4) = some (.inl ((X.2 1), 12, .inr (.inl (fun _ => 0)))) := by rw [hui6, gup_ne (by omega), gup_self]
  have hui6_8 : ui6 (b + 3 + 5) = some (.inl ((X.2 2), 12, .inl (fun _ => 0))) := by rw [hui6, gup_self]
  show GW Z _ _ _ ad ui6 (sz + 8) [(0, .ref (ad b))] 8 93 28 [.ref (ad (b + 3)), .ref (ad b)]
  refine g_putF b 2 C hname hui6_0 rfl i_C t_C t_C_ok n_C (by decide) (gmem wd_164 rfl) rfl rfl rfl rfl rfl (Nat.le_of_ble_eq_true rfl) d_C_init_28 ?_
  show GW Z _ _ _ ad (gup ui6 b (.inr (1, [.ref (ad (b + 1)), .ref (ad (b + 2)), .ref (ad (b + 3)), .int 0, .int 0, .int 0]))) _ _ _ _ _ _
  obtain ⟨u7, hu7⟩ : ∃ z, z = gup ui6 b (.inr (1, [.ref (ad (b + 1)), .ref (ad (b + 2)), .ref (ad (b + 3)), .int 0, .int 0, .int 0])) := ⟨_, rfl⟩
  rw [← hu7]
  have hu7_0 : u7 b = some (.inr (1, [.ref (ad (b + 1)), .ref (ad (b + 2)), .ref (ad (b + 3)), .int 0, .int 0, .int 0])) := by rw [hu7]; exact gup_self _ _ _
  have hu7_1 : u7 (b + 1) = some (.inl ((X.2 1), 12, .inr (.inl (fun _ => 0)))) := by rw [hu7, gup_ne (by omega)]; exact hui6_1
  have hu7_2 : u7 (b + 2) = some (.inl ((X.2 1), 12, .inr (.inl (fun _ => 0)))) := by rw [hu7, gup_ne (by omega)]; exact hui6_2
  have hu7_3 : u7 (b + 3) = some (.inr (4, [.ref (ad (b + 3 + 1)), .ref (ad (b + 3 + 2)), .ref (ad (b + 3 + 3)), .ref (ad (b + 3 + 4)), .ref (ad (b + 3 + 5)), .int 0, .int 0, .int 0, .int 0])) := by rw [hu7, gup_ne (by omega)]; exact hui6_3
  have hu7_4 : u7 (b + 3 + 1) = some (.inl ((X.2 0), 12, .inl (fun _ => 0))) := by rw [hu7, gup_ne (by omega)]; exact hui6_4
  have hu7_5 : u7 (b + 3 + 2) = some (.inl ((X.2 0), 12, .inl (fun _ => 0))) := by rw [hu7, gup_ne (by omega)]; exact hui6_5
  have hu7_6 : u7 (b + 3 + 3) = some (.inl ((X.2 0), 12, .inl (fun _ => 0))) := by rw [hu7, gup_ne (by omega)]; exact hui6_6
  have hu7_7 : u7 (b + 3 + 4) = some (.inl ((X.2 1), 12, .inr (.inl (fun _ => 0)))) := by rw [hu7, gup_ne (by omega)]; exact hui6_7
  have hu7_8 : u7 (b + 3 + 5) = some (.inl ((X.2 2), 12, .inl (fun _ => 0))) := by rw [hu7, gup_ne (by omega)]; exact hui6_8
  have hfin8 : u7 = gup (gup (gup (gup (gup (gup (gup (gup (gup u b (.inr (1, [.ref (ad (b + 1)), .ref (ad (b + 2)), .ref (ad (b + 3)), .int 0, .int 0, .int 0]))) (b + 1) (.inl ((X.2 1), 12, .inr (.inl (fun _ => 0))))) (b + 2) (.inl ((X.2 1), 12, .inr (.inl (fun _ => 0))))) (b + 3) (.inr (4, [.ref (ad (b + 3 + 1)), .ref (ad (b + 3 + 2)), .ref (ad (b + 3 + 3)), .ref (ad (b + 3 + 4)), .ref (ad (b + 3 + 5)), .int 0, .int 0, .int 0, .int 0]))) (b + 3 + 1) (.inl ((X.2 0), 12, .inl (fun _ => 0)))) (b + 3 + 2) (.inl ((X.2 0), 12, .inl (fun _ => 0)))) (b + 3 + 3) (.inl ((X.2 0), 12, .inl (fun _ => 0)))) (b + 3 + 4) (.inl ((X.2 1), 12, .inr (.inl (fun _ => 0))))) (b + 3 + 5) (.inl ((X.2 2), 12, .inl (fun _ => 0))) := by
    funext k
    by_cases hk0 : k = b
    · rw [hk0, hu7_0, gup_ne (by omega), gup_ne (by omega), gup_ne (by omega), gup_ne (by omega), gup_ne (by omega), gup_ne (by omega), gup_ne (by omega), gup_ne (by omega), gup_self]
    by_cases hk1 : k = b + 1
    · rw [hk1, hu7_1, gup_ne (by omega), gup_ne (by omega), gup_ne (by omega), gup_ne (by omega), gup_ne (by omega), gup_ne (by omega), gup_ne (by omega), gup_self]
    by_cases hk2 : k = b + 2
    · rw [hk2, hu7_2, gup_ne (by omega), gup_ne (by omega), gup_ne (by omega), gup_ne (by omega), gup_ne (by omega), gup_ne (by omega), gup_self]
    by_cases hk3 : k = b + 3
    · rw [hk3, hu7_3, gup_ne (by omega), gup_ne (by omega), gup_ne (by omega), gup_ne (by omega), gup_ne (by omega), gup_self]
    by_cases hk4 : k = b + 3 + 1
    · rw [hk4, hu7_4, gup_ne (by omega), gup_ne (by omega), gup_ne (by omega), gup_ne (by omega), gup_self]
    by_cases hk5 : k = b + 3 + 2
    · rw [hk5, hu7_5, gup_ne (by omega), gup_ne (by omega), gup_ne (by omega), gup_self]
    by_cases hk6 : k = b + 3 + 3
    · rw [hk6, hu7_6, gup_ne (by omega), gup_ne (by omega), gup_self]
    by_cases hk7 : k = b + 3 + 4
    · rw [hk7, hu7_7, gup_ne (by omega), gup_self]
    by_cases hk8 : k = b + 3 + 5
    · rw [hk8, hu7_8, gup_self]
    rw [hu7, gup_ne hk0]
    rw [hui6, gup_ne hk8, gup_ne hk7, gup_ne hk6, gup_ne hk5, gup_ne hk4, gup_ne hk3]
    rw [hu5, gup_ne hk3]
    rw [hu4, gup_ne hk0]
    rw [hu3, gup_ne hk2]
    rw [hu2, gup_ne hk0]
    rw [hu1, gup_ne hk1]
    rw [gup_ne hk8, gup_ne hk7, gup_ne hk6, gup_ne hk5, gup_ne hk4, gup_ne hk3, gup_ne hk2, gup_ne hk1, gup_ne hk0]
  exact g_vret C hR hret ⟨rfl, hfin8, rfl⟩ d_C_init_31

set_option maxHeartbeats 4000000 in
set_option maxRecDepth 100000 in
theorem k_X_init (l : Launch) (X : gX) (ad : Nat → Nat) (u : gW) (sz : Nat) (x : Nat) (hb : u x = some (.inr (5, [.null, .null, .null, .null, .int 0, .int 0])))  (hf0 : u (x + 1) = none) (ha0 : ad (x + 1) = sz) (hf1 : u (x + 2) = none) (ha1 : ad (x + 2) = sz + 1) (hf2 : u (x + 3) = none) (ha2 : ad (x + 3) = sz + 2) (hf3 : u (x + 3 + 1) = none) (ha3 : ad (x + 3 + 1) = sz + 3) (hf4 : u (x + 3 + 2) = none) (ha4 : ad (x + 3 + 2) = sz + 4) (hf5 : u (x + 6) = none) (ha5 : ad (x + 6) = sz + 5) (hf6 : u (x + 6 + 1) = none) (ha6 : ad (x + 6 + 1) = sz + 6) (hf7 : u (x + 6 + 2) = none) (ha7 : ad (x + 6 + 2) = sz + 7) (hf8 : u (x + 6 + 3) = none) (ha8 : ad (x + 6 + 3) = sz + 8) : gMet l (EE X) y_X_init c_X_init 1 none ({ frames := 2, cells := 9, slots := 4223, locals := 40 }) [.ref (ad x)] ad u sz (fun v u' sz' => v = none ∧ u' = gup (gup (gup (gup (gup (gup (gup (gup (gup (gup u x (.inr (5, [.ref (ad (x + 1)), .ref (ad (x + 2)), .ref (ad (x + 3)), .ref (ad (x + 6)), .int 0, .int 0]))) (x + 1) (.inl ((X.2 3), 4, .inr (.inr (.inr (.inr (fun _ => none))))))) (x + 2) (.inl ((X.2 4), 64, .inr (.inr (.inr (.inr (fun _ => none))))))) (x + 3) (.inr (2, [.ref (ad (x + 3 + 1)), .ref (ad (x + 3 + 2)), .null, .int 0, .int 0, .int 0, .int 0]))) (x + 3 + 1) (.inl ((X.2 1), 12, .inr (.inl (fun _ => 0))))) (x + 3 + 2) (.inl ((X.2 1), 12, .inr (.inl (fun _ => 0))))) (x + 6) (.inr (3, [.ref (ad (x + 6 + 1)), .ref (ad (x + 6 + 2)), .ref (ad (x + 6 + 3)), .int 0]))) (x + 6 + 1) (.inl ((X.2 0), 12, .inl (fun _ => 0)))) (x + 6 + 2) (.inl ((X.2 1), 12, .inr (.inl (fun _ => 0))))) (x + 6 + 3) (.inl ((X.2 0), 4096, .inl (fun _ => 0))) ∧ sz' = sz + 9) := by
  refine gMet_of "ExpenseClubs" rfl (by decide) (Nat.le_of_ble_eq_true rfl) (lv := [(0, .ref (ad x))]) rfl (fun Z hZl C hR hret hname => ?_)
  refine g_aload_n C d_X_init_0 rfl 0 rfl ?_
  refine g_objInit C (gmem wd_20 rfl) (gmem wd_21 rfl) (gmem wd_22 rfl) d_X_init_1 (Nat.le_of_ble_eq_true rfl) (Nat.le_of_ble_eq_true rfl) ?_
  refine g_aload_n C d_X_init_4 rfl 0 rfl ?_
  refine g_iconst (v := 4) C d_X_init_5 (by decide) ?_
  refine g_newq (C0 := "ExpenseClubs$Club") (cA := (X.2 3)) (N := 4) (x + 1) 3 C hf0 ha0 (gmem wd_23 rfl) C.2.2.2.2.2.2.2.2.2.1 rfl (by decide) (by decide) (by decide) (Nat.le_of_ble_eq_true rfl) (Nat.le_of_ble_eq_true rfl) d_X_init_6 ?_
  obtain ⟨u1, hu1⟩ : ∃ z, z = gup u (x + 1) (.inl ((X.2 3), 4, .inr (.inr (.inr (.inr (fun _ => none)))))) := ⟨_, rfl⟩
  rw [← hu1]
  have hu1_0 : u1 x = some (.inr (5, [.null, .null, .null, .null, .int 0, .int 0])) := by rw [hu1, gup_ne (by omega)]; exact hb
  have hu1_1 : u1 (x + 1) = some (.inl ((X.2 3), 4, .inr (.inr (.inr (.inr (fun _ => none)))))) := by rw [hu1]; exact gup_self _ _ _
  have hu1_f1 : u1 (x + 2) = none := by rw [hu1, gup_ne (by omega)]; exact hf1
  have hu1_f2 : u1 (x + 3) = none := by rw [hu1, gup_ne (by omega)]; exact hf2
  have hu1_f3 : u1 (x + 3 + 1) = none := by rw [hu1, gup_ne (by omega)]; exact hf3
  have hu1_f4 : u1 (x + 3 + 2) = none := by rw [hu1, gup_ne (by omega)]; exact hf4
  have hu1_f5 : u1 (x + 6) = none := by rw [hu1, gup_ne (by omega)]; exact hf5
  have hu1_f6 : u1 (x + 6 + 1) = none := by rw [hu1, gup_ne (by omega)]; exact hf6
  have hu1_f7 : u1 (x + 6 + 2) = none := by rw [hu1, gup_ne (by omega)]; exact hf7
  have hu1_f8 : u1 (x + 6 + 3) = none := by rw [hu1, gup_ne (by omega)]; exact hf8
  show GW Z _ _ _ ad u1 (sz + 1) [(0, .ref (ad x))] 1 4 9 [.ref (ad (x + 1)), .ref (ad x)]
  refine g_putF x 0 C hname hu1_0 rfl i_X t_X t_X_ok n_X (by decide) (gmem wd_81 rfl) rfl rfl rfl rfl rfl (Nat.le_of_ble_eq_true rfl) d_X_init_9 ?_
  show GW Z _ _ _ ad (gup u1 x (.inr (5, [.ref (ad (x + 1)), .null, .null, .null, .int 0, .int 0]))) _ _ _ _ _ _
  obtain ⟨u2, hu2⟩ : ∃ z, z = gup u1 x (.inr (5, [.ref (ad (x + 1)), .null, .null, .null, .int 0, .int 0])) := ⟨_, rfl⟩
  rw [← hu2]
  have hu2_0 : u2 x = some (.inr (5, [.ref (ad (x + 1)), .null, .null, .null, .int 0, .int 0])) := by rw [hu2]; exact gup_self _ _ _
  have hu2_1 : u2 (x + 1) = some (.inl ((X.2 3), 4, .inr (.inr (.inr (.inr (fun _ => none)))))) := by rw [hu2, gup_ne (by omega)]; exact hu1_1
  have hu2_f0 : u2 (x + 2) = none := by rw [hu2, gup_ne (by omega)]; exact hu1_f1
  have hu2_f1 : u2 (x + 3) = none := by rw [hu2, gup_ne (by omega)]; exact hu1_f2
  have hu2_f2 : u2 (x + 3 + 1) = none := by rw [hu2, gup_ne (by omega)]; exact hu1_f3
  have hu2_f3 : u2 (x + 3 + 2) = none := by rw [hu2, gup_ne (by omega)]; exact hu1_f4
  have hu2_f4 : u2 (x + 6) = none := by rw [hu2, gup_ne (by omega)]; exact hu1_f5
  have hu2_f5 : u2 (x + 6 + 1) = none := by rw [hu2, gup_ne (by omega)]; exact hu1_f6
  have hu2_f6 : u2 (x + 6 + 2) = none := by rw [hu2, gup_ne (by omega)]; exact hu1_f7
  have hu2_f7 : u2 (x + 6 + 3) = none := by rw [hu2, gup_ne (by omega)]; exact hu1_f8
  refine g_aload_n C d_X_init_12 rfl 0 rfl ?_
  refine g_bipush (v := 64) C d_X_init_13 (by decide) ?_
  refine g_newq (C0 := "ExpenseClubs$Bill") (cA := (X.2 4)) (N := 64) (x + 2) 4 C hu2_f0 ha1 (gmem wd_25 rfl) C.2.2.2.2.2.2.2.2.2.2 rfl (by decide) (by decide) (by decide) (Nat.le_of_ble_eq_true rfl) (Nat.le_of_ble_eq_true rfl) d_X_init_15 ?_
  obtain ⟨u3, hu3⟩ : ∃ z, z = gup u2 (x + 2) (.inl ((X.2 4), 64, .inr (.inr (.inr (.inr (fun _ => none)))))) := ⟨_, rfl⟩
  rw [← hu3]
  have hu3_0 : u3 x = some (.inr (5, [.ref (ad (x + 1)), .null, .null, .null, .int 0, .int 0])) := by rw [hu3, gup_ne (by omega)]; exact hu2_0
  have hu3_1 : u3 (x + 1) = some (.inl ((X.2 3), 4, .inr (.inr (.inr (.inr (fun _ => none)))))) := by rw [hu3, gup_ne (by omega)]; exact hu2_1
  have hu3_2 : u3 (x + 2) = some (.inl ((X.2 4), 64, .inr (.inr (.inr (.inr (fun _ => none)))))) := by rw [hu3]; exact gup_self _ _ _
  have hu3_f1 : u3 (x + 3) = none := by rw [hu3, gup_ne (by omega)]; exact hu2_f1
  have hu3_f2 : u3 (x + 3 + 1) = none := by rw [hu3, gup_ne (by omega)]; exact hu2_f2
  have hu3_f3 : u3 (x + 3 + 2) = none := by rw [hu3, gup_ne (by omega)]; exact hu2_f3
  have hu3_f4 : u3 (x + 6) = none := by rw [hu3, gup_ne (by omega)]; exact hu2_f4
  have hu3_f5 : u3 (x + 6 + 1) = none := by rw [hu3, gup_ne (by omega)]; exact hu2_f5
  have hu3_f6 : u3 (x + 6 + 2) = none := by rw [hu3, gup_ne (by omega)]; exact hu2_f6
  have hu3_f7 : u3 (x + 6 + 3) = none := by rw [hu3, gup_ne (by omega)]; exact hu2_f7
  show GW Z _ _ _ ad u3 (sz + 2) [(0, .ref (ad x))] 2 68 18 [.ref (ad (x + 2)), .ref (ad x)]
  refine g_putF x 1 C hname hu3_0 rfl i_X t_X t_X_ok n_X (by decide) (gmem wd_82 rfl) rfl rfl rfl rfl rfl (Nat.le_of_ble_eq_true rfl) d_X_init_18 ?_
  show GW Z _ _ _ ad (gup u3 x (.inr (5, [.ref (ad (x + 1)), .ref (ad (x + 2)), .null, .null, .int 0, .int 0]))) _ _ _ _ _ _
  obtain ⟨u4, hu4⟩ : ∃ z, z = gup u3 x (.inr (5, [.ref (ad (x + 1)), .ref (ad (x + 2)), .null, .null, .int 0, .int 0])) := ⟨_, rfl⟩
  rw [← hu4]
  have hu4_0 : u4 x = some (.inr (5, [.ref (ad (x + 1)), .ref (ad (x + 2)), .null, .null, .int 0, .int 0])) := by rw [hu4]; exact gup_self _ _ _
  have hu4_1 : u4 (x + 1) = some (.inl ((X.2 3), 4, .inr (.inr (.inr (.inr (fun _ => none)))))) := by rw [hu4, gup_ne (by omega)]; exact hu3_1
  have hu4_2 : u4 (x + 2) = some (.inl ((X.2 4), 64, .inr (.inr (.inr (.inr (fun _ => none)))))) := by rw [hu4, gup_ne (by omega)]; exact hu3_2
  have hu4_f0 : u4 (x + 3) = none := by rw [hu4, gup_ne (by omega)]; exact hu3_f1
  have hu4_f1 : u4 (x + 3 + 1) = none := by rw [hu4, gup_ne (by omega)]; exact hu3_f2
  have hu4_f2 : u4 (x + 3 + 2) = none := by rw [hu4, gup_ne (by omega)]; exact hu3_f3
  have hu4_f3 : u4 (x + 6) = none := by rw [hu4, gup_ne (by omega)]; exact hu3_f4
  have hu4_f4 : u4 (x + 6 + 1) = none := by rw [hu4, gup_ne (by omega)]; exact hu3_f5
  have hu4_f5 : u4 (x + 6 + 2) = none := by rw [hu4, gup_ne (by omega)]; exact hu3_f6
  have hu4_f6 : u4 (x + 6 + 3) = none := by rw [hu4, gup_ne (by omega)]; exact hu3_f7
  refine g_aload_n C d_X_init_21 rfl 0 rfl ?_
  refine g_new (ci := 2) (fs := [.null, .null, .null, .int 0, .int 0, .int 0, .int 0]) (x + 3) C hu4_f0 ha2 rfl i_D t_D t_D_ok (gmem wd_27 rfl) (gmem wd_28 rfl) (gmem wd_2 rfl) (fun j hj => by rcases (show j = 0 ∨ j = 1 ∨ j = 2 ∨ j = 3 ∨ j = 4 ∨ j = 5 ∨ j = 6 by omega) with rfl | rfl | rfl | rfl | rfl | rfl | rfl <;> rfl) (Nat.le_of_ble_eq_true rfl) (Nat.le_of_ble_eq_true rfl) d_X_init_22 ?_
  obtain ⟨u5, hu5⟩ : ∃ z, z = gup u4 (x + 3) (.inr (2, [.null, .null, .null, .int 0, .int 0, .int 0, .int 0])) := ⟨_, rfl⟩
  rw [← hu5]
  have hu5_0 : u5 x = some (.inr (5, [.ref (ad (x + 1)), .ref (ad (x + 2)), .null, .null, .int 0, .int 0])) := by rw [hu5, gup_ne (by omega)]; exact hu4_0
  have hu5_1 : u5 (x + 1) = some (.inl ((X.2 3), 4, .inr (.inr (.inr (.inr (fun _ => none)))))) := by rw [hu5, gup_ne (by omega)]; exact hu4_1
  have hu5_2 : u5 (x + 2) = some (.inl ((X.2 4), 64, .inr (.inr (.inr (.inr (fun _ => none)))))) := by rw [hu5, gup_ne (by omega)]; exact hu4_2
  have hu5_3 : u5 (x + 3) = some (.inr (2, [.null, .null, .null, .int 0, .int 0, .int 0, .int 0])) := by rw [hu5]; exact gup_self _ _ _
  have hu5_f1 : u5 (x + 3 + 1) = none := by rw [hu5, gup_ne (by omega)]; exact hu4_f1
  have hu5_f2 : u5 (x + 3 + 2) = none := by rw [hu5, gup_ne (by omega)]; exact hu4_f2
  have hu5_f3 : u5 (x + 6) = none := by rw [hu5, gup_ne (by omega)]; exact hu4_f3
  have hu5_f4 : u5 (x + 6 + 1) = none := by rw [hu5, gup_ne (by omega)]; exact hu4_f4
  have hu5_f5 : u5 (x + 6 + 2) = none := by rw [hu5, gup_ne (by omega)]; exact hu4_f5
  have hu5_f6 : u5 (x + 6 + 3) = none := by rw [hu5, gup_ne (by omega)]; exact hu4_f6
  show GW Z _ _ _ ad u5 (sz + 3) [(0, .ref (ad x))] 3 75 25 [.ref (ad (x + 3)), .ref (ad x)]
  refine g_dup C d_X_init_25 rfl ?_
  refine g_callIN 0 C (k_D_init _ X ad u5 (sz + 3) (x + 3) hu5_3 hu5_f1 ha3 hu5_f2 ha4) (gmem wd_31 rfl) (gmem wd_2 rfl) (List.mem_of_getElem? (i := 0) rfl) (gmem wd_30 rfl) rfl ⟨by decide, by decide, by decide +kernel⟩ ⟨Nat.le_of_ble_eq_true rfl, Nat.le_of_ble_eq_true rfl⟩ rfl rfl (Nat.le_of_ble_eq_true rfl) d_X_init_26 ⟨Nat.le_of_ble_eq_true rfl, Nat.le_of_ble_eq_true rfl⟩ ?_
  rintro v9 ui6 s9 ⟨h9, hui6, hs9⟩; rw [h9, hs9]; clear h9 hs9 v9 s9
  have hui6_0 : ui6 x = some (.inr (5, [.ref (ad (x + 1)), .ref (ad (x + 2)), .null, .null, .int 0, .int 0])) := by rw [hui6, gup_ne (by omega), gup_ne (by omega), gup_ne (by omega)]; exact hu5_0
  have hui6_1 : ui6 (x + 1) = some (.inl ((X.2 3), 4, .inr (.inr (.inr (.inr (fun _ => none)))))) := by rw [hui6, gup_ne (by omega), gup_ne (by omega), gup_ne (by omega)]; exact hu5_1
  have hui6_2 : ui6 (x + 2) = some (.inl ((X.2 4), 64, .inr (.inr (.inr (.inr (fun _ => none)))))) := by rw [hui6, gup_ne (by omega), gup_ne (by omega), gup_ne (by omega)]; exact hu5_2
  have hui6_3 : ui6 (x + 3) = some (.inr (2, [.ref (ad (x + 3 + 1)), .ref (ad (x + 3 + 2)), .null, .int 0, .int 0, .int 0, .int 0])) := by rw [hui6, gup_ne (by omega), gup_ne (by omega), gup_self]
  have hui6_4 : ui6 (x + 3 + 1) = some (.inl ((X.2 1), 12, .inr (.inl (fun _ => 0)))) := by rw [hui6, gup_ne (by omega), gup_self]
  have hui6_5 : ui6 (x + 3 + 2) = some (.inl ((X.2 1), 12, .inr (.inl (fun _ => 0)))) := by rw [hui6, gup_self]
  have hui6_f2 : ui6 (x + 6) = none := by rw [hui6, gup_ne (by omega), gup_ne (by omega), gup_ne (by omega)]; exact hu5_f3
  have hui6_f3 : ui6 (x + 6 + 1) = none := by rw [hui6, gup_ne (by omega), gup_ne (by omega), gup_ne (by omega)]; exact hu5_f4
  have hui6_f4 : ui6 (x + 6 + 2) = none := by rw [hui6, gup_ne (by omega), gup_ne (by omega), gup_ne (by omega)]; exact hu5_f5
  have hui6_f5 : ui6 (x + 6 + 3) = none := by rw [hui6, gup_ne (by omega), gup_ne (by omega), gup_ne (by omega)]; exact hu5_f6
  show GW Z _ _ _ ad ui6 (sz + 5) [(0, .ref (ad x))] 5 99 29 [.ref (ad (x + 3)), .ref (ad x)]
  refine g_putF x 2 C hname hui6_0 rfl i_X t_X t_X_ok n_X (by decide) (gmem wd_83 rfl) rfl rfl rfl rfl rfl (Nat.le_of_ble_eq_true rfl) d_X_init_29 ?_
  show GW Z _ _ _ ad (gup ui6 x (.inr (5, [.ref (ad (x + 1)), .ref (ad (x + 2)), .ref (ad (x + 3)), .null, .int 0, .int 0]))) _ _ _ _ _ _
  obtain ⟨u7, hu7⟩ : ∃ z, z = gup ui6 x (.inr (5, [.ref (ad (x + 1)), .ref (ad (x + 2)), .ref (ad (x + 3)), .null, .int 0, .int 0])) := ⟨_, rfl⟩
  rw [← hu7]
  have hu7_0 : u7 x = some (.inr (5, [.ref (ad (x + 1)), .ref (ad (x + 2)), .ref (ad (x + 3)), .null, .int 0, .int 0])) := by rw [hu7]; exact gup_self _ _ _
  have hu7_1 : u7 (x + 1) = some (.inl ((X.2 3), 4, .inr (.inr (.inr (.inr (fun _ => none)))))) := by rw [hu7, gup_ne (by omega)]; exact hui6_1
  have hu7_2 : u7 (x + 2) = some (.inl ((X.2 4), 64, .inr (.inr (.inr (.inr (fun _ => none)))))) := by rw [hu7, gup_ne (by omega)]; exact hui6_2
  have hu7_3 : u7 (x + 3) = some (.inr (2, [.ref (ad (x + 3 + 1)), .ref (ad (x + 3 + 2)), .null, .int 0, .int 0, .int 0, .int 0])) := by rw [hu7, gup_ne (by omega)]; exact hui6_3
  have hu7_4 : u7 (x + 3 + 1) = some (.inl ((X.2 1), 12, .inr (.inl (fun _ => 0)))) := by rw [hu7, gup_ne (by omega)]; exact hui6_4
  have hu7_5 : u7 (x + 3 + 2) = some (.inl ((X.2 1), 12, .inr (.inl (fun _ => 0)))) := by rw [hu7, gup_ne (by omega)]; exact hui6_5
  have hu7_f0 : u7 (x + 6) = none := by rw [hu7, gup_ne (by omega)]; exact hui6_f2
  have hu7_f1 : u7 (x + 6 + 1) = none := by rw [hu7, gup_ne (by omega)]; exact hui6_f3
  have hu7_f2 : u7 (x + 6 + 2) = none := by rw [hu7, gup_ne (by omega)]; exact hui6_f4
  have hu7_f3 : u7 (x + 6 + 3) = none := by rw [hu7, gup_ne (by omega)]; exact hui6_f5
  refine g_aload_n C d_X_init_32 rfl 0 rfl ?_
  refine g_new (ci := 3) (fs := [.null, .null, .null, .int 0]) (x + 6) C hu7_f0 ha5 rfl i_G t_G t_G_ok (gmem wd_61 rfl) (gmem wd_62 rfl) (gmem wd_3 rfl) (fun j hj => by rcases (show j = 0 ∨ j = 1 ∨ j = 2 ∨ j = 3 by omega) with rfl | rfl | rfl | rfl <;> rfl) (Nat.le_of_ble_eq_true rfl) (Nat.le_of_ble_eq_true rfl) d_X_init_33 ?_
  obtain ⟨u8, hu8⟩ : ∃ z, z = gup u7 (x + 6) (.inr (3, [.null, .null, .null, .int 0])) := ⟨_, rfl⟩
  rw [← hu8]
  have hu8_0 : u8 x = some (.inr (5, [.ref (ad (x + 1)), .ref (ad (x + 2)), .ref (ad (x + 3)), .null, .int 0, .int 0])) := by rw [hu8, gup_ne (by omega)]; exact hu7_0
  have hu8_1 : u8 (x + 1) = some (.inl ((X.2 3), 4, .inr (.inr (.inr (.inr (fun _ => none)))))) := by rw [hu8, gup_ne (by omega)]; exact hu7_1
  have hu8_2 : u8 (x + 2) = some (.inl ((X.2 4), 64, .inr (.inr (.inr (.inr (fun _ => none)))))) := by rw [hu8, gup_ne (by omega)]; exact hu7_2
  have hu8_3 : u8 (x + 3) = some (.inr (2, [.ref (ad (x + 3 + 1)), .ref (ad (x + 3 + 2)), .null, .int 0, .int 0, .int 0, .int 0])) := by rw [hu8, gup_ne (by omega)]; exact hu7_3
  have hu8_4 : u8 (x + 3 + 1) = some (.inl ((X.2 1), 12, .inr (.inl (fun _ => 0)))) := by rw [hu8, gup_ne (by omega)]; exact hu7_4
  have hu8_5 : u8 (x + 3 + 2) = some (.inl ((X.2 1), 12, .inr (.inl (fun _ => 0)))) := by rw [hu8, gup_ne (by omega)]; exact hu7_5
  have hu8_6 : u8 (x + 6) = some (.inr (3, [.null, .null, .null, .int 0])) := by rw [hu8]; exact gup_self _ _ _
  have hu8_f1 : u8 (x + 6 + 1) = none := by rw [hu8, gup_ne (by omega)]; exact hu7_f1
  have hu8_f2 : u8 (x + 6 + 2) = none := by rw [hu8, gup_ne (by omega)]; exact hu7_f2
  have hu8_f3 : u8 (x + 6 + 3) = none := by rw [hu8, gup_ne (by omega)]; exact hu7_f3
  show GW Z _ _ _ ad u8 (sz + 6) [(0, .ref (ad x))] 6 103 36 [.ref (ad (x + 6)), .ref (ad x)]
  refine g_dup C d_X_init_36 rfl ?_
  refine g_callIN 0 C (k_G_init _ X ad u8 (sz + 6) (x + 6) hu8_6 hu8_f1 ha6 hu8_f2 ha7 hu8_f3 ha8) (gmem wd_65 rfl) (gmem wd_3 rfl) (List.mem_of_getElem? (i := 1) rfl) (gmem wd_64 rfl) rfl ⟨by decide, by decide, by decide +kernel⟩ ⟨Nat.le_of_ble_eq_true rfl, Nat.le_of_ble_eq_true rfl⟩ rfl rfl (Nat.le_of_ble_eq_true rfl) d_X_init_37 ⟨Nat.le_of_ble_eq_true rfl, Nat.le_of_ble_eq_true rfl⟩ ?_
  rintro v9 ui9 s9 ⟨h9, hui9, hs9⟩; rw [h9, hs9]; clear h9 hs9 v9 s9
  have hui9_0 : ui9 x = some (.inr (5, [.ref (ad (x + 1)), .ref (ad (x + 2)), .ref (ad (x + 3)), .null, .int 0, .int 0])) := by rw [hui9, gup_ne (by omega), gup_ne (by omega), gup_ne (by omega), gup_ne (by omega)]; exact hu8_0
  have hui9_1 : ui9 (x + 1) = some (.inl ((X.2 3), 4, .inr (.inr (.inr (.inr (fun _ => none)))))) := by rw [hui9, gup_ne (by omega), gup_ne (by omega), gup_ne (by omega), gup_ne (by omega)]; exact hu8_1
  have hui9_2 : ui9 (x + 2) = some (.inl ((X.2 4), 64, .inr (.inr (.inr (.inr (fun _ => none)))))) := by rw [hui9, gup_ne (by omega), gup_ne (by omega), gup_ne (by omega), gup_ne (by omega)]; exact hu8_2
  have hui9_3 : ui9 (x + 3) = some (.inr (2, [.ref (ad (x + 3 + 1)), .ref (ad (x + 3 + 2)), .null, .int 0, .int 0, .int 0, .int 0])) := by rw [hui9, gup_ne (by omega), gup_ne (by omega), gup_ne (by omega), gup_ne (by omega)]; exact hu8_3
  have hui9_4 : ui9 (x + 3 + 1) = some (.inl ((X.2 1), 12, .inr (.inl (fun _ => 0)))) := by rw [hui9, gup_ne (by omega), gup_ne (by omega), gup_ne (by omega), gup_ne (by omega)]; exact hu8_4
  have hui9_5 : ui9 (x + 3 + 2) = some (.inl ((X.2 1), 12, .inr (.inl (fun _ => 0)))) := by rw [hui9, gup_ne (by omega), gup_ne (by omega), gup_ne (by omega), gup_ne (by omega)]; exact hu8_5
  have hui9_6 : ui9 (x + 6) = some (.inr (3, [.ref (ad (x + 6 + 1)), .ref (ad (x + 6 + 2)), .ref (ad (x + 6 + 3)), .int 0])) := by rw [hui9, gup_ne (by omega), gup_ne (by omega), gup_ne (by omega), gup_self]
  have hui9_7 : ui9 (x + 6 + 1) = some (.inl ((X.2 0), 12, .inl (fun _ => 0))) := by rw [hui9, gup_ne (by omega), gup_ne (by omega), gup_self]
  have hui9_8 : ui9 (x + 6 + 2) = some (.inl ((X.2 1), 12, .inr (.inl (fun _ => 0)))) := by rw [hui9, gup_ne (by omega), gup_self]
  have hui9_9 : ui9 (x + 6 + 3) = some (.inl ((X.2 0), 4096, .inl (fun _ => 0))) := by rw [hui9, gup_self]
  show GW Z _ _ _ ad ui9 (sz + 9) [(0, .ref (ad x))] 9 4223 40 [.ref (ad (x + 6)), .ref (ad x)]
  refine g_putF x 3 C hname hui9_0 rfl i_X t_X t_X_ok n_X (by decide) (gmem wd_84 rfl) rfl rfl rfl rfl rfl (Nat.le_of_ble_eq_true rfl) d_X_init_40 ?_
  show GW Z _ _ _ ad (gup ui9 x (.inr (5, [.ref (ad (x + 1)), .ref (ad (x + 2)), .ref (ad (x + 3)), .ref (ad (x + 6)), .int 0, .int 0]))) _ _ _ _ _ _
  obtain ⟨u10, hu10⟩ : ∃ z, z = gup ui9 x (.inr (5, [.ref (ad (x + 1)), .ref (ad (x + 2)), .ref (ad (x + 3)), .ref (ad (x + 6)), .int 0, .int 0])) := ⟨_, rfl⟩
  rw [← hu10]
  have hu10_0 : u10 x = some (.inr (5, [.ref (ad (x + 1)), .ref (ad (x + 2)), .ref (ad (x + 3)), .ref (ad (x + 6)), .int 0, .int 0])) := by rw [hu10]; exact gup_self _ _ _
  have hu10_1 : u10 (x + 1) = some (.inl ((X.2 3), 4, .inr (.inr (.inr (.inr (fun _ => none)))))) := by rw [hu10, gup_ne (by omega)]; exact hui9_1
  have hu10_2 : u10 (x + 2) = some (.inl ((X.2 4), 64, .inr (.inr (.inr (.inr (fun _ => none)))))) := by rw [hu10, gup_ne (by omega)]; exact hui9_2
  have hu10_3 : u10 (x + 3) = some (.inr (2, [.ref (ad (x + 3 + 1)), .ref (ad (x + 3 + 2)), .null, .int 0, .int 0, .int 0, .int 0])) := by rw [hu10, gup_ne (by omega)]; exact hui9_3
  have hu10_4 : u10 (x + 3 + 1) = some (.inl ((X.2 1), 12, .inr (.inl (fun _ => 0)))) := by rw [hu10, gup_ne (by omega)]; exact hui9_4
  have hu10_5 : u10 (x + 3 + 2) = some (.inl ((X.2 1), 12, .inr (.inl (fun _ => 0)))) := by rw [hu10, gup_ne (by omega)]; exact hui9_5
  have hu10_6 : u10 (x + 6) = some (.inr (3, [.ref (ad (x + 6 + 1)), .ref (ad (x + 6 + 2)), .ref (ad (x + 6 + 3)), .int 0])) := by rw [hu10, gup_ne (by omega)]; exact hui9_6
  have hu10_7 : u10 (x + 6 + 1) = some (.inl ((X.2 0), 12, .inl (fun _ => 0))) := by rw [hu10, gup_ne (by omega)]; exact hui9_7
  have hu10_8 : u10 (x + 6 + 2) = some (.inl ((X.2 1), 12, .inr (.inl (fun _ => 0)))) := by rw [hu10, gup_ne (by omega)]; exact hui9_8
  have hu10_9 : u10 (x + 6 + 3) = some (.inl ((X.2 0), 4096, .inl (fun _ => 0))) := by rw [hu10, gup_ne (by omega)]; exact hui9_9
  have hfin11 : u10 = gup (gup (gup (gup (gup (gup (gup (gup (gup (gup u x (.inr (5, [.ref (ad (x + 1)), .ref (ad (x + 2)), .ref (ad (x + 3)), .ref (ad (x + 6)), .int 0, .int 0]))) (x + 1) (.inl ((X.2 3), 4, .inr (.inr (.inr (.inr (fun _ => none))))))) (x + 2) (.inl ((X.2 4), 64, .inr (.inr (.inr (.inr (fun _ => none))))))) (x + 3) (.inr (2, [.ref (ad (x + 3 + 1)), .ref (ad (x + 3 + 2)), .null, .int 0, .int 0, .int 0, .int 0]))) (x + 3 + 1) (.inl ((X.2 1), 12, .inr (.inl (fun _ => 0))))) (x + 3 + 2) (.inl ((X.2 1), 12, .inr (.inl (fun _ => 0))))) (x + 6) (.inr (3, [.ref (ad (x + 6 + 1)), .ref (ad (x + 6 + 2)), .ref (ad (x + 6 + 3)), .int 0]))) (x + 6 + 1) (.inl ((X.2 0), 12, .inl (fun _ => 0)))) (x + 6 + 2) (.inl ((X.2 1), 12, .inr (.inl (fun _ => 0))))) (x + 6 + 3) (.inl ((X.2 0), 4096, .inl (fun _ => 0))) := by
    funext k
    by_cases hk0 : k = x
    · rw [hk0, hu10_0, gup_ne (by omega), gup_ne (by omega), gup_ne (by omega), gup_ne (by omega), gup_ne (by omega), gup_ne (by omega), gup_ne (by omega), gup_ne (by omega), gup_ne (by omega), gup_self]
    by_cases hk1 : k = x + 1
    · rw [hk1, hu10_1, gup_ne (by omega), gup_ne (by omega), gup_ne (by omega), gup_ne (by omega), gup_ne (by omega), gup_ne (by omega), gup_ne (by omega), gup_ne (by omega), gup_self]
    by_cases hk2 : k = x + 2
    · rw [hk2, hu10_2, gup_ne (by omega), gup_ne (by omega), gup_ne (by omega), gup_ne (by omega), gup_ne (by omega), gup_ne (by omega), gup_ne (by omega), gup_self]
    by_cases hk3 : k = x + 3
    · rw [hk3, hu10_3, gup_ne (by omega), gup_ne (by omega), gup_ne (by omega), gup_ne (by omega), gup_ne (by omega), gup_ne (by omega), gup_self]
    by_cases hk4 : k = x + 3 + 1
    · rw [hk4, hu10_4, gup_ne (by omega), gup_ne (by omega), gup_ne (by omega), gup_ne (by omega), gup_ne (by omega), gup_self]
    by_cases hk5 : k = x + 3 + 2
    · rw [hk5, hu10_5, gup_ne (by omega), gup_ne (by omega), gup_ne (by omega), gup_ne (by omega), gup_self]
    by_cases hk6 : k = x + 6
    · rw [hk6, hu10_6, gup_ne (by omega), gup_ne (by omega), gup_ne (by omega), gup_self]
    by_cases hk7 : k = x + 6 + 1
    · rw [hk7, hu10_7, gup_ne (by omega), gup_ne (by omega), gup_self]
    by_cases hk8 : k = x + 6 + 2
    · rw [hk8, hu10_8, gup_ne (by omega), gup_self]
    by_cases hk9 : k = x + 6 + 3
    · rw [hk9, hu10_9, gup_self]
    rw [hu10, gup_ne hk0]
    rw [hui9, gup_ne hk9, gup_ne hk8, gup_ne hk7, gup_ne hk6]
    rw [hu8, gup_ne hk6]
    rw [hu7, gup_ne hk0]
    rw [hui6, gup_ne hk5, gup_ne hk4, gup_ne hk3]
    rw [hu5, gup_ne hk3]
    rw [hu4, gup_ne hk0]
    rw [hu3, gup_ne hk2]
    rw [hu2, gup_ne hk0]
    rw [hu1, gup_ne hk1]
    rw [gup_ne hk9, gup_ne hk8, gup_ne hk7, gup_ne hk6, gup_ne hk5, gup_ne hk4, gup_ne hk3, gup_ne hk2, gup_ne hk1, gup_ne hk0]
  exact g_vret C hR hret ⟨rfl, hfin11, rfl⟩ d_X_init_43
