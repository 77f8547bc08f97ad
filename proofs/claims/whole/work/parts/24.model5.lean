theorem ge32 {i : Nat} (h : i < 32) : ¬ (32 : Int32) ≤ nI i := (show ∀ i, i < 32 → ¬ (32 : Int32) ≤ nI i by decide +kernel) i h
theorem geN' {b : Int32} {n i : Nat} (h : b = nI n) (hn : n ≤ 4096) (hi : i < n) : ¬ b ≤ nI i := geN h hn hi
/-- a line's set, each of whose members stays -/
def linOK (cl dr : Int32) (mem lef : Nat → Int32) (set : Int32) (n : Nat) : Prop := ∀ j, j < n → (set >>> (nI j &&& 31)) &&& 1 = 1 → staM cl dr mem lef (nI j) = true
def okLin (cl dr wy li : Int32) (mem lef : Nat → Int32) (n set : Int32) : Prop := ¬ dr = -1 ∧ wy = 5 ∧ withM n 1 100000000 = true ∧ ¬ set = 0 ∧ ¬ li = 16 ∧ linOK cl dr mem lef set 32
theorem in16x {li : Int32} {L : Nat} (h : li = nI L) (hL : L ≤ 16) (hn : ¬ li = 16) : vp_in li 16 := by
  have h9 : L ≠ 16 := fun e => hn (by rw [h, e]; rfl)
  rw [h]; exact vp_in_nI (by omega) (by decide)
def hsR (lis lic : Nat → Int32) (m : Nat) : Nat → Int64
  | 0 => 0
  | k + 1 => hsR lis lic m k + (if (lis k >>> (nI m &&& 31)) &&& 1 = 1 then (27720 / sizS (lis k) 12).toInt64 * (lic k).toInt64 else 0)
def heaV (wy : Int32) (wei lis lic : Nat → Int32) (L : Nat) (m : Nat) : Int64 := if wy = 5 then hsR lis lic m L else (wei m).toInt64
def linS (lic : Nat → Int32) : Nat → Int64
  | 0 => 0
  | k + 1 => linS lic k + (lic k).toInt64
def fitM (wy ce : Int32) (all ls : Int64) : Bool := if wy < 3 then true else if wy = 3 then decide (all = ce.toInt64) else if wy = 4 then decide (all = 10000) else decide (ls = ce.toInt64)
theorem updL_updL (f : Nat → Int64) (i : Nat) (x y : Int64) : vp_updL (vp_updL f i x) i y = vp_updL f i y := by
  funext j; simp only [vp_updL]; split <;> rfl
set_option maxHeartbeats 4000000 in
set_option maxRecDepth 100000 in
theorem k_M_line (l : Launch) (X : gX) (ad : Nat → Nat) (u : gW) (sz : Nat) (m : Nat) (th cl dr wy ce ra li bi : Int32) (mem lef lic lis : Nat → Int32) (n set : Int32) (hm : u m = some (mO ad m th cl dr wy ce ra li bi)) (h_mem : u (m + 1) = some (.inl ((X.2 0), 4, .inl mem))) (h_lef : u (m + 3) = some (.inl ((X.2 2), 48, .inl lef))) (h_lic : u (m + 6) = some (.inl ((X.2 0), 16, .inl lic))) (h_lis : u (m + 7) = some (.inl ((X.2 0), 16, .inl lis))) (hcl : cl ≤ 4) (hmem : ∀ j, j < 4 → mem j ≤ 12) (L : Nat) (hli : li = nI L) (hL16 : L ≤ 16) : gMet l (EE X) y_M_line c_M_line 4 (some .boolean) ({ frames := 3, cells := 0, slots := 0, locals := 64 }) [.ref (ad m), .int n, .int set] ad u sz (fun v u' sz' => sz' = sz ∧ ((okLin cl dr wy li mem lef n set ∧ v = some (.int 1) ∧ u' = gup (gup (gup u m (mO ad m 0 cl dr wy ce ra (li + 1) bi)) (m + 6) (.inl ((X.2 0), 16, .inl (upd lic li.toNatClampNeg n)))) (m + 7) (.inl ((X.2 0), 16, .inl (upd lis li.toNatClampNeg set)))) ∨ (¬ (okLin cl dr wy li mem lef n set) ∧ v = some (.int 0) ∧ u' = gup u m (mO ad m 0 cl dr wy ce ra li bi)))) := by
  refine gMet_of "ExpenseClubsModel" rfl (by decide) (Nat.le_of_ble_eq_true rfl) (lv := [(0, .ref (ad m)), (1, .int n), (2, .int set)]) rfl (fun Z hZl C hR hret hname => ?_)
  refine g_aload_n C d_M_line_0 rfl 0 rfl ?_
  refine g_iconst (v := 0) C d_M_line_1 (by decide) ?_
  refine g_put m 0 C hm rfl i_M t_M t_M_ok n_M (by decide) (gmem wd_518 rfl) rfl rfl rfl rfl (Nat.le_of_ble_eq_true rfl) d_M_line_2 ?_
  show GW Z _ _ _ ad (gup u m (mO ad m 0 cl dr wy ce ra li bi)) _ _ _ _ _ _
  obtain ⟨u1, hu1⟩ : ∃ z, z = gup u m (mO ad m 0 cl dr wy ce ra li bi) := ⟨_, rfl⟩
  rw [← hu1]
  have hu1_0 : u1 m = some (mO ad m 0 cl dr wy ce ra li bi) := by rw [hu1]; exact gup_self _ _ _
  have hu1_1 : u1 (m + 1) = some (.inl ((X.2 0), 4, .inl mem)) := by rw [hu1, gup_ne (by omega)]; exact h_mem
  have hu1_2 : u1 (m + 3) = some (.inl ((X.2 2), 48, .inl lef)) := by rw [hu1, gup_ne (by omega)]; exact h_lef
  have hu1_3 : u1 (m + 6) = some (.inl ((X.2 0), 16, .inl lic)) := by rw [hu1, gup_ne (by omega)]; exact h_lic
  have hu1_4 : u1 (m + 7) = some (.inl ((X.2 0), 16, .inl lis)) := by rw [hu1, gup_ne (by omega)]; exact h_lis
  refine g_aload_n C d_M_line_5 rfl 0 rfl ?_
  refine g_get m 5 C hu1_0 rfl i_M (by decide) (gmem wd_523 rfl) rfl rfl d_M_line_6 ?_
  refine g_iconst (v := (-1)) C d_M_line_9 (by decide) ?_
  refine g_icmp_eq 44 C d_M_line_10 (by decide) (fun c10 => ?_) (fun c10 => ?_)
  · skip
    refine g_iconst (v := 0) C d_M_line_44 (by decide) ?_
    exact g_zret C hR hret rfl ⟨rfl, Or.inr ⟨fun h9 => h9.1 c10, rfl, (by first | (rw [hu1]; done) | (rw [hu1]; funext k; simp only [gup]; (repeat' split) <;> first | with_reducible rfl | (exfalso; omega) | rfl))⟩⟩ d_M_line_45
  · skip
    refine g_aload_n C d_M_line_13 rfl 0 rfl ?_
    refine g_get m 6 C hu1_0 rfl i_M (by decide) (gmem wd_524 rfl) rfl rfl d_M_line_14 ?_
    refine g_iconst (v := 5) C d_M_line_17 (by decide) ?_
    refine g_icmp_ne 44 C d_M_line_18 (by decide) (fun c18 => ?_) (fun c18 => ?_)
    · skip
      refine g_iconst (v := 0) C d_M_line_44 (by decide) ?_
      exact g_zret C hR hret rfl ⟨rfl, Or.inr ⟨fun h9 => c18 h9.2.1, rfl, (by first | (rw [hu1]; done) | (rw [hu1]; funext k; simp only [gup]; (repeat' split) <;> first | with_reducible rfl | (exfalso; omega) | rfl))⟩⟩ d_M_line_45
    · skip
      refine g_iload_n C d_M_line_21 rfl 1 rfl ?_
      refine g_iconst (v := 1) C d_M_line_22 (by decide) ?_
      refine g_ldc C (gmem wd_653 rfl) d_M_line_23 ?_
      refine g_callS 3 C (k_M_within _ X ad u1 sz n 1 100000000) (gmem wd_650 rfl) (gmem wd_651 rfl) (gmem wd_4 rfl) (gmem wd_652 rfl) ⟨by decide, by decide, by decide +kernel⟩ ⟨Nat.le_of_ble_eq_true rfl, Nat.le_of_ble_eq_true rfl⟩ rfl rfl (Nat.le_of_ble_eq_true rfl) d_M_line_25 ⟨Nat.le_of_ble_eq_true rfl, Nat.le_of_ble_eq_true rfl⟩ ?_
      rintro v9 u9 s9 ⟨h9, hu9, hs9⟩; rw [h9, hu9, hs9]; clear h9 hu9 hs9 v9 u9 s9
      show GW Z _ _ _ ad u1 sz [(0, .ref (ad m)), (1, .int n), (2, .int set)] 0 0 28 [.int (bI (withM n 1 100000000))]
      refine g_if_eq 44 C d_M_line_28 (by decide) (fun c28 => ?_) (fun c28 => ?_)
      · skip
        refine g_iconst (v := 0) C d_M_line_44 (by decide) ?_
        exact g_zret C hR hret rfl ⟨rfl, Or.inr ⟨fun h9 => absurd h9.2.2.1 (by rw [bI_eq0.mp c28]; decide), rfl, (by first | (rw [hu1]; done) | (rw [hu1]; funext k; simp only [gup]; (repeat' split) <;> first | with_reducible rfl | (exfalso; omega) | rfl))⟩⟩ d_M_line_45
      · skip
        refine g_iload_n C d_M_line_31 rfl 2 rfl ?_
        refine g_if_eq 44 C d_M_line_32 (by decide) (fun c32 => ?_) (fun c32 => ?_)
        · skip
          refine g_iconst (v := 0) C d_M_line_44 (by decide) ?_
          exact g_zret C hR hret rfl ⟨rfl, Or.inr ⟨fun h9 => h9.2.2.2.1 c32, rfl, (by first | (rw [hu1]; done) | (rw [hu1]; funext k; simp only [gup]; (repeat' split) <;> first | with_reducible rfl | (exfalso; omega) | rfl))⟩⟩ d_M_line_45
        · skip
          refine g_aload_n C d_M_line_35 rfl 0 rfl ?_
          refine g_get m 11 C hu1_0 rfl i_M (by decide) (gmem wd_529 rfl) rfl rfl d_M_line_36 ?_
          refine g_bipush (v := 16) C d_M_line_39 (by decide) ?_
          refine g_icmp_ne 46 C d_M_line_41 (by decide) (fun c41 => ?_) (fun c41 => ?_)
          · skip
            refine g_iconst (v := 0) C d_M_line_46 (by decide) ?_
            refine g_istore_n C d_M_line_47 rfl [(3, .int 0), (0, .ref (ad m)), (1, .int n), (2, .int set)] (by decide) rfl ?_
            refine g_fewer (lv' := [(0, .ref (ad m)), (1, .int n), (2, .int set), (3, .int 0)]) [1, 2, 3, 0] rfl ?_
            refine GW_eq (u2 := u1) (lv2 := [(0, .ref (ad m)), (1, .int n), (2, .int set), (3, .int (nI 0))]) rfl rfl ?_
            refine g_loop 32 (fun iL7 => ∀ j, j < iL7 → (set >>> (nI j &&& 31)) &&& 1 = 1 → staM cl dr mem lef (nI j) = true) (fun iL7 => u1) (fun iL7 => [(0, .ref (ad m)), (1, .int n), (2, .int set), (3, .int (nI iL7))]) (fun iL7 hiL7 piL7 KL7 => ?_) (fun piL7 => ?_) 0 (by omega) lt_0
            · skip
              show GW Z _ _ _ ad (u1) _ [(0, .ref (ad m)), (1, .int n), (2, .int set), (3, .int (nI iL7))] _ _ 48 []
              obtain ⟨wL7s, hwL7s⟩ : ∃ z, z = u1 := ⟨_, rfl⟩
              rw [← hwL7s]
              have hwL7s_0 : wL7s m = some (mO ad m 0 cl dr wy ce ra li bi) := by rw [hwL7s]; exact hu1_0
              have hwL7s_1 : wL7s (m + 1) = some (.inl ((X.2 0), 4, .inl mem)) := by rw [hwL7s]; exact hu1_1
              have hwL7s_2 : wL7s (m + 3) = some (.inl ((X.2 2), 48, .inl lef)) := by rw [hwL7s]; exact hu1_2
              have hwL7s_3 : wL7s (m + 6) = some (.inl ((X.2 0), 16, .inl lic)) := by rw [hwL7s]; exact hu1_3
              have hwL7s_4 : wL7s (m + 7) = some (.inl ((X.2 0), 16, .inl lis)) := by rw [hwL7s]; exact hu1_4
              refine g_iload_n C d_M_line_48 rfl 3 rfl ?_
              refine g_bipush (v := 32) C d_M_line_49 (by decide) ?_
              refine g_icmp_ge 79 C d_M_line_51 (by decide) (fun c7s51 => ?_) (fun c7s51 => ?_)
              · exact absurd c7s51 (ge32 hiL7)
              refine g_iload_n C d_M_line_54 rfl 2 rfl ?_
              refine g_iload_n C d_M_line_55 rfl 3 rfl ?_
              refine g_ishr C d_M_line_56 ?_
              refine g_iconst (v := 1) C d_M_line_57 (by decide) ?_
              refine g_iand C d_M_line_58 ?_
              refine g_iconst (v := 1) C d_M_line_59 (by decide) ?_
              refine g_icmp_ne 73 C d_M_line_60 (by decide) (fun c7s60 => ?_) (fun c7s60 => ?_)
              · skip
                obtain ⟨x7s73, ex7s73⟩ : ∃ y : Int32, y = (nI iL7) + 1 := ⟨_, rfl⟩
                refine g_iinc (v := x7s73) C d_M_line_73 3 rfl (by rw [ex7s73]; rfl) [(3, .int x7s73), (0, .ref (ad m)), (1, .int n), (2, .int set)] (by decide) rfl ?_
                refine g_goto 48 C d_M_line_76 (by decide) ?_
                refine g_fewer (lv' := [(0, .ref (ad m)), (1, .int n), (2, .int set), (3, .int x7s73)]) [1, 2, 3, 0] rfl ?_
                refine GW_eq (u2 := u1) (lv2 := [(0, .ref (ad m)), (1, .int n), (2, .int set), (3, .int (nI (iL7 + 1)))]) ?_ ?_ (KL7 (lt_s piL7 (fun h9 => absurd h9 c7s60)))
                · first | (rw [hwL7s]; done) | (rw [hwL7s]; funext k; simp only [gup]; (repeat' split) <;> first | with_reducible rfl | (exfalso; omega) | rfl)
                · first | rfl | simp only [ex7s73, nI_1, nI_0]
              · skip
                refine g_aload_n C d_M_line_63 rfl 0 rfl ?_
                refine g_iload_n C d_M_line_64 rfl 3 rfl ?_
                refine g_callV 1 C (k_M_stays _ X ad wL7s sz m 0 cl dr wy ce ra li bi mem lef (nI iL7) hwL7s_0 hwL7s_1 hwL7s_2 hcl hmem) (gmem wd_659 rfl) (gmem wd_661 rfl) (gmem ws_12 rfl) (gmem wd_4 rfl) (gmem wd_662 rfl) ⟨by decide, by decide, by decide +kernel⟩ ⟨Nat.le_of_ble_eq_true rfl, Nat.le_of_ble_eq_true rfl⟩ hwL7s_0 rfl rfl rfl (Nat.le_of_ble_eq_true rfl) d_M_line_65 ⟨Nat.le_of_ble_eq_true rfl, Nat.le_of_ble_eq_true rfl⟩ ?_
                rintro v9 u9 s9 ⟨h9, hu9, hs9⟩; rw [h9, hu9, hs9]; clear h9 hu9 hs9 v9 u9 s9
                show GW Z _ _ _ ad wL7s sz [(0, .ref (ad m)), (1, .int n), (2, .int set), (3, .int (nI iL7))] 0 0 68 [.int (bI (staM cl dr mem lef (nI iL7)))]
                refine g_if_ne 73 C d_M_line_68 (by decide) (fun c7s68 => ?_) (fun c7s68 => ?_)
                · skip
                  obtain ⟨x7s73, ex7s73⟩ : ∃ y : Int32, y = (nI iL7) + 1 := ⟨_, rfl⟩
                  refine g_iinc (v := x7s73) C d_M_line_73 3 rfl (by rw [ex7s73]; rfl) [(3, .int x7s73), (0, .ref (ad m)), (1, .int n), (2, .int set)] (by decide) rfl ?_
                  refine g_goto 48 C d_M_line_76 (by decide) ?_
                  refine g_fewer (lv' := [(0, .ref (ad m)), (1, .int n), (2, .int set), (3, .int x7s73)]) [1, 2, 3, 0] rfl ?_
                  refine GW_eq (u2 := u1) (lv2 := [(0, .ref (ad m)), (1, .int n), (2, .int set), (3, .int (nI (iL7 + 1)))]) ?_ ?_ (KL7 (lt_s piL7 (fun _ => bI_ne0.mp c7s68)))
                  · first | (rw [hwL7s]; done) | (rw [hwL7s]; funext k; simp only [gup]; (repeat' split) <;> first | with_reducible rfl | (exfalso; omega) | rfl)
                  · first | rfl | simp only [ex7s73, nI_1, nI_0]
                · skip
                  refine g_iconst (v := 0) C d_M_line_71 (by decide) ?_
                  exact g_zret C hR hret rfl ⟨rfl, Or.inr ⟨fun h9 => absurd (h9.2.2.2.2.2 iL7 hiL7 c7s60) (by rw [bI_eq0.mp c7s68]; decide), rfl, (by first | (rw [hwL7s, hu1]; done) | (rw [hwL7s, hu1]; funext k; simp only [gup]; (repeat' split) <;> first | with_reducible rfl | (exfalso; omega) | rfl))⟩⟩ d_M_line_72
            · skip
              show GW Z _ _ _ ad (u1) _ [(0, .ref (ad m)), (1, .int n), (2, .int set), (3, .int (nI 32))] _ _ 48 []
              obtain ⟨wL7e, hwL7e⟩ : ∃ z, z = u1 := ⟨_, rfl⟩
              rw [← hwL7e]
              have hwL7e_0 : wL7e m = some (mO ad m 0 cl dr wy ce ra li bi) := by rw [hwL7e]; exact hu1_0
              have hwL7e_1 : wL7e (m + 1) = some (.inl ((X.2 0), 4, .inl mem)) := by rw [hwL7e]; exact hu1_1
              have hwL7e_2 : wL7e (m + 3) = some (.inl ((X.2 2), 48, .inl lef)) := by rw [hwL7e]; exact hu1_2
              have hwL7e_3 : wL7e (m + 6) = some (.inl ((X.2 0), 16, .inl lic)) := by rw [hwL7e]; exact hu1_3
              have hwL7e_4 : wL7e (m + 7) = some (.inl ((X.2 0), 16, .inl lis)) := by rw [hwL7e]; exact hu1_4
              refine g_iload_n C d_M_line_48 rfl 3 rfl ?_
              refine g_bipush (v := 32) C d_M_line_49 (by decide) ?_
              refine g_icmp_ge 79 C d_M_line_51 (by decide) (fun c7e51 => ?_) (fun c7e51 => ?_)
              rotate_left
              · exact absurd (by decide) c7e51
              refine g_aload_n C d_M_line_79 rfl 0 rfl ?_
              refine g_get m 12 C hwL7e_0 rfl i_M (by decide) (gmem wd_530 rfl) rfl rfl d_M_line_80 ?_
              refine g_aload_n C d_M_line_83 rfl 0 rfl ?_
              refine g_get m 11 C hwL7e_0 rfl i_M (by decide) (gmem wd_529 rfl) rfl rfl d_M_line_84 ?_
              refine g_iload_n C d_M_line_87 rfl 1 rfl ?_
              refine g_iast (m + 6) 0 C hwL7e_3 rfl (in16x hli hL16 c41) d_M_line_88 ?_
              obtain ⟨u7e2, hu7e2⟩ : ∃ z, z = gup wL7e (m + 6) (.inl ((X.2 0), 16, .inl (upd lic (Int32.toNatClampNeg li) n))) := ⟨_, rfl⟩
              rw [← hu7e2]
              have hu7e2_0 : u7e2 m = some (mO ad m 0 cl dr wy ce ra li bi) := by rw [hu7e2, gup_ne (by omega)]; exact hwL7e_0
              have hu7e2_1 : u7e2 (m + 1) = some (.inl ((X.2 0), 4, .inl mem)) := by rw [hu7e2, gup_ne (by omega)]; exact hwL7e_1
              have hu7e2_2 : u7e2 (m + 3) = some (.inl ((X.2 2), 48, .inl lef)) := by rw [hu7e2, gup_ne (by omega)]; exact hwL7e_2
              have hu7e2_3 : u7e2 (m + 6) = some (.inl ((X.2 0), 16, .inl (upd lic (Int32.toNatClampNeg li) n))) := by rw [hu7e2]; exact gup_self _ _ _
              have hu7e2_4 : u7e2 (m + 7) = some (.inl ((X.2 0), 16, .inl lis)) := by rw [hu7e2, gup_ne (by omega)]; exact hwL7e_4
              refine g_aload_n C d_M_line_89 rfl 0 rfl ?_
              refine g_get m 13 C hu7e2_0 rfl i_M (by decide) (gmem wd_531 rfl) rfl rfl d_M_line_90 ?_
              refine g_aload_n C d_M_line_93 rfl 0 rfl ?_
              refine g_get m 11 C hu7e2_0 rfl i_M (by decide) (gmem wd_529 rfl) rfl rfl d_M_line_94 ?_
              refine g_iload_n C d_M_line_97 rfl 2 rfl ?_
              refine g_iast (m + 7) 0 C hu7e2_4 rfl (in16x hli hL16 c41) d_M_line_98 ?_
              obtain ⟨u7e3, hu7e3⟩ : ∃ z, z = gup u7e2 (m + 7) (.inl ((X.2 0), 16, .inl (upd lis (Int32.toNatClampNeg li) set))) := ⟨_, rfl⟩
              rw [← hu7e3]
              have hu7e3_0 : u7e3 m = some (mO ad m 0 cl dr wy ce ra li bi) := by rw [hu7e3, gup_ne (by omega)]; exact hu7e2_0
              have hu7e3_1 : u7e3 (m + 1) = some (.inl ((X.2 0), 4, .inl mem)) := by rw [hu7e3, gup_ne (by omega)]; exact hu7e2_1
              have hu7e3_2 : u7e3 (m + 3) = some (.inl ((X.2 2), 48, .inl lef)) := by rw [hu7e3, gup_ne (by omega)]; exact hu7e2_2
              have hu7e3_3 : u7e3 (m + 6) = some (.inl ((X.2 0), 16, .inl (upd lic (Int32.toNatClampNeg li) n))) := by rw [hu7e3, gup_ne (by omega)]; exact hu7e2_3
              have hu7e3_4 : u7e3 (m + 7) = some (.inl ((X.2 0), 16, .inl (upd lis (Int32.toNatClampNeg li) set))) := by rw [hu7e3]; exact gup_self _ _ _
              refine g_aload_n C d_M_line_99 rfl 0 rfl ?_
              refine g_dup C d_M_line_100 rfl ?_
              refine g_get m 11 C hu7e3_0 rfl i_M (by decide) (gmem wd_529 rfl) rfl rfl d_M_line_101 ?_
              refine g_iconst (v := 1) C d_M_line_104 (by decide) ?_
              refine g_iadd C d_M_line_105 ?_
              refine g_topi (fun x7e106 ex7e106 => ?_)
              refine g_put m 11 C hu7e3_0 rfl i_M t_M t_M_ok n_M (by decide) (gmem wd_529 rfl) rfl rfl rfl rfl (Nat.le_of_ble_eq_true rfl) d_M_line_106 ?_
              show GW Z _ _ _ ad (gup u7e3 m (mO ad m 0 cl dr wy ce ra x7e106 bi)) _ _ _ _ _ _
              obtain ⟨u7e4, hu7e4⟩ : ∃ z, z = gup u7e3 m (mO ad m 0 cl dr wy ce ra x7e106 bi) := ⟨_, rfl⟩
              rw [← hu7e4]
              have hu7e4_0 : u7e4 m = some (mO ad m 0 cl dr wy ce ra x7e106 bi) := by rw [hu7e4]; exact gup_self _ _ _
              have hu7e4_1 : u7e4 (m + 1) = some (.inl ((X.2 0), 4, .inl mem)) := by rw [hu7e4, gup_ne (by omega)]; exact hu7e3_1
              have hu7e4_2 : u7e4 (m + 3) = some (.inl ((X.2 2), 48, .inl lef)) := by rw [hu7e4, gup_ne (by omega)]; exact hu7e3_2
              have hu7e4_3 : u7e4 (m + 6) = some (.inl ((X.2 0), 16, .inl (upd lic (Int32.toNatClampNeg li) n))) := by rw [hu7e4, gup_ne (by omega)]; exact hu7e3_3
              have hu7e4_4 : u7e4 (m + 7) = some (.inl ((X.2 0), 16, .inl (upd lis (Int32.toNatClampNeg li) set))) := by rw [hu7e4, gup_ne (by omega)]; exact hu7e3_4
              refine g_iconst (v := 1) C d_M_line_109 (by decide) ?_
              have hfin7e5 : u7e4 = gup (gup (gup u m (mO ad m 0 cl dr wy ce ra (li + 1) bi)) (m + 6) (.inl ((X.2 0), 16, .inl (upd lic li.toNatClampNeg n)))) (m + 7) (.inl ((X.2 0), 16, .inl (upd lis li.toNatClampNeg set))) := by
                funext k
                by_cases hk0 : k = m
                · rw [hk0, hu7e4_0, gup_ne (by omega), gup_ne (by omega), gup_self] <;> (try simp only [ex7e106])
                by_cases hk1 : k = m + 6
                · rw [hk1, hu7e4_3, gup_ne (by omega), gup_self] <;> (try simp only [ex7e106])
                by_cases hk2 : k = m + 7
                · rw [hk2, hu7e4_4, gup_self] <;> (try simp only [ex7e106])
                rw [hu7e4, gup_ne hk0]
                rw [hu7e3, gup_ne hk2]
                rw [hu7e2, gup_ne hk1]
                rw [hwL7e]
                rw [hu1, gup_ne hk0]
                rw [gup_ne hk2, gup_ne hk1, gup_ne hk0]
              exact g_zret C hR hret rfl ⟨rfl, Or.inl ⟨⟨c10, c18, bI_ne0.mp c28, c32, c41, piL7⟩, rfl, hfin7e5⟩⟩ d_M_line_110
          · skip
            refine g_iconst (v := 0) C d_M_line_44 (by decide) ?_
            exact g_zret C hR hret rfl ⟨rfl, Or.inr ⟨fun h9 => h9.2.2.2.2.1 c41, rfl, (by first | (rw [hu1]; done) | (rw [hu1]; funext k; simp only [gup]; (repeat' split) <;> first | with_reducible rfl | (exfalso; omega) | rfl))⟩⟩ d_M_line_45

set_option maxHeartbeats 4000000 in
set_option maxRecDepth 100000 in
theorem k_M_weighs (l : Launch) (X : gX) (ad : Nat → Nat) (u : gW) (sz : Nat) (m : Nat) (th cl dr wy ce ra li bi : Int32) (wei lic lis : Nat → Int32) (hea : Nat → Int64)  (hm : u m = some (mO ad m th cl dr wy ce ra li bi)) (h_wei : u (m + 5) = some (.inl ((X.2 0), 12, .inl wei))) (h_lic : u (m + 6) = some (.inl ((X.2 0), 16, .inl lic))) (h_lis : u (m + 7) = some (.inl ((X.2 0), 16, .inl lis))) (h_hea : u (m + 8) = some (.inl ((X.2 1), 12, .inr (.inl hea)))) (L : Nat) (hli : li = nI L) (hL16 : L ≤ 16) (hsz : ∀ k, k < L → ¬ sizS (lis k) 12 = 0) : gMet l (EE X) y_M_weighs c_M_weighs 5 (some .long) ({ frames := 1, cells := 0, slots := 0, locals := 22 }) [.ref (ad m)] ad u sz (fun v u' sz' => v = some (.long (sumL (heaV wy wei lis lic L) 12)) ∧ u' = gup u (m + 8) (.inl ((X.2 1), 12, .inr (.inl (mapL hea (heaV wy wei lis lic L) 12)))) ∧ sz' = sz) := by
  refine gMet_of "ExpenseClubsModel" rfl (by decide) (Nat.le_of_ble_eq_true rfl) (lv := [(0, .ref (ad m))]) rfl (fun Z hZl C hR hret hname => ?_)
  refine g_lconst (v := 0) C d_M_weighs_0 (by decide) ?_
  refine g_lstore_n C d_M_weighs_1 rfl [(1, .long 0), (0, .ref (ad m))] (by decide) rfl ?_
  refine g_iconst (v := 0) C d_M_weighs_2 (by decide) ?_
  refine g_istore_n C d_M_weighs_3 rfl [(3, .int 0), (1, .long 0), (0, .ref (ad m))] (by decide) rfl ?_
  by_cases h5 : wy = 5
  · skip
    refine g_fewer (lv' := [(0, .ref (ad m)), (1, .long 0), (3, .int 0)]) [2, 1, 0] rfl ?_
    refine GW_eq (u2 := gup u (m + 8) (.inl ((X.2 1), 12, .inr (.inl (mapL hea (heaV wy wei lis lic L) 0))))) (lv2 := [(0, .ref (ad m)), (1, .long (sumL (heaV wy wei lis lic L) 0)), (3, .int (nI 0))]) (by rw [mapL_0, gup_id h_hea]) rfl ?_
    refine g_loop 12 (fun iL8 => True) (fun iL8 => gup u (m + 8) (.inl ((X.2 1), 12, .inr (.inl (mapL hea (heaV wy wei lis lic L) iL8))))) (fun iL8 => [(0, .ref (ad m)), (1, .long (sumL (heaV wy wei lis lic L) iL8)), (3, .int (nI iL8))]) (fun iL8 hiL8 piL8 KL8 => ?_) (fun piL8 => ?_) 0 (by omega) trivial
    · skip
      show GW Z _ _ _ ad (gup u (m + 8) (.inl ((X.2 1), 12, .inr (.inl (mapL hea (heaV wy wei lis lic L) iL8))))) _ [(0, .ref (ad m)), (1, .long (sumL (heaV wy wei lis lic L) iL8)), (3, .int (nI iL8))] _ _ 4 []
      obtain ⟨wL8s, hwL8s⟩ : ∃ z, z = gup u (m + 8) (.inl ((X.2 1), 12, .inr (.inl (mapL hea (heaV wy wei lis lic L) iL8)))) := ⟨_, rfl⟩
      rw [← hwL8s]
      have hwL8s_0 : wL8s m = some (mO ad m th cl dr wy ce ra li bi) := by rw [hwL8s, gup_ne (by omega)]; exact hm
      have hwL8s_1 : wL8s (m + 5) = some (.inl ((X.2 0), 12, .inl wei)) := by rw [hwL8s, gup_ne (by omega)]; exact h_wei
      have hwL8s_2 : wL8s (m + 6) = some (.inl ((X.2 0), 16, .inl lic)) := by rw [hwL8s, gup_ne (by omega)]; exact h_lic
      have hwL8s_3 : wL8s (m + 7) = some (.inl ((X.2 0), 16, .inl lis)) := by rw [hwL8s, gup_ne (by omega)]; exact h_lis
      have hwL8s_4 : wL8s (m + 8) = some (.inl ((X.2 1), 12, .inr (.inl (mapL hea (heaV wy wei lis lic L) iL8)))) := by rw [hwL8s, gup_self]
      refine g_iload_n C d_M_weighs_4 rfl 2 rfl ?_
      refine g_bipush (v := 12) C d_M_weighs_5 (by decide) ?_
      refine g_icmp_ge 128 C d_M_weighs_7 (by decide) (fun c8s7 => ?_) (fun c8s7 => ?_)
      · exact absurd c8s7 (ge12 hiL8)
      refine g_aload_n C d_M_weighs_10 rfl 0 rfl ?_
      refine g_get m 14 C hwL8s_0 rfl i_M (by decide) (gmem wd_532 rfl) rfl rfl d_M_weighs_11 ?_
      refine g_iload_n C d_M_weighs_14 rfl 2 rfl ?_
      refine g_aload_n C d_M_weighs_15 rfl 0 rfl ?_
      refine g_get m 6 C hwL8s_0 rfl i_M (by decide) (gmem wd_524 rfl) rfl rfl d_M_weighs_16 ?_
      refine g_iconst (v := 5) C d_M_weighs_19 (by decide) ?_
      refine g_icmp_ne 27 C d_M_weighs_20 (by decide) (fun c8s20 => ?_) (fun c8s20 => ?_)
      · exact absurd h5 c8s20
      refine g_lconst (v := 0) C d_M_weighs_23 (by decide) ?_
      refine g_goto 34 C d_M_weighs_24 (by decide) ?_
      refine g_last (m + 8) 1 C hwL8s_4 rfl (vp_in_nI (by omega) (by decide)) d_M_weighs_34 ?_
      rw [show Int32.toNatClampNeg (nI iL8) = iL8 from nI_clamp (by omega)]
      obtain ⟨u8s1, hu8s1⟩ : ∃ z, z = gup wL8s (m + 8) (.inl ((X.2 1), 12, .inr (.inl (vp_updL (mapL hea (heaV wy wei lis lic L) iL8) iL8 0)))) := ⟨_, rfl⟩
      rw [← hu8s1]
      have hu8s1_0 : u8s1 m = some (mO ad m th cl dr wy ce ra li bi) := by rw [hu8s1, gup_ne (by omega)]; exact hwL8s_0
      have hu8s1_1 : u8s1 (m + 5) = some (.inl ((X.2 0), 12, .inl wei)) := by rw [hu8s1, gup_ne (by omega)]; exact hwL8s_1
      have hu8s1_2 : u8s1 (m + 6) = some (.inl ((X.2 0), 16, .inl lic)) := by rw [hu8s1, gup_ne (by omega)]; exact hwL8s_2
      have hu8s1_3 : u8s1 (m + 7) = some (.inl ((X.2 0), 16, .inl lis)) := by rw [hu8s1, gup_ne (by omega)]; exact hwL8s_3
      have hu8s1_4 : u8s1 (m + 8) = some (.inl ((X.2 1), 12, .inr (.inl (vp_updL (mapL hea (heaV wy wei lis lic L) iL8) iL8 0)))) := by rw [hu8s1]; exact gup_self _ _ _
      refine g_iconst (v := 0) C d_M_weighs_35 (by decide) ?_
      refine g_istore C d_M_weighs_36 [(4, .int 0), (0, .ref (ad m)), (1, .long (sumL (heaV wy wei lis lic L) iL8)), (3, .int (nI iL8))] (by decide) rfl ?_
      refine g_fewer (lv' := [(0, .ref (ad m)), (1, .long (sumL (heaV wy wei lis lic L) iL8)), (3, .int (nI iL8)), (4, .int 0)]) [1, 2, 3, 0] rfl ?_
      refine GW_eq (u2 := gup u8s1 (m + 8) (.inl ((X.2 1), 12, .inr (.inl (vp_updL (mapL hea (heaV wy wei lis lic L) iL8) iL8 (hsR lis lic iL8 0)))))) (lv2 := [(0, .ref (ad m)), (1, .long (sumL (heaV wy wei lis lic L) iL8)), (3, .int (nI iL8)), (4, .int (nI 0))]) (gup_id hu8s1_4).symm rfl ?_
      refine g_loop L (fun iL9 => True) (fun iL9 => gup u8s1 (m + 8) (.inl ((X.2 1), 12, .inr (.inl (vp_updL (mapL hea (heaV wy wei lis lic L) iL8) iL8 (hsR lis lic iL8 iL9)))))) (fun iL9 => [(0, .ref (ad m)), (1, .long (sumL (heaV wy wei lis lic L) iL8)), (3, .int (nI iL8)), (4, .int (nI iL9))]) (fun iL9 hiL9 piL9 KL9 => ?_) (fun piL9 => ?_) 0 (by omega) trivial
      · skip
        show GW Z _ _ _ ad (gup u8s1 (m + 8) (.inl ((X.2 1), 12, .inr (.inl (vp_updL (mapL hea (heaV wy wei lis lic L) iL8) iL8 (hsR lis lic iL8 iL9)))))) _ [(0, .ref (ad m)), (1, .long (sumL (heaV wy wei lis lic L) iL8)), (3, .int (nI iL8)), (4, .int (nI iL9))] _ _ 38 []
        obtain ⟨wL9s, hwL9s⟩ : ∃ z, z = gup u8s1 (m + 8) (.inl ((X.2 1), 12, .inr (.inl (vp_updL (mapL hea (heaV wy wei lis lic L) iL8) iL8 (hsR lis lic iL8 iL9))))) := ⟨_, rfl⟩
        rw [← hwL9s]
        have hwL9s_0 : wL9s m = some (mO ad m th cl dr wy ce ra li bi) := by rw [hwL9s, gup_ne (by omega)]; exact hu8s1_0
        have hwL9s_1 : wL9s (m + 5) = some (.inl ((X.2 0), 12, .inl wei)) := by rw [hwL9s, gup_ne (by omega)]; exact hu8s1_1
        have hwL9s_2 : wL9s (m + 6) = some (.inl ((X.2 0), 16, .inl lic)) := by rw [hwL9s, gup_ne (by omega)]; exact hu8s1_2
        have hwL9s_3 : wL9s (m + 7) = some (.inl ((X.2 0), 16, .inl lis)) := by rw [hwL9s, gup_ne (by omega)]; exact hu8s1_3
        have hwL9s_4 : wL9s (m + 8) = some (.inl ((X.2 1), 12, .inr (.inl (vp_updL (mapL hea (heaV wy wei lis lic L) iL8) iL8 (hsR lis lic iL8 iL9))))) := by rw [hwL9s, gup_self]
        refine g_iload C d_M_weighs_38 3 rfl ?_
        refine g_aload_n C d_M_weighs_40 rfl 0 rfl ?_
        refine g_get m 11 C hwL9s_0 rfl i_M (by decide) (gmem wd_529 rfl) rfl rfl d_M_weighs_41 ?_
        refine g_icmp_ge 113 C d_M_weighs_44 (by decide) (fun c8s9s44 => ?_) (fun c8s9s44 => ?_)
        · exact absurd c8s9s44 (geN hli (by omega) hiL9)
        refine g_aload_n C d_M_weighs_47 rfl 0 rfl ?_
        refine g_get m 6 C hwL9s_0 rfl i_M (by decide) (gmem wd_524 rfl) rfl rfl d_M_weighs_48 ?_
        refine g_iconst (v := 5) C d_M_weighs_51 (by decide) ?_
        refine g_icmp_ne 113 C d_M_weighs_52 (by decide) (fun c8s9s52 => ?_) (fun c8s9s52 => ?_)
        · exact absurd h5 c8s9s52
        refine g_aload_n C d_M_weighs_55 rfl 0 rfl ?_
        refine g_get m 14 C hwL9s_0 rfl i_M (by decide) (gmem wd_532 rfl) rfl rfl d_M_weighs_56 ?_
        refine g_iload_n C d_M_weighs_59 rfl 2 rfl ?_
        refine g_dup2_11 C d_M_weighs_60 rfl rfl ?_
        refine g_lald (m + 8) 1 C hwL9s_4 rfl (vp_in_nI (by omega) (by decide)) d_M_weighs_61 ?_
        rw [show Int32.toNatClampNeg (nI iL8) = iL8 from nI_clamp (by omega)]
        refine g_aload_n C d_M_weighs_62 rfl 0 rfl ?_
        refine g_get m 13 C hwL9s_0 rfl i_M (by decide) (gmem wd_531 rfl) rfl rfl d_M_weighs_63 ?_
        refine g_iload C d_M_weighs_66 3 rfl ?_
        refine g_iald (m + 7) 0 C hwL9s_3 rfl (vp_in_nI (by omega) (by decide)) d_M_weighs_68 ?_
        rw [show Int32.toNatClampNeg (nI iL9) = iL9 from nI_clamp (by omega)]
        refine g_iload_n C d_M_weighs_69 rfl 2 rfl ?_
        refine g_ishr C d_M_weighs_70 ?_
        refine g_iconst (v := 1) C d_M_weighs_71 (by decide) ?_
        refine g_iand C d_M_weighs_72 ?_
        refine g_iconst (v := 1) C d_M_weighs_73 (by decide) ?_
        refine g_icmp_ne 104 C d_M_weighs_74 (by decide) (fun c8s9s74 => ?_) (fun c8s9s74 => ?_)
        · skip
          refine g_lconst (v := 0) C d_M_weighs_104 (by decide) ?_
          refine g_ladd C d_M_weighs_105 ?_
          refine g_topl (fun x8s9s106 ex8s9s106 => ?_)
          refine g_last (m + 8) 1 C hwL9s_4 rfl (vp_in_nI (by omega) (by decide)) d_M_weighs_106 ?_
          rw [show Int32.toNatClampNeg (nI iL8) = iL8 from nI_clamp (by omega)]
          obtain ⟨u8s9s2, hu8s9s2⟩ : ∃ z, z = gup wL9s (m + 8) (.inl ((X.2 1), 12, .inr (.inl (vp_updL (vp_updL (mapL hea (heaV wy wei lis lic L) iL8) iL8 (hsR lis lic iL8 iL9)) iL8 x8s9s106)))) := ⟨_, rfl⟩
          rw [← hu8s9s2]
          have hu8s9s2_0 : u8s9s2 m = some (mO ad m th cl dr wy ce ra li bi) := by rw [hu8s9s2, gup_ne (by omega)]; exact hwL9s_0
          have hu8s9s2_1 : u8s9s2 (m + 5) = some (.inl ((X.2 0), 12, .inl wei)) := by rw [hu8s9s2, gup_ne (by omega)]; exact hwL9s_1
          have hu8s9s2_2 : u8s9s2 (m + 6) = some (.inl ((X.2 0), 16, .inl lic)) := by rw [hu8s9s2, gup_ne (by omega)]; exact hwL9s_2
          have hu8s9s2_3 : u8s9s2 (m + 7) = some (.inl ((X.2 0), 16, .inl lis)) := by rw [hu8s9s2, gup_ne (by omega)]; exact hwL9s_3
          have hu8s9s2_4 : u8s9s2 (m + 8) = some (.inl ((X.2 1), 12, .inr (.inl (vp_updL (vp_updL (mapL hea (heaV wy wei lis lic L) iL8) iL8 (hsR lis lic iL8 iL9)) iL8 x8s9s106)))) := by rw [hu8s9s2]; exact gup_self _ _ _
          obtain ⟨x8s9s107, ex8s9s107⟩ : ∃ y : Int32, y = (nI iL9) + 1 := ⟨_, rfl⟩
          refine g_iinc (v := x8s9s107) C d_M_weighs_107 3 rfl (by rw [ex8s9s107]; rfl) [(4, .int x8s9s107), (0, .ref (ad m)), (1, .long (sumL (heaV wy wei lis lic L) iL8)), (3, .int (nI iL8))] (by decide) rfl ?_
          refine g_goto 38 C d_M_weighs_110 (by decide) ?_
          refine g_fewer (lv' := [(0, .ref (ad m)), (1, .long (sumL (heaV wy wei lis lic L) iL8)), (3, .int (nI iL8)), (4, .int x8s9s107)]) [1, 2, 3, 0] rfl ?_
          refine GW_eq (u2 := gup u8s1 (m + 8) (.inl ((X.2 1), 12, .inr (.inl (vp_updL (mapL hea (heaV wy wei lis lic L) iL8) iL8 (hsR lis lic iL8 (iL9 + 1))))))) (lv2 := [(0, .ref (ad m)), (1, .long (sumL (heaV wy wei lis lic L) iL8)), (3, .int (nI iL8)), (4, .int (nI (iL9 + 1)))]) ?_ ?_ (KL9 trivial)
          · first | (rw [hu8s9s2, hwL9s]; done) | (rw [hu8s9s2, hwL9s]; simp only [ex8s9s106, ex8s9s107, pk_uLs, updL_updL]; done) | (rw [hu8s9s2, hwL9s]; simp only [ex8s9s106, ex8s9s107, pk_uLs, updL_updL]; simp only [hsR, if_neg c8s9s74]; done) | (rw [hu8s9s2, hwL9s]; simp only [ex8s9s106, ex8s9s107, pk_uLs, updL_updL]; simp only [hsR, if_neg c8s9s74]; funext k; simp only [gup]; (repeat' split) <;> first | with_reducible rfl | (exfalso; omega) | rfl)
          · first | rfl | simp only [ex8s9s106, ex8s9s107, nI_1, nI_0]
        · skip
          refine g_sipush (v := 27720) C d_M_weighs_77 (by decide) ?_
          refine g_aload_n C d_M_weighs_80 rfl 0 rfl ?_
          refine g_get m 13 C hwL9s_0 rfl i_M (by decide) (gmem wd_531 rfl) rfl rfl d_M_weighs_81 ?_
          refine g_iload C d_M_weighs_84 3 rfl ?_
          refine g_iald (m + 7) 0 C hwL9s_3 rfl (vp_in_nI (by omega) (by decide)) d_M_weighs_86 ?_
          rw [show Int32.toNatClampNeg (nI iL9) = iL9 from nI_clamp (by omega)]
          refine g_callS 1 C (k_M_size _ X ad wL9s sz (lis iL9)) (gmem wd_683 rfl) (gmem wd_684 rfl) (gmem wd_4 rfl) (gmem wd_685 rfl) ⟨by decide, by decide, by decide +kernel⟩ ⟨Nat.le_of_ble_eq_true rfl, Nat.le_of_ble_eq_true rfl⟩ rfl rfl (Nat.le_of_ble_eq_true rfl) d_M_weighs_87 ⟨Nat.le_of_ble_eq_true rfl, Nat.le_of_ble_eq_true rfl⟩ ?_
          rintro v9 u9 s9 ⟨h9, hu9, hs9⟩; rw [h9, hu9, hs9]; clear h9 hu9 hs9 v9 u9 s9
          show GW Z _ _ _ ad wL9s sz [(0, .ref (ad m)), (1, .long (sumL (heaV wy wei lis lic L) iL8)), (3, .int (nI iL8)), (4, .int (nI iL9))] 0 0 90 [.int (sizS (lis iL9) 12), .int 27720, .long ((vp_updL (mapL hea (heaV wy wei lis lic L) iL8) iL8 (hsR lis lic iL8 iL9)) iL8), .int (nI iL8), .ref (ad (m + 8))]
          refine g_idiv C d_M_weighs_90 (hsz iL9 hiL9) ?_
          refine g_i2l C d_M_weighs_91 ?_
          refine g_aload_n C d_M_weighs_92 rfl 0 rfl ?_
          refine g_get m 12 C hwL9s_0 rfl i_M (by decide) (gmem wd_530 rfl) rfl rfl d_M_weighs_93 ?_
          refine g_iload C d_M_weighs_96 3 rfl ?_
          refine g_iald (m + 6) 0 C hwL9s_2 rfl (vp_in_nI (by omega) (by decide)) d_M_weighs_98 ?_
          rw [show Int32.toNatClampNeg (nI iL9) = iL9 from nI_clamp (by omega)]
          refine g_i2l C d_M_weighs_99 ?_
          refine g_lmul C d_M_weighs_100 ?_
          refine g_goto 105 C d_M_weighs_101 (by decide) ?_
          refine g_ladd C d_M_weighs_105 ?_
          refine g_topl (fun x8s9s106 ex8s9s106 => ?_)
          refine g_last (m + 8) 1 C hwL9s_4 rfl (vp_in_nI (by omega) (by decide)) d_M_weighs_106 ?_
          rw [show Int32.toNatClampNeg (nI iL8) = iL8 from nI_clamp (by omega)]
          obtain ⟨u8s9s3, hu8s9s3⟩ : ∃ z, z = gup wL9s (m + 8) (.inl ((X.2 1), 12, .inr (.inl (vp_updL (vp_updL (mapL hea (heaV wy wei lis lic L) iL8) iL8 (hsR lis lic iL8 iL9)) iL8 x8s9s106)))) := ⟨_, rfl⟩
          rw [← hu8s9s3]
          have hu8s9s3_0 : u8s9s3 m = some (mO ad m th cl dr wy ce ra li bi) := by rw [hu8s9s3, gup_ne (by omega)]; exact hwL9s_0
          have hu8s9s3_1 : u8s9s3 (m + 5) = some (.inl ((X.2 0), 12, .inl wei)) := by rw [hu8s9s3, gup_ne (by omega)]; exact hwL9s_1
          have hu8s9s3_2 : u8s9s3 (m + 6) = some (.inl ((X.2 0), 16, .inl lic)) := by rw [hu8s9s3, gup_ne (by omega)]; exact hwL9s_2
          have hu8s9s3_3 : u8s9s3 (m + 7) = some (.inl ((X.2 0), 16, .inl lis)) := by rw [hu8s9s3, gup_ne (by omega)]; exact hwL9s_3
          have hu8s9s3_4 : u8s9s3 (m + 8) = some (.inl ((X.2 1), 12, .inr (.inl (vp_updL (vp_updL (mapL hea (heaV wy wei lis lic L) iL8) iL8 (hsR lis lic iL8 iL9)) iL8 x8s9s106)))) := by rw [hu8s9s3]; exact gup_self _ _ _
          obtain ⟨x8s9s107, ex8s9s107⟩ : ∃ y : Int32, y = (nI iL9) + 1 := ⟨_, rfl⟩
          refine g_iinc (v := x8s9s107) C d_M_weighs_107 3 rfl (by rw [ex8s9s107]; rfl) [(4, .int x8s9s107), (0, .ref (ad m)), (1, .long (sumL (heaV wy wei lis lic L) iL8)), (3, .int (nI iL8))] (by decide) rfl ?_
          refine g_goto 38 C d_M_weighs_110 (by decide) ?_
          refine g_fewer (lv' := [(0, .ref (ad m)), (1, .long (sumL (heaV wy wei lis lic L) iL8)), (3, .int (nI iL8)), (4, .int x8s9s107)]) [1, 2, 3, 0] rfl ?_
          refine GW_eq (u2 := gup u8s1 (m + 8) (.inl ((X.2 1), 12, .inr (.inl (vp_updL (mapL hea (heaV wy wei lis lic L) iL8) iL8 (hsR lis lic iL8 (iL9 + 1))))))) (lv2 := [(0, .ref (ad m)), (1, .long (sumL (heaV wy wei lis lic L) iL8)), (3, .int (nI iL8)), (4, .int (nI (iL9 + 1)))]) ?_ ?_ (KL9 trivial)
          · first | (rw [hu8s9s3, hwL9s]; done) | (rw [hu8s9s3, hwL9s]; simp only [ex8s9s106, ex8s9s107, pk_uLs, updL_updL]; done) | (rw [hu8s9s3, hwL9s]; simp only [ex8s9s106, ex8s9s107, pk_uLs, updL_updL]; simp only [hsR, if_pos c8s9s74]; done) | (rw [hu8s9s3, hwL9s]; simp only [ex8s9s106, ex8s9s107, pk_uLs, updL_updL]; simp only [hsR, if_pos c8s9s74]; funext k; simp only [gup]; (repeat' split) <;> first | with_reducible rfl | (exfalso; omega) | rfl)
          · first | rfl | simp only [ex8s9s106, ex8s9s107, nI_1, nI_0]
      · skip
        show GW Z _ _ _ ad (gup u8s1 (m + 8) (.inl ((X.2 1), 12, .inr (.inl (vp_updL (mapL hea (heaV wy wei lis lic L) iL8) iL8 (hsR lis lic iL8 L)))))) _ [(0, .ref (ad m)), (1, .long (sumL (heaV wy wei lis lic L) iL8)), (3, .int (nI iL8)), (4, .int (nI L))] _ _ 38 []
        obtain ⟨wL9e, hwL9e⟩ : ∃ z, z = gup u8s1 (m + 8) (.inl ((X.2 1), 12, .inr (.inl (vp_updL (mapL hea (heaV wy wei lis lic L) iL8) iL8 (hsR lis lic iL8 L))))) := ⟨_, rfl⟩
        rw [← hwL9e]
        have hwL9e_0 : wL9e m = some (mO ad m th cl dr wy ce ra li bi) := by rw [hwL9e, gup_ne (by omega)]; exact hu8s1_0
        have hwL9e_1 : wL9e (m + 5) = some (.inl ((X.2 0), 12, .inl wei)) := by rw [hwL9e, gup_ne (by omega)]; exact hu8s1_1
        have hwL9e_2 : wL9e (m + 6) = some (.inl ((X.2 0), 16, .inl lic)) := by rw [hwL9e, gup_ne (by omega)]; exact hu8s1_2
        have hwL9e_3 : wL9e (m + 7) = some (.inl ((X.2 0), 16, .inl lis)) := by rw [hwL9e, gup_ne (by omega)]; exact hu8s1_3
        have hwL9e_4 : wL9e (m + 8) = some (.inl ((X.2 1), 12, .inr (.inl (vp_updL (mapL hea (heaV wy wei lis lic L) iL8) iL8 (hsR lis lic iL8 L))))) := by rw [hwL9e, gup_self]
        refine g_iload C d_M_weighs_38 3 rfl ?_
        refine g_aload_n C d_M_weighs_40 rfl 0 rfl ?_
        refine g_get m 11 C hwL9e_0 rfl i_M (by decide) (gmem wd_529 rfl) rfl rfl d_M_weighs_41 ?_
        refine g_icmp_ge 113 C d_M_weighs_44 (by decide) (fun c8s9e44 => ?_) (fun c8s9e44 => ?_)
        rotate_left
        · exact absurd (leN hli) c8s9e44
        refine g_lload_n C d_M_weighs_113 rfl 1 rfl ?_
        refine g_aload_n C d_M_weighs_114 rfl 0 rfl ?_
        refine g_get m 14 C hwL9e_0 rfl i_M (by decide) (gmem wd_532 rfl) rfl rfl d_M_weighs_115 ?_
        refine g_iload_n C d_M_weighs_118 rfl 2 rfl ?_
        refine g_lald (m + 8) 1 C hwL9e_4 rfl (vp_in_nI (by omega) (by decide)) d_M_weighs_119 ?_
        rw [show Int32.toNatClampNeg (nI iL8) = iL8 from nI_clamp (by omega)]
        refine g_ladd C d_M_weighs_120 ?_
        refine g_topl (fun x8s9e121 ex8s9e121 => ?_)
        refine g_lstore_n C d_M_weighs_121 rfl [(1, .long x8s9e121), (0, .ref (ad m)), (3, .int (nI iL8)), (4, .int (nI L))] (by decide) rfl ?_
        obtain ⟨x8s9e122, ex8s9e122⟩ : ∃ y : Int32, y = (nI iL8) + 1 := ⟨_, rfl⟩
        refine g_iinc (v := x8s9e122) C d_M_weighs_122 2 rfl (by rw [ex8s9e122]; rfl) [(3, .int x8s9e122), (1, .long x8s9e121), (0, .ref (ad m)), (4, .int (nI L))] (by decide) rfl ?_
        refine g_goto 4 C d_M_weighs_125 (by decide) ?_
        refine g_fewer (lv' := [(0, .ref (ad m)), (1, .long x8s9e121), (3, .int x8s9e122)]) [2, 1, 0] rfl ?_
        refine GW_eq (u2 := gup u (m + 8) (.inl ((X.2 1), 12, .inr (.inl (mapL hea (heaV wy wei lis lic L) (iL8 + 1)))))) (lv2 := [(0, .ref (ad m)), (1, .long (sumL (heaV wy wei lis lic L) (iL8 + 1))), (3, .int (nI (iL8 + 1)))]) ?_ ?_ (KL8 trivial)
        · first | (rw [hwL9e, hu8s1, hwL8s]; done) | (rw [hwL9e, hu8s1, hwL8s]; rw [mapL_s (f := hea) (g := (heaV wy wei lis lic L)) (if_pos h5).symm]; done) | (rw [hwL9e, hu8s1, hwL8s]; rw [mapL_s (f := hea) (g := (heaV wy wei lis lic L)) (if_pos h5).symm]; funext k; simp only [gup]; (repeat' split) <;> first | with_reducible rfl | (exfalso; omega) | rfl)
        · simp only [ex8s9e121, ex8s9e122, nI_1, pk_uLs, sumL]; rw [show heaV wy wei lis lic L iL8 = hsR lis lic iL8 L from if_pos h5]
    · skip
      show GW Z _ _ _ ad (gup u (m + 8) (.inl ((X.2 1), 12, .inr (.inl (mapL hea (heaV wy wei lis lic L) 12))))) _ [(0, .ref (ad m)), (1, .long (sumL (heaV wy wei lis lic L) 12)), (3, .int (nI 12))] _ _ 4 []
      obtain ⟨wL8e, hwL8e⟩ : ∃ z, z = gup u (m + 8) (.inl ((X.2 1), 12, .inr (.inl (mapL hea (heaV wy wei lis lic L) 12)))) := ⟨_, rfl⟩
      rw [← hwL8e]
      have hwL8e_0 : wL8e m = some (mO ad m th cl dr wy ce ra li bi) := by rw [hwL8e, gup_ne (by omega)]; exact hm
      have hwL8e_1 : wL8e (m + 5) = some (.inl ((X.2 0), 12, .inl wei)) := by rw [hwL8e, gup_ne (by omega)]; exact h_wei
      have hwL8e_2 : wL8e (m + 6) = some (.inl ((X.2 0), 16, .inl lic)) := by rw [hwL8e, gup_ne (by omega)]; exact h_lic
      have hwL8e_3 : wL8e (m + 7) = some (.inl ((X.2 0), 16, .inl lis)) := by rw [hwL8e, gup_ne (by omega)]; exact h_lis
      have hwL8e_4 : wL8e (m + 8) = some (.inl ((X.2 1), 12, .inr (.inl (mapL hea (heaV wy wei lis lic L) 12)))) := by rw [hwL8e, gup_self]
      refine g_iload_n C d_M_weighs_4 rfl 2 rfl ?_
      refine g_bipush (v := 12) C d_M_weighs_5 (by decide) ?_
      refine g_icmp_ge 128 C d_M_weighs_7 (by decide) (fun c8e7 => ?_) (fun c8e7 => ?_)
      rotate_left
      · exact absurd (by decide) c8e7
      refine g_lload_n C d_M_weighs_128 rfl 1 rfl ?_
      exact g_lret C hR hret ⟨rfl, (by first | (rw [hwL8e]; done) | (rw [hwL8e]; funext k; simp only [gup]; (repeat' split) <;> first | with_reducible rfl | (exfalso; omega) | rfl)), rfl⟩ d_M_weighs_129
  · skip
    refine g_fewer (lv' := [(0, .ref (ad m)), (1, .long 0), (3, .int 0)]) [2, 1, 0] rfl ?_
    refine GW_eq (u2 := gup u (m + 8) (.inl ((X.2 1), 12, .inr (.inl (mapL hea (heaV wy wei lis lic L) 0))))) (lv2 := [(0, .ref (ad m)), (1, .long (sumL (heaV wy wei lis lic L) 0)), (3, .int (nI 0))]) (by rw [mapL_0, gup_id h_hea]) rfl ?_
    refine g_loop 12 (fun iL10 => True) (fun iL10 => gup u (m + 8) (.inl ((X.2 1), 12, .inr (.inl (mapL hea (heaV wy wei lis lic L) iL10))))) (fun iL10 => [(0, .ref (ad m)), (1, .long (sumL (heaV wy wei lis lic L) iL10)), (3, .int (nI iL10))]) (fun iL10 hiL10 piL10 KL10 => ?_) (fun piL10 => ?_) 0 (by omega) trivial
    · skip
      show GW Z _ _ _ ad (gup u (m + 8) (.inl ((X.2 1), 12, .inr (.inl (mapL hea (heaV wy wei lis lic L) iL10))))) _ [(0, .ref (ad m)), (1, .long (sumL (heaV wy wei lis lic L) iL10)), (3, .int (nI iL10))] _ _ 4 []
      obtain ⟨wL10s, hwL10s⟩ : ∃ z, z = gup u (m + 8) (.inl ((X.2 1), 12, .inr (.inl (mapL hea (heaV wy wei lis lic L) iL10)))) := ⟨_, rfl⟩
      rw [← hwL10s]
      have hwL10s_0 : wL10s m = some (mO ad m th cl dr wy ce ra li bi) := by rw [hwL10s, gup_ne (by omega)]; exact hm
      have hwL10s_1 : wL10s (m + 5) = some (.inl ((X.2 0), 12, .inl wei)) := by rw [hwL10s, gup_ne (by omega)]; exact h_wei
      have hwL10s_2 : wL10s (m + 6) = some (.inl ((X.2 0), 16, .inl lic)) := by rw [hwL10s, gup_ne (by omega)]; exact h_lic
      have hwL10s_3 : wL10s (m + 7) = some (.inl ((X.2 0), 16, .inl lis)) := by rw [hwL10s, gup_ne (by omega)]; exact h_lis
      have hwL10s_4 : wL10s (m + 8) = some (.inl ((X.2 1), 12, .inr (.inl (mapL hea (heaV wy wei lis lic L) iL10)))) := by rw [hwL10s, gup_self]
      refine g_iload_n C d_M_weighs_4 rfl 2 rfl ?_
      refine g_bipush (v := 12) C d_M_weighs_5 (by decide) ?_
      refine g_icmp_ge 128 C d_M_weighs_7 (by decide) (fun c10s7 => ?_) (fun c10s7 => ?_)
      · exact absurd c10s7 (ge12 hiL10)
      refine g_aload_n C d_M_weighs_10 rfl 0 rfl ?_
      refine g_get m 14 C hwL10s_0 rfl i_M (by decide) (gmem wd_532 rfl) rfl rfl d_M_weighs_11 ?_
      refine g_iload_n C d_M_weighs_14 rfl 2 rfl ?_
      refine g_aload_n C d_M_weighs_15 rfl 0 rfl ?_
      refine g_get m 6 C hwL10s_0 rfl i_M (by decide) (gmem wd_524 rfl) rfl rfl d_M_weighs_16 ?_
      refine g_iconst (v := 5) C d_M_weighs_19 (by decide) ?_
      refine g_icmp_ne 27 C d_M_weighs_20 (by decide) (fun c10s20 => ?_) (fun c10s20 => ?_)
      rotate_left
      · exact absurd c10s20 h5
      refine g_aload_n C d_M_weighs_27 rfl 0 rfl ?_
      refine g_get m 10 C hwL10s_0 rfl i_M (by decide) (gmem wd_528 rfl) rfl rfl d_M_weighs_28 ?_
      refine g_iload_n C d_M_weighs_31 rfl 2 rfl ?_
      refine g_iald (m + 5) 0 C hwL10s_1 rfl (vp_in_nI (by omega) (by decide)) d_M_weighs_32 ?_
      rw [show Int32.toNatClampNeg (nI iL10) = iL10 from nI_clamp (by omega)]
      refine g_i2l C d_M_weighs_33 ?_
      refine g_topl (fun x10s34 ex10s34 => ?_)
      refine g_last (m + 8) 1 C hwL10s_4 rfl (vp_in_nI (by omega) (by decide)) d_M_weighs_34 ?_
      rw [show Int32.toNatClampNeg (nI iL10) = iL10 from nI_clamp (by omega)]
      obtain ⟨u10s4, hu10s4⟩ : ∃ z, z = gup wL10s (m + 8) (.inl ((X.2 1), 12, .inr (.inl (vp_updL (mapL hea (heaV wy wei lis lic L) iL10) iL10 x10s34)))) := ⟨_, rfl⟩
      rw [← hu10s4]
      have hu10s4_0 : u10s4 m = some (mO ad m th cl dr wy ce ra li bi) := by rw [hu10s4, gup_ne (by omega)]; exact hwL10s_0
      have hu10s4_1 : u10s4 (m + 5) = some (.inl ((X.2 0), 12, .inl wei)) := by rw [hu10s4, gup_ne (by omega)]; exact hwL10s_1
      have hu10s4_2 : u10s4 (m + 6) = some (.inl ((X.2 0), 16, .inl lic)) := by rw [hu10s4, gup_ne (by omega)]; exact hwL10s_2
      have hu10s4_3 : u10s4 (m + 7) = some (.inl ((X.2 0), 16, .inl lis)) := by rw [hu10s4, gup_ne (by omega)]; exact hwL10s_3
      have hu10s4_4 : u10s4 (m + 8) = some (.inl ((X.2 1), 12, .inr (.inl (vp_updL (mapL hea (heaV wy wei lis lic L) iL10) iL10 x10s34)))) := by rw [hu10s4]; exact gup_self _ _ _
      refine g_iconst (v := 0) C d_M_weighs_35 (by decide) ?_
      refine g_istore C d_M_weighs_36 [(4, .int 0), (0, .ref (ad m)), (1, .long (sumL (heaV wy wei lis lic L) iL10)), (3, .int (nI iL10))] (by decide) rfl ?_
      refine g_iload C d_M_weighs_38 0 rfl ?_
      refine g_aload_n C d_M_weighs_40 rfl 1 rfl ?_
      refine g_get m 11 C hu10s4_0 rfl i_M (by decide) (gmem wd_529 rfl) rfl rfl d_M_weighs_41 ?_
      refine g_icmp_ge 113 C d_M_weighs_44 (by decide) (fun c10s44 => ?_) (fun c10s44 => ?_)
      · skip
        refine g_lload_n C d_M_weighs_113 rfl 2 rfl ?_
        refine g_aload_n C d_M_weighs_114 rfl 1 rfl ?_
        refine g_get m 14 C hu10s4_0 rfl i_M (by decide) (gmem wd_532 rfl) rfl rfl d_M_weighs_115 ?_
        refine g_iload_n C d_M_weighs_118 rfl 3 rfl ?_
        refine g_lald (m + 8) 1 C hu10s4_4 rfl (vp_in_nI (by omega) (by decide)) d_M_weighs_119 ?_
        rw [show Int32.toNatClampNeg (nI iL10) = iL10 from nI_clamp (by omega)]
        refine g_ladd C d_M_weighs_120 ?_
        refine g_topl (fun x10s121 ex10s121 => ?_)
        refine g_lstore_n C d_M_weighs_121 rfl [(1, .long x10s121), (4, .int 0), (0, .ref (ad m)), (3, .int (nI iL10))] (by decide) rfl ?_
        obtain ⟨x10s122, ex10s122⟩ : ∃ y : Int32, y = (nI iL10) + 1 := ⟨_, rfl⟩
        refine g_iinc (v := x10s122) C d_M_weighs_122 3 rfl (by rw [ex10s122]; rfl) [(3, .int x10s122), (1, .long x10s121), (4, .int 0), (0, .ref (ad m))] (by decide) rfl ?_
        refine g_goto 4 C d_M_weighs_125 (by decide) ?_
        refine g_fewer (lv' := [(0, .ref (ad m)), (1, .long x10s121), (3, .int x10s122)]) [3, 1, 0] rfl ?_
        refine GW_eq (u2 := gup u (m + 8) (.inl ((X.2 1), 12, .inr (.inl (mapL hea (heaV wy wei lis lic L) (iL10 + 1)))))) (lv2 := [(0, .ref (ad m)), (1, .long (sumL (heaV wy wei lis lic L) (iL10 + 1))), (3, .int (nI (iL10 + 1)))]) ?_ ?_ (KL10 trivial)
        · first | (rw [hu10s4, hwL10s]; done) | (rw [hu10s4, hwL10s]; simp only [ex10s34, ex10s121, ex10s122]; done) | (rw [hu10s4, hwL10s]; simp only [ex10s34, ex10s121, ex10s122]; rw [mapL_s (f := hea) (g := (heaV wy wei lis lic L)) (x := (wei iL10).toInt64) (if_neg h5).symm]; done) | (rw [hu10s4, hwL10s]; simp only [ex10s34, ex10s121, ex10s122]; rw [mapL_s (f := hea) (g := (heaV wy wei lis lic L)) (x := (wei iL10).toInt64) (if_neg h5).symm]; funext k; simp only [gup]; (repeat' split) <;> first | with_reducible rfl | (exfalso; omega) | rfl)
        · simp only [ex10s34, ex10s121, ex10s122, nI_1, pk_uLs, sumL]; rw [show heaV wy wei lis lic L iL10 = (wei iL10).toInt64 from if_neg h5]
      · skip
        refine g_aload_n C d_M_weighs_47 rfl 1 rfl ?_
        refine g_get m 6 C hu10s4_0 rfl i_M (by decide) (gmem wd_524 rfl) rfl rfl d_M_weighs_48 ?_
        refine g_iconst (v := 5) C d_M_weighs_51 (by decide) ?_
        refine g_icmp_ne 113 C d_M_weighs_52 (by decide) (fun c10s52 => ?_) (fun c10s52 => ?_)
        rotate_left
        · exact absurd c10s52 h5
        refine g_lload_n C d_M_weighs_113 rfl 2 rfl ?_
        refine g_aload_n C d_M_weighs_114 rfl 1 rfl ?_
        refine g_get m 14 C hu10s4_0 rfl i_M (by decide) (gmem wd_532 rfl) rfl rfl d_M_weighs_115 ?_
        refine g_iload_n C d_M_weighs_118 rfl 3 rfl ?_
        refine g_lald (m + 8) 1 C hu10s4_4 rfl (vp_in_nI (by omega) (by decide)) d_M_weighs_119 ?_
        rw [show Int32.toNatClampNeg (nI iL10) = iL10 from nI_clamp (by omega)]
        refine g_ladd C d_M_weighs_120 ?_
        refine g_topl (fun x10s121 ex10s121 => ?_)
        refine g_lstore_n C d_M_weighs_121 rfl [(1, .long x10s121), (4, .int 0), (0, .ref (ad m)), (3, .int (nI iL10))] (by decide) rfl ?_
        obtain ⟨x10s122, ex10s122⟩ : ∃ y : Int32, y = (nI iL10) + 1 := ⟨_, rfl⟩
        refine g_iinc (v := x10s122) C d_M_weighs_122 3 rfl (by rw [ex10s122]; rfl) [(3, .int x10s122), (1, .long x10s121), (4, .int 0), (0, .ref (ad m))] (by decide) rfl ?_
        refine g_goto 4 C d_M_weighs_125 (by decide) ?_
        refine g_fewer (lv' := [(0, .ref (ad m)), (1, .long x10s121), (3, .int x10s122)]) [3, 1, 0] rfl ?_
        refine GW_eq (u2 := gup u (m + 8) (.inl ((X.2 1), 12, .inr (.inl (mapL hea (heaV wy wei lis lic L) (iL10 + 1)))))) (lv2 := [(0, .ref (ad m)), (1, .long (sumL (heaV wy wei lis lic L) (iL10 + 1))), (3, .int (nI (iL10 + 1)))]) ?_ ?_ (KL10 trivial)
        · first | (rw [hu10s4, hwL10s]; done) | (rw [hu10s4, hwL10s]; simp only [ex10s34, ex10s121, ex10s122]; done) | (rw [hu10s4, hwL10s]; simp only [ex10s34, ex10s121, ex10s122]; rw [mapL_s (f := hea) (g := (heaV wy wei lis lic L)) (x := (wei iL10).toInt64) (if_neg h5).symm]; done) | (rw [hu10s4, hwL10s]; simp only [ex10s34, ex10s121, ex10s122]; rw [mapL_s (f := hea) (g := (heaV wy wei lis lic L)) (x := (wei iL10).toInt64) (if_neg h5).symm]; funext k; simp only [gup]; (repeat' split) <;> first | with_reducible rfl | (exfalso; omega) | rfl)
        · simp only [ex10s34, ex10s121, ex10s122, nI_1, pk_uLs, sumL]; rw [show heaV wy wei lis lic L iL10 = (wei iL10).toInt64 from if_neg h5]
    · skip
      show GW Z _ _ _ ad (gup u (m + 8) (.inl ((X.2 1), 12, .inr (.inl (mapL hea (heaV wy wei lis lic L) 12))))) _ [(0, .ref (ad m)), (1, .long (sumL (heaV wy wei lis lic L) 12)), (3, .int (nI 12))] _ _ 4 []
      obtain ⟨wL10e, hwL10e⟩ : ∃ z, z = gup u (m + 8) (.inl ((X.2 1), 12, .inr (.inl (mapL hea (heaV wy wei lis lic L) 12)))) := ⟨_, rfl⟩
      rw [← hwL10e]
      have hwL10e_0 : wL10e m = some (mO ad m th cl dr wy ce ra li bi) := by rw [hwL10e, gup_ne (by omega)]; exact hm
      have hwL10e_1 : wL10e (m + 5) = some (.inl ((X.2 0), 12, .inl wei)) := by rw [hwL10e, gup_ne (by omega)]; exact h_wei
      have hwL10e_2 : wL10e (m + 6) = some (.inl ((X.2 0), 16, .inl lic)) := by rw [hwL10e, gup_ne (by omega)]; exact h_lic
      have hwL10e_3 : wL10e (m + 7) = some (.inl ((X.2 0), 16, .inl lis)) := by rw [hwL10e, gup_ne (by omega)]; exact h_lis
      have hwL10e_4 : wL10e (m + 8) = some (.inl ((X.2 1), 12, .inr (.inl (mapL hea (heaV wy wei lis lic L) 12)))) := by rw [hwL10e, gup_self]
      refine g_iload_n C d_M_weighs_4 rfl 2 rfl ?_
      refine g_bipush (v := 12) C d_M_weighs_5 (by decide) ?_
      refine g_icmp_ge 128 C d_M_weighs_7 (by decide) (fun c10e7 => ?_) (fun c10e7 => ?_)
      rotate_left
      · exact absurd (by decide) c10e7
      refine g_lload_n C d_M_weighs_128 rfl 1 rfl ?_
      exact g_lret C hR hret ⟨rfl, (by first | (rw [hwL10e]; done) | (rw [hwL10e]; funext k; simp only [gup]; (repeat' split) <;> first | with_reducible rfl | (exfalso; omega) | rfl)), rfl⟩ d_M_weighs_129

set_option maxHeartbeats 4000000 in
set_option maxRecDepth 100000 in
theorem k_M_fits (l : Launch) (X : gX) (ad : Nat → Nat) (u : gW) (sz : Nat) (m : Nat) (th cl dr wy ce ra li bi : Int32) (lic : Nat → Int32) (all : Int64) (hm : u m = some (mO ad m th cl dr wy ce ra li bi)) (h_lic : u (m + 6) = some (.inl ((X.2 0), 16, .inl lic))) (L : Nat) (hli : li = nI L) (hL16 : L ≤ 16) : gMet l (EE X) y_M_fits c_M_fits 6 (some .boolean) ({ frames := 0, cells := 0, slots := 0, locals := 0 }) [.ref (ad m), .long all] ad u sz (fun v u' sz' => v = some (.int (bI (fitM wy ce all (linS lic L)))) ∧ u' = u ∧ sz' = sz) := by
  refine gMet_of "ExpenseClubsModel" rfl (by decide) (Nat.le_of_ble_eq_true rfl) (lv := [(0, .ref (ad m)), (1, .long all)]) rfl (fun Z hZl C hR hret hname => ?_)
  refine g_lconst (v := 0) C d_M_fits_0 (by decide) ?_
  refine g_lstore_n C d_M_fits_1 rfl [(3, .long 0), (0, .ref (ad m)), (1, .long all)] (by decide) rfl ?_
  refine g_iconst (v := 0) C d_M_fits_2 (by decide) ?_
  refine g_istore C d_M_fits_3 [(5, .int 0), (3, .long 0), (0, .ref (ad m)), (1, .long all)] (by decide) rfl ?_
  refine g_fewer (lv' := [(0, .ref (ad m)), (1, .long all), (3, .long 0), (5, .int 0)]) [2, 3, 1, 0] rfl ?_
  refine GW_eq (u2 := u) (lv2 := [(0, .ref (ad m)), (1, .long all), (3, .long (linS lic 0)), (5, .int (nI 0))]) rfl rfl ?_
  refine g_loop L (fun iL11 => True) (fun iL11 => u) (fun iL11 => [(0, .ref (ad m)), (1, .long all), (3, .long (linS lic iL11)), (5, .int (nI iL11))]) (fun iL11 hiL11 piL11 KL11 => ?_) (fun piL11 => ?_) 0 (by omega) trivial
  · skip
    show GW Z _ _ _ ad (u) _ [(0, .ref (ad m)), (1, .long all), (3, .long (linS lic iL11)), (5, .int (nI iL11))] _ _ 5 []
    obtain ⟨wL11s, hwL11s⟩ : ∃ z, z = u := ⟨_, rfl⟩
    rw [← hwL11s]
    have hwL11s_0 : wL11s m = some (mO ad m th cl dr wy ce ra li bi) := by rw [hwL11s]; exact hm
    have hwL11s_1 : wL11s (m + 6) = some (.inl ((X.2 0), 16, .inl lic)) := by rw [hwL11s]; exact h_lic
    refine g_iload C d_M_fits_5 3 rfl ?_
    refine g_aload_n C d_M_fits_7 rfl 0 rfl ?_
    refine g_get m 11 C hwL11s_0 rfl i_M (by decide) (gmem wd_529 rfl) rfl rfl d_M_fits_8 ?_
    refine g_icmp_ge 31 C d_M_fits_11 (by decide) (fun c11s11 => ?_) (fun c11s11 => ?_)
    · exact absurd c11s11 (geN hli (by omega) hiL11)
    refine g_lload_n C d_M_fits_14 rfl 2 rfl ?_
    refine g_aload_n C d_M_fits_15 rfl 0 rfl ?_
    refine g_get m 12 C hwL11s_0 rfl i_M (by decide) (gmem wd_530 rfl) rfl rfl d_M_fits_16 ?_
    refine g_iload C d_M_fits_19 3 rfl ?_
    refine g_iald (m + 6) 0 C hwL11s_1 rfl (vp_in_nI (by omega) (by decide)) d_M_fits_21 ?_
    rw [show Int32.toNatClampNeg (nI iL11) = iL11 from nI_clamp (by omega)]
    refine g_i2l C d_M_fits_22 ?_
    refine g_ladd C d_M_fits_23 ?_
    refine g_topl (fun x11s24 ex11s24 => ?_)
    refine g_lstore_n C d_M_fits_24 rfl [(3, .long x11s24), (0, .ref (ad m)), (1, .long all), (5, .int (nI iL11))] (by decide) rfl ?_
    obtain ⟨x11s25, ex11s25⟩ : ∃ y : Int32, y = (nI iL11) + 1 := ⟨_, rfl⟩
    refine g_iinc (v := x11s25) C d_M_fits_25 3 rfl (by rw [ex11s25]; rfl) [(5, .int x11s25), (3, .long x11s24), (0, .ref (ad m)), (1, .long all)] (by decide) rfl ?_
    refine g_goto 5 C d_M_fits_28 (by decide) ?_
    refine g_fewer (lv' := [(0, .ref (ad m)), (1, .long all), (3, .long x11s24), (5, .int x11s25)]) [2, 3, 1, 0] rfl ?_
    refine GW_eq (u2 := u) (lv2 := [(0, .ref (ad m)), (1, .long all), (3, .long (linS lic (iL11 + 1))), (5, .int (nI (iL11 + 1)))]) ?_ ?_ (KL11 trivial)
    · first | (rw [hwL11s]; done) | (rw [hwL11s]; funext k; simp only [gup]; (repeat' split) <;> first | with_reducible rfl | (exfalso; omega) | rfl)
    · simp only [ex11s24, ex11s25, nI_1, linS]
  · skip
    show GW Z _ _ _ ad (u) _ [(0, .ref (ad m)), (1, .long all), (3, .long (linS lic L)), (5, .int (nI L))] _ _ 5 []
    obtain ⟨wL11e, hwL11e⟩ : ∃ z, z = u := ⟨_, rfl⟩
    rw [← hwL11e]
    have hwL11e_0 : wL11e m = some (mO ad m th cl dr wy ce ra li bi) := by rw [hwL11e]; exact hm
    have hwL11e_1 : wL11e (m + 6) = some (.inl ((X.2 0), 16, .inl lic)) := by rw [hwL11e]; exact h_lic
    refine g_iload C d_M_fits_5 3 rfl ?_
    refine g_aload_n C d_M_fits_7 rfl 0 rfl ?_
    refine g_get m 11 C hwL11e_0 rfl i_M (by decide) (gmem wd_529 rfl) rfl rfl d_M_fits_8 ?_
    refine g_icmp_ge 31 C d_M_fits_11 (by decide) (fun c11e11 => ?_) (fun c11e11 => ?_)
    rotate_left
    · exact absurd (leN hli) c11e11
    refine g_aload_n C d_M_fits_31 rfl 0 rfl ?_
    refine g_get m 6 C hwL11e_0 rfl i_M (by decide) (gmem wd_524 rfl) rfl rfl d_M_fits_32 ?_
    refine g_iconst (v := 3) C d_M_fits_35 (by decide) ?_
    refine g_icmp_lt 89 C d_M_fits_36 (by decide) (fun c11e36 => ?_) (fun c11e36 => ?_)
    · skip
      refine g_iconst (v := 1) C d_M_fits_89 (by decide) ?_
      refine g_goto 94 C d_M_fits_90 (by decide) ?_
      exact g_zret C hR hret rfl ⟨by simp only [fitM, decide_eq_true c11e36, if_pos c11e36, Bool.not_true, Bool.not_false, Bool.and_true, Bool.true_and, Bool.false_and, Bool.and_false, bI_t, bI_f], (by first | (rw [hwL11e]; done) | (rw [hwL11e]; funext k; simp only [gup]; (repeat' split) <;> first | with_reducible rfl | (exfalso; omega) | rfl)), rfl⟩ d_M_fits_94
    · skip
      refine g_aload_n C d_M_fits_39 rfl 0 rfl ?_
      refine g_get m 6 C hwL11e_0 rfl i_M (by decide) (gmem wd_524 rfl) rfl rfl d_M_fits_40 ?_
      refine g_iconst (v := 3) C d_M_fits_43 (by decide) ?_
      refine g_icmp_ne 60 C d_M_fits_44 (by decide) (fun c11e44 => ?_) (fun c11e44 => ?_)
      · skip
        refine g_aload_n C d_M_fits_60 rfl 0 rfl ?_
        refine g_get m 6 C hwL11e_0 rfl i_M (by decide) (gmem wd_524 rfl) rfl rfl d_M_fits_61 ?_
        refine g_iconst (v := 4) C d_M_fits_64 (by decide) ?_
        refine g_icmp_ne 79 C d_M_fits_65 (by decide) (fun c11e65 => ?_) (fun c11e65 => ?_)
        · skip
          refine g_lload_n C d_M_fits_79 rfl 2 rfl ?_
          refine g_aload_n C d_M_fits_80 rfl 0 rfl ?_
          refine g_get m 7 C hwL11e_0 rfl i_M (by decide) (gmem wd_525 rfl) rfl rfl d_M_fits_81 ?_
          refine g_i2l C d_M_fits_84 ?_
          refine g_lcmp C d_M_fits_85 ?_
          refine g_if_ne 93 C d_M_fits_86 (by decide) (fun c11e86 => ?_) (fun c11e86 => ?_)
          · rw [lg_cmp_eq] at c11e86
            refine g_iconst (v := 0) C d_M_fits_93 (by decide) ?_
            exact g_zret C hR hret rfl ⟨by simp only [fitM, decide_eq_false c11e36, if_neg c11e36, decide_eq_false c11e44, if_neg c11e44, decide_eq_false c11e65, if_neg c11e65, decide_eq_false c11e86, if_neg c11e86, Bool.not_true, Bool.not_false, Bool.and_true, Bool.true_and, Bool.false_and, Bool.and_false, bI_t, bI_f], (by first | (rw [hwL11e]; done) | (rw [hwL11e]; funext k; simp only [gup]; (repeat' split) <;> first | with_reducible rfl | (exfalso; omega) | rfl)), rfl⟩ d_M_fits_94
          · rw [lg_cmp_eq] at c11e86
            refine g_iconst (v := 1) C d_M_fits_89 (by decide) ?_
            refine g_goto 94 C d_M_fits_90 (by decide) ?_
            exact g_zret C hR hret rfl ⟨by simp only [fitM, decide_eq_false c11e36, if_neg c11e36, decide_eq_false c11e44, if_neg c11e44, decide_eq_false c11e65, if_neg c11e65, decide_eq_true c11e86, if_pos c11e86, Bool.not_true, Bool.not_false, Bool.and_true, Bool.true_and, Bool.false_and, Bool.and_false, bI_t, bI_f], (by first | (rw [hwL11e]; done) | (rw [hwL11e]; funext k; simp only [gup]; (repeat' split) <;> first | with_reducible rfl | (exfalso; omega) | rfl)), rfl⟩ d_M_fits_94
        · skip
          refine g_lload_n C d_M_fits_68 rfl 1 rfl ?_
          refine g_ldc2 C (gmem wd_690 rfl) d_M_fits_69 ?_
          refine g_lcmp C d_M_fits_72 ?_
          refine g_if_ne 93 C d_M_fits_73 (by decide) (fun c11e73 => ?_) (fun c11e73 => ?_)
          · rw [lg_cmp_eq] at c11e73
            refine g_iconst (v := 0) C d_M_fits_93 (by decide) ?_
            exact g_zret C hR hret rfl ⟨by simp only [fitM, decide_eq_false c11e36, if_neg c11e36, decide_eq_false c11e44, if_neg c11e44, decide_eq_true c11e65, if_pos c11e65, decide_eq_false c11e73, if_neg c11e73, Bool.not_true, Bool.not_false, Bool.and_true, Bool.true_and, Bool.false_and, Bool.and_false, bI_t, bI_f], (by first | (rw [hwL11e]; done) | (rw [hwL11e]; funext k; simp only [gup]; (repeat' split) <;> first | with_reducible rfl | (exfalso; omega) | rfl)), rfl⟩ d_M_fits_94
          · rw [lg_cmp_eq] at c11e73
            refine g_goto 89 C d_M_fits_76 (by decide) ?_
            refine g_iconst (v := 1) C d_M_fits_89 (by decide) ?_
            refine g_goto 94 C d_M_fits_90 (by decide) ?_
            exact g_zret C hR hret rfl ⟨by simp only [fitM, decide_eq_false c11e36, if_neg c11e36, decide_eq_false c11e44, if_neg c11e44, decide_eq_true c11e65, if_pos c11e65, decide_eq_true c11e73, if_pos c11e73, Bool.not_true, Bool.not_false, Bool.and_true, Bool.true_and, Bool.false_and, Bool.and_false, bI_t, bI_f], (by first | (rw [hwL11e]; done) | (rw [hwL11e]; funext k; simp only [gup]; (repeat' split) <;> first | with_reducible rfl | (exfalso; omega) | rfl)), rfl⟩ d_M_fits_94
      · skip
        refine g_lload_n C d_M_fits_47 rfl 1 rfl ?_
        refine g_aload_n C d_M_fits_48 rfl 0 rfl ?_
        refine g_get m 7 C hwL11e_0 rfl i_M (by decide) (gmem wd_525 rfl) rfl rfl d_M_fits_49 ?_
        refine g_i2l C d_M_fits_52 ?_
        refine g_lcmp C d_M_fits_53 ?_
        refine g_if_ne 93 C d_M_fits_54 (by decide) (fun c11e54 => ?_) (fun c11e54 => ?_)
        · rw [lg_cmp_eq] at c11e54
          refine g_iconst (v := 0) C d_M_fits_93 (by decide) ?_
          exact g_zret C hR hret rfl ⟨by simp only [fitM, decide_eq_false c11e36, if_neg c11e36, decide_eq_true c11e44, if_pos c11e44, decide_eq_false c11e54, if_neg c11e54, Bool.not_true, Bool.not_false, Bool.and_true, Bool.true_and, Bool.false_and, Bool.and_false, bI_t, bI_f], (by first | (rw [hwL11e]; done) | (rw [hwL11e]; funext k; simp only [gup]; (repeat' split) <;> first | with_reducible rfl | (exfalso; omega) | rfl)), rfl⟩ d_M_fits_94
        · rw [lg_cmp_eq] at c11e54
          refine g_goto 89 C d_M_fits_57 (by decide) ?_
          refine g_iconst (v := 1) C d_M_fits_89 (by decide) ?_
          refine g_goto 94 C d_M_fits_90 (by decide) ?_
          exact g_zret C hR hret rfl ⟨by simp only [fitM, decide_eq_false c11e36, if_neg c11e36, decide_eq_true c11e44, if_pos c11e44, decide_eq_true c11e54, if_pos c11e54, Bool.not_true, Bool.not_false, Bool.and_true, Bool.true_and, Bool.false_and, Bool.and_false, bI_t, bI_f], (by first | (rw [hwL11e]; done) | (rw [hwL11e]; funext k; simp only [gup]; (repeat' split) <;> first | with_reducible rfl | (exfalso; omega) | rfl)), rfl⟩ d_M_fits_94
