def mtS (c : Nat) (x : gSt) (b : Int32) : gSt := (x.1, upd x.2.1 (11 * c + x.2.2.2.2.2.1) (pickI x.2.2.2.2.2.2.2.1 b x.2.2.2.2.2.2.2.2), upd x.2.2.1 (11 * c + x.2.2.2.2.2.1) (pickI x.2.2.2.2.2.2.2.1 x.2.2.2.2.2.2.2.2 b), vp_updL x.2.2.2.1 (11 * c + x.2.2.2.2.2.1) (pickL x.2.2.2.2.2.2.2.1), upd x.2.2.2.2.1 (11 * c + x.2.2.2.2.2.1) 0, x.2.2.2.2.2.1 + 1, x.2.2.2.2.2.2.1, x.2.2.2.2.2.2.2.1, x.2.2.2.2.2.2.2.2)
def mgS (c : Nat) (x : gSt) (i : Nat) (gc : Int32) (a : Int64) : gSt := (upd x.1 (12 * c + i) gc, x.2.1, x.2.2.1, x.2.2.2.1, x.2.2.2.2.1, x.2.2.2.2.2.1, x.2.2.2.2.2.2.1, x.2.2.2.2.2.2.2.1 + a, nI i)
/-- Model.moves, member by member -/
def mvS (bal : Nat → Int64) (c s : Nat) (gc : Int32) (x : gSt) : Nat → gSt
  | 0 => x
  | i + 1 => if s.testBit i = true then mgS c (if (mvS bal c s gc x i).2.2.2.2.2.2.2.2 = -1 then mvS bal c s gc x i else mtS c (mvS bal c s gc x i) (nI i)) i gc (bal i) else mvS bal c s gc x i
theorem mvS_f {bal : Nat → Int64} {c s : Nat} {gc : Int32} {x : gSt} {i : Nat} (h : ¬ s.testBit i = true) : mvS bal c s gc x (i + 1) = mvS bal c s gc x i := if_neg h
theorem mvS_n {bal : Nat → Int64} {c s : Nat} {gc : Int32} {x : gSt} {i : Nat} (h : s.testBit i = true) (h1 : (mvS bal c s gc x i).2.2.2.2.2.2.2.2 = -1) : mvS bal c s gc x (i + 1) = mgS c (mvS bal c s gc x i) i gc (bal i) := by rw [mvS, if_pos h, if_pos h1]
theorem mvS_y {bal : Nat → Int64} {c s : Nat} {gc : Int32} {x : gSt} {i : Nat} (h : s.testBit i = true) (h1 : ¬ (mvS bal c s gc x i).2.2.2.2.2.2.2.2 = -1) : mvS bal c s gc x (i + 1) = mgS c (mtS c (mvS bal c s gc x i) (nI i)) i gc (bal i) := by rw [mvS, if_pos h, if_neg h1]
/-- no place past a club's eleven is written -/
def mvOk (bal : Nat → Int64) (c s : Nat) (gc : Int32) (x : gSt) : Prop := ∀ i, i < 12 → s.testBit i = true → ¬ (mvS bal c s gc x i).2.2.2.2.2.2.2.2 = -1 → (mvS bal c s gc x i).2.2.2.2.2.1 < 11
theorem in11 {c : Int32} {t : Nat} (hc : vp_in c 4) (ht : t < 11) : vp_in (11 * c + nI t) 44 ∧ (11 * c + nI t).toNatClampNeg = 11 * c.toNatClampNeg + t := in44 hc ht
set_option maxHeartbeats 4000000 in
set_option maxRecDepth 100000 in
theorem k_M_moves (l : Launch) (X : gX) (ad : Nat → Nat) (u : gW) (sz : Nat) (m : Nat) (cl dr wy ce ra li bi : Int32) (mem cof str gps grp man sds gts tck : Nat → Int32) (sen pai sha sms : Nat → Int64) (c : Int32) (s tc : Nat) (hm : u m = some (mO ad m 0 cl dr wy ce ra li bi)) (h_mem : u (m + 1) = some (.inl ((X.2 0), 4, .inl mem))) (h_cof : u (m + 9) = some (.inl ((X.2 0), 64, .inl cof))) (h_str : u (m + 11) = some (.inl ((X.2 2), 64, .inl str))) (h_gps : u (m + 17) = some (.inl ((X.2 0), 4, .inl gps))) (h_grp : u (m + 18) = some (.inl ((X.2 0), 48, .inl grp))) (h_man : u (m + 19) = some (.inl ((X.2 0), 4, .inl man))) (h_sds : u (m + 20) = some (.inl ((X.2 0), 44, .inl sds))) (h_gts : u (m + 21) = some (.inl ((X.2 0), 44, .inl gts))) (h_tck : u (m + 23) = some (.inl ((X.2 2), 44, .inl tck))) (h_sen : u (m + 15) = some (.inl ((X.2 1), 48, .inr (.inl sen)))) (h_pai : u (m + 13) = some (.inl ((X.2 1), 768, .inr (.inl pai)))) (h_sha : u (m + 12) = some (.inl ((X.2 1), 768, .inr (.inl sha)))) (h_sms : u (m + 22) = some (.inl ((X.2 1), 44, .inr (.inl sms)))) (hcl : cl ≤ 4) (hmem : ∀ j, j < 4 → mem j ≤ 12)(nb : Nat) (hnb : bi = nI nb) (hn64 : nb ≤ 64) (hc : vp_in c 4) (hs : s < 2 ^ 12) (hman : man c.toNatClampNeg = nI tc) (hok : mvOk (fun x => balM cl mem cof str pai sha sen nb c (nI x)) c.toNatClampNeg s (gps c.toNatClampNeg) ((grp, sds, gts, sms, tck, tc, 0, 0, -1) : gSt)) : gMet l (EE X) y_M_moves c_M_moves 8 none ({ frames := 3, cells := 0, slots := 0, locals := 68 }) [.ref (ad m), .int c, .int (nI s)] ad u sz (fun v u' sz' => v = none ∧ u' = gup (gup (gup (gup (gup (gup (gup u (m + 18) (.inl ((X.2 0), 48, .inl ((mvS (fun x => balM cl mem cof str pai sha sen nb c (nI x)) c.toNatClampNeg s (gps c.toNatClampNeg) ((grp, sds, gts, sms, tck, tc, 0, 0, -1) : gSt) 12).1)))) (m + 20) (.inl ((X.2 0), 44, .inl ((mvS (fun x => balM cl mem cof str pai sha sen nb c (nI x)) c.toNatClampNeg s (gps c.toNatClampNeg) ((grp, sds, gts, sms, tck, tc, 0, 0, -1) : gSt) 12).2.1)))) (m + 21) (.inl ((X.2 0), 44, .inl ((mvS (fun x => balM cl mem cof str pai sha sen nb c (nI x)) c.toNatClampNeg s (gps c.toNatClampNeg) ((grp, sds, gts, sms, tck, tc, 0, 0, -1) : gSt) 12).2.2.1)))) (m + 22) (.inl ((X.2 1), 44, .inr (.inl ((mvS (fun x => balM cl mem cof str pai sha sen nb c (nI x)) c.toNatClampNeg s (gps c.toNatClampNeg) ((grp, sds, gts, sms, tck, tc, 0, 0, -1) : gSt) 12).2.2.2.1))))) (m + 23) (.inl ((X.2 2), 44, .inl ((mvS (fun x => balM cl mem cof str pai sha sen nb c (nI x)) c.toNatClampNeg s (gps c.toNatClampNeg) ((grp, sds, gts, sms, tck, tc, 0, 0, -1) : gSt) 12).2.2.2.2.1)))) (m + 19) (.inl ((X.2 0), 4, .inl (upd man c.toNatClampNeg (nI (mvS (fun x => balM cl mem cof str pai sha sen nb c (nI x)) c.toNatClampNeg s (gps c.toNatClampNeg) ((grp, sds, gts, sms, tck, tc, 0, 0, -1) : gSt) 12).2.2.2.2.2.1))))) (m + 17) (.inl ((X.2 0), 4, .inl (upd gps c.toNatClampNeg (gps c.toNatClampNeg + 1)))) ∧ sz' = sz) := by
  refine gMet_of "ExpenseClubsModel" rfl (by decide) (Nat.le_of_ble_eq_true rfl) (lv := [(0, .ref (ad m)), (1, .int c), (2, .int (nI s))]) rfl (fun Z hZl C hR hret hname => ?_)
  refine g_lconst (v := 0) C d_M_moves_0 (by decide) ?_
  refine g_lstore_n C d_M_moves_1 rfl [(3, .long 0), (0, .ref (ad m)), (1, .int c), (2, .int (nI s))] (by decide) rfl ?_
  refine g_iconst (v := (-1)) C d_M_moves_2 (by decide) ?_
  refine g_istore C d_M_moves_3 [(5, .int (-1)), (3, .long 0), (0, .ref (ad m)), (1, .int c), (2, .int (nI s))] (by decide) rfl ?_
  refine g_iconst (v := 0) C d_M_moves_5 (by decide) ?_
  refine g_istore C d_M_moves_6 [(6, .int 0), (5, .int (-1)), (3, .long 0), (0, .ref (ad m)), (1, .int c), (2, .int (nI s))] (by decide) rfl ?_
  refine g_fewer (lv' := [(0, .ref (ad m)), (1, .int c), (2, .int (nI s)), (3, .long 0), (5, .int (-1)), (6, .int 0)]) [3, 4, 5, 2, 1, 0] rfl ?_
  refine GW_eq (u2 := gup (gup (gup (gup (gup (gup u (m + 18) (.inl ((X.2 0), 48, .inl ((mvS (fun x => balM cl mem cof str pai sha sen nb c (nI x)) c.toNatClampNeg s (gps c.toNatClampNeg) ((grp, sds, gts, sms, tck, tc, 0, 0, -1) : gSt) 0).1)))) (m + 20) (.inl ((X.2 0), 44, .inl ((mvS (fun x => balM cl mem cof str pai sha sen nb c (nI x)) c.toNatClampNeg s (gps c.toNatClampNeg) ((grp, sds, gts, sms, tck, tc, 0, 0, -1) : gSt) 0).2.1)))) (m + 21) (.inl ((X.2 0), 44, .inl ((mvS (fun x => balM cl mem cof str pai sha sen nb c (nI x)) c.toNatClampNeg s (gps c.toNatClampNeg) ((grp, sds, gts, sms, tck, tc, 0, 0, -1) : gSt) 0).2.2.1)))) (m + 22) (.inl ((X.2 1), 44, .inr (.inl ((mvS (fun x => balM cl mem cof str pai sha sen nb c (nI x)) c.toNatClampNeg s (gps c.toNatClampNeg) ((grp, sds, gts, sms, tck, tc, 0, 0, -1) : gSt) 0).2.2.2.1))))) (m + 23) (.inl ((X.2 2), 44, .inl ((mvS (fun x => balM cl mem cof str pai sha sen nb c (nI x)) c.toNatClampNeg s (gps c.toNatClampNeg) ((grp, sds, gts, sms, tck, tc, 0, 0, -1) : gSt) 0).2.2.2.2.1)))) (m + 19) (.inl ((X.2 0), 4, .inl (upd man c.toNatClampNeg (nI (mvS (fun x => balM cl mem cof str pai sha sen nb c (nI x)) c.toNatClampNeg s (gps c.toNatClampNeg) ((grp, sds, gts, sms, tck, tc, 0, 0, -1) : gSt) 0).2.2.2.2.2.1))))) (lv2 := [(0, .ref (ad m)), (1, .int c), (2, .int (nI s)), (3, .long ((mvS (fun x => balM cl mem cof str pai sha sen nb c (nI x)) c.toNatClampNeg s (gps c.toNatClampNeg) ((grp, sds, gts, sms, tck, tc, 0, 0, -1) : gSt) 0).2.2.2.2.2.2.2.1)), (5, .int ((mvS (fun x => balM cl mem cof str pai sha sen nb c (nI x)) c.toNatClampNeg s (gps c.toNatClampNeg) ((grp, sds, gts, sms, tck, tc, 0, 0, -1) : gSt) 0).2.2.2.2.2.2.2.2)), (6, .int (nI 0))]) (by rw [gup_id (show u (m + 18) = some (.inl ((X.2 0), 48, .inl ((mvS (fun x => balM cl mem cof str pai sha sen nb c (nI x)) c.toNatClampNeg s (gps c.toNatClampNeg) ((grp, sds, gts, sms, tck, tc, 0, 0, -1) : gSt) 0).1))) from h_grp), gup_id (show u (m + 20) = some (.inl ((X.2 0), 44, .inl ((mvS (fun x => balM cl mem cof str pai sha sen nb c (nI x)) c.toNatClampNeg s (gps c.toNatClampNeg) ((grp, sds, gts, sms, tck, tc, 0, 0, -1) : gSt) 0).2.1))) from h_sds), gup_id (show u (m + 21) = some (.inl ((X.2 0), 44, .inl ((mvS (fun x => balM cl mem cof str pai sha sen nb c (nI x)) c.toNatClampNeg s (gps c.toNatClampNeg) ((grp, sds, gts, sms, tck, tc, 0, 0, -1) : gSt) 0).2.2.1))) from h_gts), gup_id (show u (m + 22) = some (.inl ((X.2 1), 44, .inr (.inl ((mvS (fun x => balM cl mem cof str pai sha sen nb c (nI x)) c.toNatClampNeg s (gps c.toNatClampNeg) ((grp, sds, gts, sms, tck, tc, 0, 0, -1) : gSt) 0).2.2.2.1)))) from h_sms), gup_id (show u (m + 23) = some (.inl ((X.2 2), 44, .inl ((mvS (fun x => balM cl mem cof str pai sha sen nb c (nI x)) c.toNatClampNeg s (gps c.toNatClampNeg) ((grp, sds, gts, sms, tck, tc, 0, 0, -1) : gSt) 0).2.2.2.2.1))) from h_tck), gup_id (show u (m + 19) = some (.inl ((X.2 0), 4, .inl (upd man c.toNatClampNeg (nI (mvS (fun x => balM cl mem cof str pai sha sen nb c (nI x)) c.toNatClampNeg s (gps c.toNatClampNeg) ((grp, sds, gts, sms, tck, tc, 0, 0, -1) : gSt) 0).2.2.2.2.2.1)))) from (by show u (m + 19) = some (.inl ((X.2 0), 4, .inl (upd man c.toNatClampNeg (nI tc)))); rw [upd_id hman]; exact h_man))]) rfl ?_
  refine g_loop 12 (fun iL33 => True) (fun iL33 => gup (gup (gup (gup (gup (gup u (m + 18) (.inl ((X.2 0), 48, .inl ((mvS (fun x => balM cl mem cof str pai sha sen nb c (nI x)) c.toNatClampNeg s (gps c.toNatClampNeg) ((grp, sds, gts, sms, tck, tc, 0, 0, -1) : gSt) iL33).1)))) (m + 20) (.inl ((X.2 0), 44, .inl ((mvS (fun x => balM cl mem cof str pai sha sen nb c (nI x)) c.toNatClampNeg s (gps c.toNatClampNeg) ((grp, sds, gts, sms, tck, tc, 0, 0, -1) : gSt) iL33).2.1)))) (m + 21) (.inl ((X.2 0), 44, .inl ((mvS (fun x => balM cl mem cof str pai sha sen nb c (nI x)) c.toNatClampNeg s (gps c.toNatClampNeg) ((grp, sds, gts, sms, tck, tc, 0, 0, -1) : gSt) iL33).2.2.1)))) (m + 22) (.inl ((X.2 1), 44, .inr (.inl ((mvS (fun x => balM cl mem cof str pai sha sen nb c (nI x)) c.toNatClampNeg s (gps c.toNatClampNeg) ((grp, sds, gts, sms, tck, tc, 0, 0, -1) : gSt) iL33).2.2.2.1))))) (m + 23) (.inl ((X.2 2), 44, .inl ((mvS (fun x => balM cl mem cof str pai sha sen nb c (nI x)) c.toNatClampNeg s (gps c.toNatClampNeg) ((grp, sds, gts, sms, tck, tc, 0, 0, -1) : gSt) iL33).2.2.2.2.1)))) (m + 19) (.inl ((X.2 0), 4, .inl (upd man c.toNatClampNeg (nI (mvS (fun x => balM cl mem cof str pai sha sen nb c (nI x)) c.toNatClampNeg s (gps c.toNatClampNeg) ((grp, sds, gts, sms, tck, tc, 0, 0, -1) : gSt) iL33).2.2.2.2.2.1))))) (fun iL33 => [(0, .ref (ad m)), (1, .int c), (2, .int (nI s)), (3, .long ((mvS (fun x => balM cl mem cof str pai sha sen nb c (nI x)) c.toNatClampNeg s (gps c.toNatClampNeg) ((grp, sds, gts, sms, tck, tc, 0, 0, -1) : gSt) iL33).2.2.2.2.2.2.2.1)), (5, .int ((mvS (fun x => balM cl mem cof str pai sha sen nb c (nI x)) c.toNatClampNeg s (gps c.toNatClampNeg) ((grp, sds, gts, sms, tck, tc, 0, 0, -1) : gSt) iL33).2.2.2.2.2.2.2.2)), (6, .int (nI iL33))]) (fun iL33 hiL33 piL33 KL33 => ?_) (fun piL33 => ?_) 0 (by omega) trivial
  · skip
    show GW Z _ _ _ ad (gup (gup (gup (gup (gup (gup u (m + 18) (.inl ((X.2 0), 48, .inl ((mvS (fun x => balM cl mem cof str pai sha sen nb c (nI x)) c.toNatClampNeg s (gps c.toNatClampNeg) ((grp, sds, gts, sms, tck, tc, 0, 0, -1) : gSt) iL33).1)))) (m + 20) (.inl ((X.2 0), 44, .inl ((mvS (fun x => balM cl mem cof str pai sha sen nb c (nI x)) c.toNatClampNeg s (gps c.toNatClampNeg) ((grp, sds, gts, sms, tck, tc, 0, 0, -1) : gSt) iL33).2.1)))) (m + 21) (.inl ((X.2 0), 44, .inl ((mvS (fun x => balM cl mem cof str pai sha sen nb c (nI x)) c.toNatClampNeg s (gps c.toNatClampNeg) ((grp, sds, gts, sms, tck, tc, 0, 0, -1) : gSt) iL33).2.2.1)))) (m + 22) (.inl ((X.2 1), 44, .inr (.inl ((mvS (fun x => balM cl mem cof str pai sha sen nb c (nI x)) c.toNatClampNeg s (gps c.toNatClampNeg) ((grp, sds, gts, sms, tck, tc, 0, 0, -1) : gSt) iL33).2.2.2.1))))) (m + 23) (.inl ((X.2 2), 44, .inl ((mvS (fun x => balM cl mem cof str pai sha sen nb c (nI x)) c.toNatClampNeg s (gps c.toNatClampNeg) ((grp, sds, gts, sms, tck, tc, 0, 0, -1) : gSt) iL33).2.2.2.2.1)))) (m + 19) (.inl ((X.2 0), 4, .inl (upd man c.toNatClampNeg (nI (mvS (fun x => balM cl mem cof str pai sha sen nb c (nI x)) c.toNatClampNeg s (gps c.toNatClampNeg) ((grp, sds, gts, sms, tck, tc, 0, 0, -1) : gSt) iL33).2.2.2.2.2.1))))) _ [(0, .ref (ad m)), (1, .int c), (2, .int (nI s)), (3, .long ((mvS (fun x => balM cl mem cof str pai sha sen nb c (nI x)) c.toNatClampNeg s (gps c.toNatClampNeg) ((grp, sds, gts, sms, tck, tc, 0, 0, -1) : gSt) iL33).2.2.2.2.2.2.2.1)), (5, .int ((mvS (fun x => balM cl mem cof str pai sha sen nb c (nI x)) c.toNatClampNeg s (gps c.toNatClampNeg) ((grp, sds, gts, sms, tck, tc, 0, 0, -1) : gSt) iL33).2.2.2.2.2.2.2.2)), (6, .int (nI iL33))] _ _ 8 []
    obtain ⟨wL33s, hwL33s⟩ : ∃ z, z = gup (gup (gup (gup (gup (gup u (m + 18) (.inl ((X.2 0), 48, .inl ((mvS (fun x => balM cl mem cof str pai sha sen nb c (nI x)) c.toNatClampNeg s (gps c.toNatClampNeg) ((grp, sds, gts, sms, tck, tc, 0, 0, -1) : gSt) iL33).1)))) (m + 20) (.inl ((X.2 0), 44, .inl ((mvS (fun x => balM cl mem cof str pai sha sen nb c (nI x)) c.toNatClampNeg s (gps c.toNatClampNeg) ((grp, sds, gts, sms, tck, tc, 0, 0, -1) : gSt) iL33).2.1)))) (m + 21) (.inl ((X.2 0), 44, .inl ((mvS (fun x => balM cl mem cof str pai sha sen nb c (nI x)) c.toNatClampNeg s (gps c.toNatClampNeg) ((grp, sds, gts, sms, tck, tc, 0, 0, -1) : gSt) iL33).2.2.1)))) (m + 22) (.inl ((X.2 1), 44, .inr (.inl ((mvS (fun x => balM cl mem cof str pai sha sen nb c (nI x)) c.toNatClampNeg s (gps c.toNatClampNeg) ((grp, sds, gts, sms, tck, tc, 0, 0, -1) : gSt) iL33).2.2.2.1))))) (m + 23) (.inl ((X.2 2), 44, .inl ((mvS (fun x => balM cl mem cof str pai sha sen nb c (nI x)) c.toNatClampNeg s (gps c.toNatClampNeg) ((grp, sds, gts, sms, tck, tc, 0, 0, -1) : gSt) iL33).2.2.2.2.1)))) (m + 19) (.inl ((X.2 0), 4, .inl (upd man c.toNatClampNeg (nI (mvS (fun x => balM cl mem cof str pai sha sen nb c (nI x)) c.toNatClampNeg s (gps c.toNatClampNeg) ((grp, sds, gts, sms, tck, tc, 0, 0, -1) : gSt) iL33).2.2.2.2.2.1)))) := ⟨_, rfl⟩
    rw [← hwL33s]
    have hwL33s_0 : wL33s m = some (mO ad m 0 cl dr wy ce ra li bi) := by rw [hwL33s, gup_ne (by omega), gup_ne (by omega), gup_ne (by omega), gup_ne (by omega), gup_ne (by omega), gup_ne (by omega)]; exact hm
    have hwL33s_1 : wL33s (m + 1) = some (.inl ((X.2 0), 4, .inl mem)) := by rw [hwL33s, gup_ne (by omega), gup_ne (by omega), gup_ne (by omega), gup_ne (by omega), gup_ne (by omega), gup_ne (by omega)]; exact h_mem
    have hwL33s_2 : wL33s (m + 9) = some (.inl ((X.2 0), 64, .inl cof)) := by rw [hwL33s, gup_ne (by omega), gup_ne (by omega), gup_ne (by omega), gup_ne (by omega), gup_ne (by omega), gup_ne (by omega)]; exact h_cof
    have hwL33s_3 : wL33s (m + 11) = some (.inl ((X.2 2), 64, .inl str)) := by rw [hwL33s, gup_ne (by omega), gup_ne (by omega), gup_ne (by omega), gup_ne (by omega), gup_ne (by omega), gup_ne (by omega)]; exact h_str
    have hwL33s_4 : wL33s (m + 17) = some (.inl ((X.2 0), 4, .inl gps)) := by rw [hwL33s, gup_ne (by omega), gup_ne (by omega), gup_ne (by omega), gup_ne (by omega), gup_ne (by omega), gup_ne (by omega)]; exact h_gps
    have hwL33s_5 : wL33s (m + 18) = some (.inl ((X.2 0), 48, .inl ((mvS (fun x => balM cl mem cof str pai sha sen nb c (nI x)) c.toNatClampNeg s (gps c.toNatClampNeg) ((grp, sds, gts, sms, tck, tc, 0, 0, -1) : gSt) iL33).1))) := by rw [hwL33s, gup_ne (by omega), gup_ne (by omega), gup_ne (by omega), gup_ne (by omega), gup_ne (by omega), gup_self]
    have hwL33s_6 : wL33s (m + 19) = some (.inl ((X.2 0), 4, .inl (upd man c.toNatClampNeg (nI (mvS (fun x => balM cl mem cof str pai sha sen nb c (nI x)) c.toNatClampNeg s (gps c.toNatClampNeg) ((grp, sds, gts, sms, tck, tc, 0, 0, -1) : gSt) iL33).2.2.2.2.2.1)))) := by rw [hwL33s, gup_self]
    have hwL33s_7 : wL33s (m + 20) = some (.inl ((X.2 0), 44, .inl ((mvS (fun x => balM cl mem cof str pai sha sen nb c (nI x)) c.toNatClampNeg s (gps c.toNatClampNeg) ((grp, sds, gts, sms, tck, tc, 0, 0, -1) : gSt) iL33).2.1))) := by rw [hwL33s, gup_ne (by omega), gup_ne (by omega), gup_ne (by omega), gup_ne (by omega), gup_self]
    have hwL33s_8 : wL33s (m + 21) = some (.inl ((X.2 0), 44, .inl ((mvS (fun x => balM cl mem cof str pai sha sen nb c (nI x)) c.toNatClampNeg s (gps c.toNatClampNeg) ((grp, sds, gts, sms, tck, tc, 0, 0, -1) : gSt) iL33).2.2.1))) := by rw [hwL33s, gup_ne (by omega), gup_ne (by omega), gup_ne (by omega), gup_self]
    have hwL33s_9 : wL33s (m + 23) = some (.inl ((X.2 2), 44, .inl ((mvS (fun x => balM cl mem cof str pai sha sen nb c (nI x)) c.toNatClampNeg s (gps c.toNatClampNeg) ((grp, sds, gts, sms, tck, tc, 0, 0, -1) : gSt) iL33).2.2.2.2.1))) := by rw [hwL33s, gup_ne (by omega), gup_self]
    have hwL33s_10 : wL33s (m + 15) = some (.inl ((X.2 1), 48, .inr (.inl sen))) := by rw [hwL33s, gup_ne (by omega), gup_ne (by omega), gup_ne (by omega), gup_ne (by omega), gup_ne (by omega), gup_ne (by omega)]; exact h_sen
    have hwL33s_11 : wL33s (m + 13) = some (.inl ((X.2 1), 768, .inr (.inl pai))) := by rw [hwL33s, gup_ne (by omega), gup_ne (by omega), gup_ne (by omega), gup_ne (by omega), gup_ne (by omega), gup_ne (by omega)]; exact h_pai
    have hwL33s_12 : wL33s (m + 12) = some (.inl ((X.2 1), 768, .inr (.inl sha))) := by rw [hwL33s, gup_ne (by omega), gup_ne (by omega), gup_ne (by omega), gup_ne (by omega), gup_ne (by omega), gup_ne (by omega)]; exact h_sha
    have hwL33s_13 : wL33s (m + 22) = some (.inl ((X.2 1), 44, .inr (.inl ((mvS (fun x => balM cl mem cof str pai sha sen nb c (nI x)) c.toNatClampNeg s (gps c.toNatClampNeg) ((grp, sds, gts, sms, tck, tc, 0, 0, -1) : gSt) iL33).2.2.2.1)))) := by rw [hwL33s, gup_ne (by omega), gup_ne (by omega), gup_self]
    refine g_iload C d_M_moves_8 5 rfl ?_
    refine g_bipush (v := 12) C d_M_moves_10 (by decide) ?_
    refine g_icmp_ge 159 C d_M_moves_12 (by decide) (fun c33s12 => ?_) (fun c33s12 => ?_)
    · exact absurd c33s12 (ge12 hiL33)
    refine g_iload_n C d_M_moves_15 rfl 2 rfl ?_
    refine g_iload C d_M_moves_16 5 rfl ?_
    refine g_ishr C d_M_moves_18 ?_
    refine g_iconst (v := 1) C d_M_moves_19 (by decide) ?_
    refine g_iand C d_M_moves_20 ?_
    refine g_iconst (v := 1) C d_M_moves_21 (by decide) ?_
    refine g_icmp_ne 153 C d_M_moves_22 (by decide) (fun c33s22 => ?_) (fun c33s22 => ?_)
    · skip
      obtain ⟨x33s153, ex33s153⟩ : ∃ y : Int32, y = (nI iL33) + 1 := ⟨_, rfl⟩
      refine g_iinc (v := x33s153) C d_M_moves_153 5 rfl (by rw [ex33s153]; rfl) [(6, .int x33s153), (0, .ref (ad m)), (1, .int c), (2, .int (nI s)), (3, .long ((mvS (fun x => balM cl mem cof str pai sha sen nb c (nI x)) c.toNatClampNeg s (gps c.toNatClampNeg) ((grp, sds, gts, sms, tck, tc, 0, 0, -1) : gSt) iL33).2.2.2.2.2.2.2.1)), (5, .int ((mvS (fun x => balM cl mem cof str pai sha sen nb c (nI x)) c.toNatClampNeg s (gps c.toNatClampNeg) ((grp, sds, gts, sms, tck, tc, 0, 0, -1) : gSt) iL33).2.2.2.2.2.2.2.2))] (by decide) rfl ?_
      refine g_goto 8 C d_M_moves_156 (by decide) ?_
      refine g_fewer (lv' := [(0, .ref (ad m)), (1, .int c), (2, .int (nI s)), (3, .long ((mvS (fun x => balM cl mem cof str pai sha sen nb c (nI x)) c.toNatClampNeg s (gps c.toNatClampNeg) ((grp, sds, gts, sms, tck, tc, 0, 0, -1) : gSt) iL33).2.2.2.2.2.2.2.1)), (5, .int ((mvS (fun x => balM cl mem cof str pai sha sen nb c (nI x)) c.toNatClampNeg s (gps c.toNatClampNeg) ((grp, sds, gts, sms, tck, tc, 0, 0, -1) : gSt) iL33).2.2.2.2.2.2.2.2)), (6, .int x33s153)]) [1, 2, 3, 4, 5, 0] rfl ?_
      refine GW_eq (u2 := gup (gup (gup (gup (gup (gup u (m + 18) (.inl ((X.2 0), 48, .inl ((mvS (fun x => balM cl mem cof str pai sha sen nb c (nI x)) c.toNatClampNeg s (gps c.toNatClampNeg) ((grp, sds, gts, sms, tck, tc, 0, 0, -1) : gSt) (iL33 + 1)).1)))) (m + 20) (.inl ((X.2 0), 44, .inl ((mvS (fun x => balM cl mem cof str pai sha sen nb c (nI x)) c.toNatClampNeg s (gps c.toNatClampNeg) ((grp, sds, gts, sms, tck, tc, 0, 0, -1) : gSt) (iL33 + 1)).2.1)))) (m + 21) (.inl ((X.2 0), 44, .inl ((mvS (fun x => balM cl mem cof str pai sha sen nb c (nI x)) c.toNatClampNeg s (gps c.toNatClampNeg) ((grp, sds, gts, sms, tck, tc, 0, 0, -1) : gSt) (iL33 + 1)).2.2.1)))) (m + 22) (.inl ((X.2 1), 44, .inr (.inl ((mvS (fun x => balM cl mem cof str pai sha sen nb c (nI x)) c.toNatClampNeg s (gps c.toNatClampNeg) ((grp, sds, gts, sms, tck, tc, 0, 0, -1) : gSt) (iL33 + 1)).2.2.2.1))))) (m + 23) (.inl ((X.2 2), 44, .inl ((mvS (fun x => balM cl mem cof str pai sha sen nb c (nI x)) c.toNatClampNeg s (gps c.toNatClampNeg) ((grp, sds, gts, sms, tck, tc, 0, 0, -1) : gSt) (iL33 + 1)).2.2.2.2.1)))) (m + 19) (.inl ((X.2 0), 4, .inl (upd man c.toNatClampNeg (nI (mvS (fun x => balM cl mem cof str pai sha sen nb c (nI x)) c.toNatClampNeg s (gps c.toNatClampNeg) ((grp, sds, gts, sms, tck, tc, 0, 0, -1) : gSt) (iL33 + 1)).2.2.2.2.2.1))))) (lv2 := [(0, .ref (ad m)), (1, .int c), (2, .int (nI s)), (3, .long ((mvS (fun x => balM cl mem cof str pai sha sen nb c (nI x)) c.toNatClampNeg s (gps c.toNatClampNeg) ((grp, sds, gts, sms, tck, tc, 0, 0, -1) : gSt) (iL33 + 1)).2.2.2.2.2.2.2.1)), (5, .int ((mvS (fun x => balM cl mem cof str pai sha sen nb c (nI x)) c.toNatClampNeg s (gps c.toNatClampNeg) ((grp, sds, gts, sms, tck, tc, 0, 0, -1) : gSt) (iL33 + 1)).2.2.2.2.2.2.2.2)), (6, .int (nI (iL33 + 1)))]) ?_ ?_ (KL33 trivial)
      · funext k
        by_cases hk0 : k = m + 18
        · rw [hk0, hwL33s_5, gup_ne (by omega), gup_ne (by omega), gup_ne (by omega), gup_ne (by omega), gup_ne (by omega), gup_self] <;> (try (rw [mvS_f (mt (bit1 (s := s) (i := iL33) (by omega) (by omega)).mpr c33s22)])) <;> (try simp only [ex33s153, nI_1]) <;> (try rw [upd_upd])
        by_cases hk1 : k = m + 20
        · rw [hk1, hwL33s_7, gup_ne (by omega), gup_ne (by omega), gup_ne (by omega), gup_ne (by omega), gup_self] <;> (try (rw [mvS_f (mt (bit1 (s := s) (i := iL33) (by omega) (by omega)).mpr c33s22)])) <;> (try simp only [ex33s153, nI_1]) <;> (try rw [upd_upd])
        by_cases hk2 : k = m + 21
        · rw [hk2, hwL33s_8, gup_ne (by omega), gup_ne (by omega), gup_ne (by omega), gup_self] <;> (try (rw [mvS_f (mt (bit1 (s := s) (i := iL33) (by omega) (by omega)).mpr c33s22)])) <;> (try simp only [ex33s153, nI_1]) <;> (try rw [upd_upd])
        by_cases hk3 : k = m + 22
        · rw [hk3, hwL33s_13, gup_ne (by omega), gup_ne (by omega), gup_self] <;> (try (rw [mvS_f (mt (bit1 (s := s) (i := iL33) (by omega) (by omega)).mpr c33s22)])) <;> (try simp only [ex33s153, nI_1]) <;> (try rw [upd_upd])
        by_cases hk4 : k = m + 23
        · rw [hk4, hwL33s_9, gup_ne (by omega), gup_self] <;> (try (rw [mvS_f (mt (bit1 (s := s) (i := iL33) (by omega) (by omega)).mpr c33s22)])) <;> (try simp only [ex33s153, nI_1]) <;> (try rw [upd_upd])
        by_cases hk5 : k = m + 19
        · rw [hk5, hwL33s_6, gup_self] <;> (try (rw [mvS_f (mt (bit1 (s := s) (i := iL33) (by omega) (by omega)).mpr c33s22)])) <;> (try simp only [ex33s153, nI_1]) <;> (try rw [upd_upd])
        rw [hwL33s, gup_ne hk5, gup_ne hk4, gup_ne hk3, gup_ne hk2, gup_ne hk1, gup_ne hk0]
        rw [gup_ne hk5, gup_ne hk4, gup_ne hk3, gup_ne hk2, gup_ne hk1, gup_ne hk0]
      · rw [mvS_f (mt (bit1 (s := s) (i := iL33) (by omega) (by omega)).mpr c33s22)] <;> simp only [ex33s153, nI_1]
    · skip
      refine g_iload C d_M_moves_25 4 rfl ?_
      refine g_iconst (v := (-1)) C d_M_moves_27 (by decide) ?_
      refine g_icmp_eq 121 C d_M_moves_28 (by decide) (fun c33s28 => ?_) (fun c33s28 => ?_)
      · skip
        refine g_aload_n C d_M_moves_121 rfl 0 rfl ?_
        refine g_get m 25 C hwL33s_0 rfl i_M (by decide) (gmem wd_543 rfl) rfl rfl d_M_moves_122 ?_
        refine g_bipush (v := 12) C d_M_moves_125 (by decide) ?_
        refine g_iload_n C d_M_moves_127 rfl 1 rfl ?_
        refine g_imul C d_M_moves_128 ?_
        refine g_iload C d_M_moves_129 5 rfl ?_
        refine g_iadd C d_M_moves_131 ?_
        refine g_aload_n C d_M_moves_132 rfl 0 rfl ?_
        refine g_get m 24 C hwL33s_0 rfl i_M (by decide) (gmem wd_542 rfl) rfl rfl d_M_moves_133 ?_
        refine g_iload_n C d_M_moves_136 rfl 1 rfl ?_
        refine g_iald (m + 17) 0 C hwL33s_4 rfl hc d_M_moves_137 ?_
        refine g_topi (fun x33s138 ex33s138 => ?_)
        refine g_iast (m + 18) 0 C hwL33s_5 rfl (in48i hc hiL33).1 d_M_moves_138 ?_
        rw [show Int32.toNatClampNeg ((12 * c) + (nI iL33)) = (12 * c.toNatClampNeg + iL33) from (in48i hc hiL33).2]
        obtain ⟨u33s1, hu33s1⟩ : ∃ z, z = gup wL33s (m + 18) (.inl ((X.2 0), 48, .inl (upd ((mvS (fun x => balM cl mem cof str pai sha sen nb c (nI x)) c.toNatClampNeg s (gps c.toNatClampNeg) ((grp, sds, gts, sms, tck, tc, 0, 0, -1) : gSt) iL33).1) (12 * c.toNatClampNeg + iL33) x33s138))) := ⟨_, rfl⟩
        rw [← hu33s1]
        have hu33s1_0 : u33s1 m = some (mO ad m 0 cl dr wy ce ra li bi) := by rw [hu33s1, gup_ne (by omega)]; exact hwL33s_0
        have hu33s1_1 : u33s1 (m + 1) = some (.inl ((X.2 0), 4, .inl mem)) := by rw [hu33s1, gup_ne (by omega)]; exact hwL33s_1
        have hu33s1_2 : u33s1 (m + 9) = some (.inl ((X.2 0), 64, .inl cof)) := by rw [hu33s1, gup_ne (by omega)]; exact hwL33s_2
        have hu33s1_3 : u33s1 (m + 11) = some (.inl ((X.2 2), 64, .inl str)) := by rw [hu33s1, gup_ne (by omega)]; exact hwL33s_3
        have hu33s1_4 : u33s1 (m + 17) = some (.inl ((X.2 0), 4, .inl gps)) := by rw [hu33s1, gup_ne (by omega)]; exact hwL33s_4
        have hu33s1_5 : u33s1 (m + 18) = some (.inl ((X.2 0), 48, .inl (upd ((mvS (fun x => balM cl mem cof str pai sha sen nb c (nI x)) c.toNatClampNeg s (gps c.toNatClampNeg) ((grp, sds, gts, sms, tck, tc, 0, 0, -1) : gSt) iL33).1) (12 * c.toNatClampNeg + iL33) x33s138))) := by rw [hu33s1]; exact gup_self _ _ _
        have hu33s1_6 : u33s1 (m + 19) = some (.inl ((X.2 0), 4, .inl (upd man c.toNatClampNeg (nI (mvS (fun x => balM cl mem cof str pai sha sen nb c (nI x)) c.toNatClampNeg s (gps c.toNatClampNeg) ((grp, sds, gts, sms, tck, tc, 0, 0, -1) : gSt) iL33).2.2.2.2.2.1)))) := by rw [hu33s1, gup_ne (by omega)]; exact hwL33s_6
        have hu33s1_7 : u33s1 (m + 20) = some (.inl ((X.2 0), 44, .inl ((mvS (fun x => balM cl mem cof str pai sha sen nb c (nI x)) c.toNatClampNeg s (gps c.toNatClampNeg) ((grp, sds, gts, sms, tck, tc, 0, 0, -1) : gSt) iL33).2.1))) := by rw [hu33s1, gup_ne (by omega)]; exact hwL33s_7
        have hu33s1_8 : u33s1 (m + 21) = some (.inl ((X.2 0), 44, .inl ((mvS (fun x => balM cl mem cof str pai sha sen nb c (nI x)) c.toNatClampNeg s (gps c.toNatClampNeg) ((grp, sds, gts, sms, tck, tc, 0, 0, -1) : gSt) iL33).2.2.1))) := by rw [hu33s1, gup_ne (by omega)]; exact hwL33s_8
        have hu33s1_9 : u33s1 (m + 23) = some (.inl ((X.2 2), 44, .inl ((mvS (fun x => balM cl mem cof str pai sha sen nb c (nI x)) c.toNatClampNeg s (gps c.toNatClampNeg) ((grp, sds, gts, sms, tck, tc, 0, 0, -1) : gSt) iL33).2.2.2.2.1))) := by rw [hu33s1, gup_ne (by omega)]; exact hwL33s_9
        have hu33s1_10 : u33s1 (m + 15) = some (.inl ((X.2 1), 48, .inr (.inl sen))) := by rw [hu33s1, gup_ne (by omega)]; exact hwL33s_10
        have hu33s1_11 : u33s1 (m + 13) = some (.inl ((X.2 1), 768, .inr (.inl pai))) := by rw [hu33s1, gup_ne (by omega)]; exact hwL33s_11
        have hu33s1_12 : u33s1 (m + 12) = some (.inl ((X.2 1), 768, .inr (.inl sha))) := by rw [hu33s1, gup_ne (by omega)]; exact hwL33s_12
        have hu33s1_13 : u33s1 (m + 22) = some (.inl ((X.2 1), 44, .inr (.inl ((mvS (fun x => balM cl mem cof str pai sha sen nb c (nI x)) c.toNatClampNeg s (gps c.toNatClampNeg) ((grp, sds, gts, sms, tck, tc, 0, 0, -1) : gSt) iL33).2.2.2.1)))) := by rw [hu33s1, gup_ne (by omega)]; exact hwL33s_13
        refine g_lload_n C d_M_moves_139 rfl 3 rfl ?_
        refine g_aload_n C d_M_moves_140 rfl 0 rfl ?_
        refine g_iload_n C d_M_moves_141 rfl 1 rfl ?_
        refine g_iload C d_M_moves_142 5 rfl ?_
        refine g_callV 2 C (k_M_balance _ X ad u33s1 sz m 0 cl dr wy ce ra li bi mem cof str sen pai sha c (nI iL33) hu33s1_0 hu33s1_1 hu33s1_2 hu33s1_3 hu33s1_10 hu33s1_11 hu33s1_12 hcl hmem nb hnb hn64) (gmem wd_642 rfl) (gmem wd_643 rfl) (gmem wd_644 rfl) (gmem wd_4 rfl) (gmem wd_645 rfl) ⟨by decide, by decide, by decide +kernel⟩ ⟨Nat.le_of_ble_eq_true rfl, Nat.le_of_ble_eq_true rfl⟩ hu33s1_0 rfl rfl rfl (Nat.le_of_ble_eq_true rfl) d_M_moves_144 ⟨Nat.le_of_ble_eq_true rfl, Nat.le_of_ble_eq_true rfl⟩ ?_
        rintro v9 u33sb2 s9 ⟨h9, hu33sb2, hs9⟩; rw [gup_id hu33s1_0] at hu33sb2; rw [h9, hu33sb2, hs9]; clear h9 hu33sb2 hs9 v9 s9 u33sb2
        show GW Z _ _ _ ad u33s1 sz [(0, .ref (ad m)), (1, .int c), (2, .int (nI s)), (3, .long ((mvS (fun x => balM cl mem cof str pai sha sen nb c (nI x)) c.toNatClampNeg s (gps c.toNatClampNeg) ((grp, sds, gts, sms, tck, tc, 0, 0, -1) : gSt) iL33).2.2.2.2.2.2.2.1)), (5, .int ((mvS (fun x => balM cl mem cof str pai sha sen nb c (nI x)) c.toNatClampNeg s (gps c.toNatClampNeg) ((grp, sds, gts, sms, tck, tc, 0, 0, -1) : gSt) iL33).2.2.2.2.2.2.2.2)), (6, .int (nI iL33))] 0 0 147 [.long (balM cl mem cof str pai sha sen nb c (nI iL33)), .long ((mvS (fun x => balM cl mem cof str pai sha sen nb c (nI x)) c.toNatClampNeg s (gps c.toNatClampNeg) ((grp, sds, gts, sms, tck, tc, 0, 0, -1) : gSt) iL33).2.2.2.2.2.2.2.1)]
        refine g_ladd C d_M_moves_147 ?_
        refine g_topl (fun x33s148 ex33s148 => ?_)
        refine g_lstore_n C d_M_moves_148 rfl [(3, .long x33s148), (0, .ref (ad m)), (1, .int c), (2, .int (nI s)), (5, .int ((mvS (fun x => balM cl mem cof str pai sha sen nb c (nI x)) c.toNatClampNeg s (gps c.toNatClampNeg) ((grp, sds, gts, sms, tck, tc, 0, 0, -1) : gSt) iL33).2.2.2.2.2.2.2.2)), (6, .int (nI iL33))] (by decide) rfl ?_
        refine g_iload C d_M_moves_149 5 rfl ?_
        refine g_istore C d_M_moves_151 [(5, .int (nI iL33)), (3, .long x33s148), (0, .ref (ad m)), (1, .int c), (2, .int (nI s)), (6, .int (nI iL33))] (by decide) rfl ?_
        obtain ⟨x33s153, ex33s153⟩ : ∃ y : Int32, y = (nI iL33) + 1 := ⟨_, rfl⟩
        refine g_iinc (v := x33s153) C d_M_moves_153 5 rfl (by rw [ex33s153]; rfl) [(6, .int x33s153), (5, .int (nI iL33)), (3, .long x33s148), (0, .ref (ad m)), (1, .int c), (2, .int (nI s))] (by decide) rfl ?_
        refine g_goto 8 C d_M_moves_156 (by decide) ?_
        refine g_fewer (lv' := [(0, .ref (ad m)), (1, .int c), (2, .int (nI s)), (3, .long x33s148), (5, .int (nI iL33)), (6, .int x33s153)]) [3, 4, 5, 2, 1, 0] rfl ?_
        refine GW_eq (u2 := gup (gup (gup (gup (gup (gup u (m + 18) (.inl ((X.2 0), 48, .inl ((mvS (fun x => balM cl mem cof str pai sha sen nb c (nI x)) c.toNatClampNeg s (gps c.toNatClampNeg) ((grp, sds, gts, sms, tck, tc, 0, 0, -1) : gSt) (iL33 + 1)).1)))) (m + 20) (.inl ((X.2 0), 44, .inl ((mvS (fun x => balM cl mem cof str pai sha sen nb c (nI x)) c.toNatClampNeg s (gps c.toNatClampNeg) ((grp, sds, gts, sms, tck, tc, 0, 0, -1) : gSt) (iL33 + 1)).2.1)))) (m + 21) (.inl ((X.2 0), 44, .inl ((mvS (fun x => balM cl mem cof str pai sha sen nb c (nI x)) c.toNatClampNeg s (gps c.toNatClampNeg) ((grp, sds, gts, sms, tck, tc, 0, 0, -1) : gSt) (iL33 + 1)).2.2.1)))) (m + 22) (.inl ((X.2 1), 44, .inr (.inl ((mvS (fun x => balM cl mem cof str pai sha sen nb c (nI x)) c.toNatClampNeg s (gps c.toNatClampNeg) ((grp, sds, gts, sms, tck, tc, 0, 0, -1) : gSt) (iL33 + 1)).2.2.2.1))))) (m + 23) (.inl ((X.2 2), 44, .inl ((mvS (fun x => balM cl mem cof str pai sha sen nb c (nI x)) c.toNatClampNeg s (gps c.toNatClampNeg) ((grp, sds, gts, sms, tck, tc, 0, 0, -1) : gSt) (iL33 + 1)).2.2.2.2.1)))) (m + 19) (.inl ((X.2 0), 4, .inl (upd man c.toNatClampNeg (nI (mvS (fun x => balM cl mem cof str pai sha sen nb c (nI x)) c.toNatClampNeg s (gps c.toNatClampNeg) ((grp, sds, gts, sms, tck, tc, 0, 0, -1) : gSt) (iL33 + 1)).2.2.2.2.2.1))))) (lv2 := [(0, .ref (ad m)), (1, .int c), (2, .int (nI s)), (3, .long ((mvS (fun x => balM cl mem cof str pai sha sen nb c (nI x)) c.toNatClampNeg s (gps c.toNatClampNeg) ((grp, sds, gts, sms, tck, tc, 0, 0, -1) : gSt) (iL33 + 1)).2.2.2.2.2.2.2.1)), (5, .int ((mvS (fun x => balM cl mem cof str pai sha sen nb c (nI x)) c.toNatClampNeg s (gps c.toNatClampNeg) ((grp, sds, gts, sms, tck, tc, 0, 0, -1) : gSt) (iL33 + 1)).2.2.2.2.2.2.2.2)), (6, .int (nI (iL33 + 1)))]) ?_ ?_ (KL33 trivial)
        · funext k
          by_cases hk0 : k = m + 18
          · rw [hk0, hu33s1_5, gup_ne (by omega), gup_ne (by omega), gup_ne (by omega), gup_ne (by omega), gup_ne (by omega), gup_self] <;> (try (rw [mvS_n ((bit1 (s := s) (i := iL33) (by omega) (by omega)).mp c33s22) c33s28]; simp only [mgS])) <;> (try simp only [ex33s138, ex33s148, ex33s153, nI_1]) <;> (try rw [upd_upd])
          by_cases hk1 : k = m + 20
          · rw [hk1, hu33s1_7, gup_ne (by omega), gup_ne (by omega), gup_ne (by omega), gup_ne (by omega), gup_self] <;> (try (rw [mvS_n ((bit1 (s := s) (i := iL33) (by omega) (by omega)).mp c33s22) c33s28]; simp only [mgS])) <;> (try simp only [ex33s138, ex33s148, ex33s153, nI_1]) <;> (try rw [upd_upd])
          by_cases hk2 : k = m + 21
          · rw [hk2, hu33s1_8, gup_ne (by omega), gup_ne (by omega), gup_ne (by omega), gup_self] <;> (try (rw [mvS_n ((bit1 (s := s) (i := iL33) (by omega) (by omega)).mp c33s22) c33s28]; simp only [mgS])) <;> (try simp only [ex33s138, ex33s148, ex33s153, nI_1]) <;> (try rw [upd_upd])
          by_cases hk3 : k = m + 22
          · rw [hk3, hu33s1_13, gup_ne (by omega), gup_ne (by omega), gup_self] <;> (try (rw [mvS_n ((bit1 (s := s) (i := iL33) (by omega) (by omega)).mp c33s22) c33s28]; simp only [mgS])) <;> (try simp only [ex33s138, ex33s148, ex33s153, nI_1]) <;> (try rw [upd_upd])
          by_cases hk4 : k = m + 23
          · rw [hk4, hu33s1_9, gup_ne (by omega), gup_self] <;> (try (rw [mvS_n ((bit1 (s := s) (i := iL33) (by omega) (by omega)).mp c33s22) c33s28]; simp only [mgS])) <;> (try simp only [ex33s138, ex33s148, ex33s153, nI_1]) <;> (try rw [upd_upd])
          by_cases hk5 : k = m + 19
          · rw [hk5, hu33s1_6, gup_self] <;> (try (rw [mvS_n ((bit1 (s := s) (i := iL33) (by omega) (by omega)).mp c33s22) c33s28]; simp only [mgS])) <;> (try simp only [ex33s138, ex33s148, ex33s153, nI_1]) <;> (try rw [upd_upd])
          rw [hu33s1, gup_ne hk0]
          rw [hwL33s, gup_ne hk5, gup_ne hk4, gup_ne hk3, gup_ne hk2, gup_ne hk1, gup_ne hk0]
          rw [gup_ne hk5, gup_ne hk4, gup_ne hk3, gup_ne hk2, gup_ne hk1, gup_ne hk0]
        · rw [mvS_n ((bit1 (s := s) (i := iL33) (by omega) (by omega)).mp c33s22) c33s28]; simp only [mgS] <;> simp only [ex33s138, ex33s148, ex33s153, nI_1]
      · skip
        refine g_bipush (v := 11) C d_M_moves_31 (by decide) ?_
        refine g_iload_n C d_M_moves_33 rfl 1 rfl ?_
        refine g_imul C d_M_moves_34 ?_
        refine g_aload_n C d_M_moves_35 rfl 0 rfl ?_
        refine g_get m 26 C hwL33s_0 rfl i_M (by decide) (gmem wd_544 rfl) rfl rfl d_M_moves_36 ?_
        refine g_iload_n C d_M_moves_39 rfl 1 rfl ?_
        refine g_iald (m + 19) 0 C hwL33s_6 rfl hc d_M_moves_40 ?_
        rw [show upd man c.toNatClampNeg (nI (mvS (fun x => balM cl mem cof str pai sha sen nb c (nI x)) c.toNatClampNeg s (gps c.toNatClampNeg) ((grp, sds, gts, sms, tck, tc, 0, 0, -1) : gSt) iL33).2.2.2.2.2.1) c.toNatClampNeg = nI (mvS (fun x => balM cl mem cof str pai sha sen nb c (nI x)) c.toNatClampNeg s (gps c.toNatClampNeg) ((grp, sds, gts, sms, tck, tc, 0, 0, -1) : gSt) iL33).2.2.2.2.2.1 from if_pos rfl]
        refine g_iadd C d_M_moves_41 ?_
        refine g_topi (fun x33s42 ex33s42 => ?_)
        refine g_istore C d_M_moves_42 [(7, .int x33s42), (0, .ref (ad m)), (1, .int c), (2, .int (nI s)), (3, .long ((mvS (fun x => balM cl mem cof str pai sha sen nb c (nI x)) c.toNatClampNeg s (gps c.toNatClampNeg) ((grp, sds, gts, sms, tck, tc, 0, 0, -1) : gSt) iL33).2.2.2.2.2.2.2.1)), (5, .int ((mvS (fun x => balM cl mem cof str pai sha sen nb c (nI x)) c.toNatClampNeg s (gps c.toNatClampNeg) ((grp, sds, gts, sms, tck, tc, 0, 0, -1) : gSt) iL33).2.2.2.2.2.2.2.2)), (6, .int (nI iL33))] (by decide) rfl ?_
        have h11 := hok iL33 hiL33 ((bit1 (s := s) (i := iL33) (by omega) (by omega)).mp c33s22) c33s28
        have h44 : vp_in x33s42 44 ∧ x33s42.toNatClampNeg = 11 * c.toNatClampNeg + (mvS (fun x => balM cl mem cof str pai sha sen nb c (nI x)) c.toNatClampNeg s (gps c.toNatClampNeg) ((grp, sds, gts, sms, tck, tc, 0, 0, -1) : gSt) iL33).2.2.2.2.2.1 := by rw [ex33s42]; exact in11 hc h11
        refine g_aload_n C d_M_moves_44 rfl 1 rfl ?_
        refine g_get m 27 C hwL33s_0 rfl i_M (by decide) (gmem wd_545 rfl) rfl rfl d_M_moves_45 ?_
        refine g_iload C d_M_moves_48 0 rfl ?_
        refine g_lload_n C d_M_moves_50 rfl 4 rfl ?_
        refine g_lconst (v := 0) C d_M_moves_51 (by decide) ?_
        refine g_lcmp C d_M_moves_52 ?_
        refine g_if_ge 61 C d_M_moves_53 (by decide) (fun c33s53 => ?_) (fun c33s53 => ?_)
        · rw [lg_cmp_ge] at c33s53
          refine g_iload C d_M_moves_61 6 rfl ?_
          refine g_iast (m + 20) 0 C hwL33s_7 rfl h44.1 d_M_moves_63 ?_
          rw [show Int32.toNatClampNeg x33s42 = (11 * c.toNatClampNeg + (mvS (fun x => balM cl mem cof str pai sha sen nb c (nI x)) c.toNatClampNeg s (gps c.toNatClampNeg) ((grp, sds, gts, sms, tck, tc, 0, 0, -1) : gSt) iL33).2.2.2.2.2.1) from h44.2]
          obtain ⟨u33s3, hu33s3⟩ : ∃ z, z = gup wL33s (m + 20) (.inl ((X.2 0), 44, .inl (upd ((mvS (fun x => balM cl mem cof str pai sha sen nb c (nI x)) c.toNatClampNeg s (gps c.toNatClampNeg) ((grp, sds, gts, sms, tck, tc, 0, 0, -1) : gSt) iL33).2.1) (11 * c.toNatClampNeg + (mvS (fun x => balM cl mem cof str pai sha sen nb c (nI x)) c.toNatClampNeg s (gps c.toNatClampNeg) ((grp, sds, gts, sms, tck, tc, 0, 0, -1) : gSt) iL33).2.2.2.2.2.1) (nI iL33)))) := ⟨_, rfl⟩
          rw [← hu33s3]
          have hu33s3_0 : u33s3 m = some (mO ad m 0 cl dr wy ce ra li bi) := by rw [hu33s3, gup_ne (by omega)]; exact hwL33s_0
          have hu33s3_1 : u33s3 (m + 1) = some (.inl ((X.2 0), 4, .inl mem)) := by rw [hu33s3, gup_ne (by omega)]; exact hwL33s_1
          have hu33s3_2 : u33s3 (m + 9) = some (.inl ((X.2 0), 64, .inl cof)) := by rw [hu33s3, gup_ne (by omega)]; exact hwL33s_2
          have hu33s3_3 : u33s3 (m + 11) = some (.inl ((X.2 2), 64, .inl str)) := by rw [hu33s3, gup_ne (by omega)]; exact hwL33s_3
          have hu33s3_4 : u33s3 (m + 17) = some (.inl ((X.2 0), 4, .inl gps)) := by rw [hu33s3, gup_ne (by omega)]; exact hwL33s_4
          have hu33s3_5 : u33s3 (m + 18) = some (.inl ((X.2 0), 48, .inl ((mvS (fun x => balM cl mem cof str pai sha sen nb c (nI x)) c.toNatClampNeg s (gps c.toNatClampNeg) ((grp, sds, gts, sms, tck, tc, 0, 0, -1) : gSt) iL33).1))) := by rw [hu33s3, gup_ne (by omega)]; exact hwL33s_5
          have hu33s3_6 : u33s3 (m + 19) = some (.inl ((X.2 0), 4, .inl (upd man c.toNatClampNeg (nI (mvS (fun x => balM cl mem cof str pai sha sen nb c (nI x)) c.toNatClampNeg s (gps c.toNatClampNeg) ((grp, sds, gts, sms, tck, tc, 0, 0, -1) : gSt) iL33).2.2.2.2.2.1)))) := by rw [hu33s3, gup_ne (by omega)]; exact hwL33s_6
          have hu33s3_7 : u33s3 (m + 20) = some (.inl ((X.2 0), 44, .inl (upd ((mvS (fun x => balM cl mem cof str pai sha sen nb c (nI x)) c.toNatClampNeg s (gps c.toNatClampNeg) ((grp, sds, gts, sms, tck, tc, 0, 0, -1) : gSt) iL33).2.1) (11 * c.toNatClampNeg + (mvS (fun x => balM cl mem cof str pai sha sen nb c (nI x)) c.toNatClampNeg s (gps c.toNatClampNeg) ((grp, sds, gts, sms, tck, tc, 0, 0, -1) : gSt) iL33).2.2.2.2.2.1) (nI iL33)))) := by rw [hu33s3]; exact gup_self _ _ _
          have hu33s3_8 : u33s3 (m + 21) = some (.inl ((X.2 0), 44, .inl ((mvS (fun x => balM cl mem cof str pai sha sen nb c (nI x)) c.toNatClampNeg s (gps c.toNatClampNeg) ((grp, sds, gts, sms, tck, tc, 0, 0, -1) : gSt) iL33).2.2.1))) := by rw [hu33s3, gup_ne (by omega)]; exact hwL33s_8
          have hu33s3_9 : u33s3 (m + 23) = some (.inl ((X.2 2), 44, .inl ((mvS (fun x => balM cl mem cof str pai sha sen nb c (nI x)) c.toNatClampNeg s (gps c.toNatClampNeg) ((grp, sds, gts, sms, tck, tc, 0, 0, -1) : gSt) iL33).2.2.2.2.1))) := by rw [hu33s3, gup_ne (by omega)]; exact hwL33s_9
          have hu33s3_10 : u33s3 (m + 15) = some (.inl ((X.2 1), 48, .inr (.inl sen))) := by rw [hu33s3, gup_ne (by omega)]; exact hwL33s_10
          have hu33s3_11 : u33s3 (m + 13) = some (.inl ((X.2 1), 768, .inr (.inl pai))) := by rw [hu33s3, gup_ne (by omega)]; exact hwL33s_11
          have hu33s3_12 : u33s3 (m + 12) = some (.inl ((X.2 1), 768, .inr (.inl sha))) := by rw [hu33s3, gup_ne (by omega)]; exact hwL33s_12
          have hu33s3_13 : u33s3 (m + 22) = some (.inl ((X.2 1), 44, .inr (.inl ((mvS (fun x => balM cl mem cof str pai sha sen nb c (nI x)) c.toNatClampNeg s (gps c.toNatClampNeg) ((grp, sds, gts, sms, tck, tc, 0, 0, -1) : gSt) iL33).2.2.2.1)))) := by rw [hu33s3, gup_ne (by omega)]; exact hwL33s_13
          refine g_aload_n C d_M_moves_64 rfl 1 rfl ?_
          refine g_get m 28 C hu33s3_0 rfl i_M (by decide) (gmem wd_546 rfl) rfl rfl d_M_moves_65 ?_
          refine g_iload C d_M_moves_68 0 rfl ?_
          refine g_lload_n C d_M_moves_70 rfl 4 rfl ?_
          refine g_lconst (v := 0) C d_M_moves_71 (by decide) ?_
          refine g_lcmp C d_M_moves_72 ?_
          refine g_if_ge 81 C d_M_moves_73 (by decide) (fun c33s73 => ?_) (fun c33s73 => ?_)
          rotate_left
          · rw [lg_cmp_ge] at c33s73; first | exact absurd c33s53 c33s73 | exact absurd c33s73 c33s53
          clear c33s73
          refine g_iload C d_M_moves_81 5 rfl ?_
          refine g_topi (fun x33s83 ex33s83 => ?_)
          refine g_iast (m + 21) 0 C hu33s3_8 rfl h44.1 d_M_moves_83 ?_
          rw [show Int32.toNatClampNeg x33s42 = (11 * c.toNatClampNeg + (mvS (fun x => balM cl mem cof str pai sha sen nb c (nI x)) c.toNatClampNeg s (gps c.toNatClampNeg) ((grp, sds, gts, sms, tck, tc, 0, 0, -1) : gSt) iL33).2.2.2.2.2.1) from h44.2]
          obtain ⟨u33s4, hu33s4⟩ : ∃ z, z = gup u33s3 (m + 21) (.inl ((X.2 0), 44, .inl (upd ((mvS (fun x => balM cl mem cof str pai sha sen nb c (nI x)) c.toNatClampNeg s (gps c.toNatClampNeg) ((grp, sds, gts, sms, tck, tc, 0, 0, -1) : gSt) iL33).2.2.1) (11 * c.toNatClampNeg + (mvS (fun x => balM cl mem cof str pai sha sen nb c (nI x)) c.toNatClampNeg s (gps c.toNatClampNeg) ((grp, sds, gts, sms, tck, tc, 0, 0, -1) : gSt) iL33).2.2.2.2.2.1) x33s83))) := ⟨_, rfl⟩
          rw [← hu33s4]
          have hu33s4_0 : u33s4 m = some (mO ad m 0 cl dr wy ce ra li bi) := by rw [hu33s4, gup_ne (by omega)]; exact hu33s3_0
          have hu33s4_1 : u33s4 (m + 1) = some (.inl ((X.2 0), 4, .inl mem)) := by rw [hu33s4, gup_ne (by omega)]; exact hu33s3_1
          have hu33s4_2 : u33s4 (m + 9) = some (.inl ((X.2 0), 64, .inl cof)) := by rw [hu33s4, gup_ne (by omega)]; exact hu33s3_2
          have hu33s4_3 : u33s4 (m + 11) = some (.inl ((X.2 2), 64, .inl str)) := by rw [hu33s4, gup_ne (by omega)]; exact hu33s3_3
          have hu33s4_4 : u33s4 (m + 17) = some (.inl ((X.2 0), 4, .inl gps)) := by rw [hu33s4, gup_ne (by omega)]; exact hu33s3_4
          have hu33s4_5 : u33s4 (m + 18) = some (.inl ((X.2 0), 48, .inl ((mvS (fun x => balM cl mem cof str pai sha sen nb c (nI x)) c.toNatClampNeg s (gps c.toNatClampNeg) ((grp, sds, gts, sms, tck, tc, 0, 0, -1) : gSt) iL33).1))) := by rw [hu33s4, gup_ne (by omega)]; exact hu33s3_5
          have hu33s4_6 : u33s4 (m + 19) = some (.inl ((X.2 0), 4, .inl (upd man c.toNatClampNeg (nI (mvS (fun x => balM cl mem cof str pai sha sen nb c (nI x)) c.toNatClampNeg s (gps c.toNatClampNeg) ((grp, sds, gts, sms, tck, tc, 0, 0, -1) : gSt) iL33).2.2.2.2.2.1)))) := by rw [hu33s4, gup_ne (by omega)]; exact hu33s3_6
          have hu33s4_7 : u33s4 (m + 20) = some (.inl ((X.2 0), 44, .inl (upd ((mvS (fun x => balM cl mem cof str pai sha sen nb c (nI x)) c.toNatClampNeg s (gps c.toNatClampNeg) ((grp, sds, gts, sms, tck, tc, 0, 0, -1) : gSt) iL33).2.1) (11 * c.toNatClampNeg + (mvS (fun x => balM cl mem cof str pai sha sen nb c (nI x)) c.toNatClampNeg s (gps c.toNatClampNeg) ((grp, sds, gts, sms, tck, tc, 0, 0, -1) : gSt) iL33).2.2.2.2.2.1) (nI iL33)))) := by rw [hu33s4, gup_ne (by omega)]; exact hu33s3_7
          have hu33s4_8 : u33s4 (m + 21) = some (.inl ((X.2 0), 44, .inl (upd ((mvS (fun x => balM cl mem cof str pai sha sen nb c (nI x)) c.toNatClampNeg s (gps c.toNatClampNeg) ((grp, sds, gts, sms, tck, tc, 0, 0, -1) : gSt) iL33).2.2.1) (11 * c.toNatClampNeg + (mvS (fun x => balM cl mem cof str pai sha sen nb c (nI x)) c.toNatClampNeg s (gps c.toNatClampNeg) ((grp, sds, gts, sms, tck, tc, 0, 0, -1) : gSt) iL33).2.2.2.2.2.1) x33s83))) := by rw [hu33s4]; exact gup_self _ _ _
          have hu33s4_9 : u33s4 (m + 23) = some (.inl ((X.2 2), 44, .inl ((mvS (fun x => balM cl mem cof str pai sha sen nb c (nI x)) c.toNatClampNeg s (gps c.toNatClampNeg) ((grp, sds, gts, sms, tck, tc, 0, 0, -1) : gSt) iL33).2.2.2.2.1))) := by rw [hu33s4, gup_ne (by omega)]; exact hu33s3_9
          have hu33s4_10 : u33s4 (m + 15) = some (.inl ((X.2 1), 48, .inr (.inl sen))) := by rw [hu33s4, gup_ne (by omega)]; exact hu33s3_10
          have hu33s4_11 : u33s4 (m + 13) = some (.inl ((X.2 1), 768, .inr (.inl pai))) := by rw [hu33s4, gup_ne (by omega)]; exact hu33s3_11
          have hu33s4_12 : u33s4 (m + 12) = some (.inl ((X.2 1), 768, .inr (.inl sha))) := by rw [hu33s4, gup_ne (by omega)]; exact hu33s3_12
          have hu33s4_13 : u33s4 (m + 22) = some (.inl ((X.2 1), 44, .inr (.inl ((mvS (fun x => balM cl mem cof str pai sha sen nb c (nI x)) c.toNatClampNeg s (gps c.toNatClampNeg) ((grp, sds, gts, sms, tck, tc, 0, 0, -1) : gSt) iL33).2.2.2.1)))) := by rw [hu33s4, gup_ne (by omega)]; exact hu33s3_13
          refine g_aload_n C d_M_moves_84 rfl 1 rfl ?_
          refine g_get m 29 C hu33s4_0 rfl i_M (by decide) (gmem wd_547 rfl) rfl rfl d_M_moves_85 ?_
          refine g_iload C d_M_moves_88 0 rfl ?_
          refine g_lload_n C d_M_moves_90 rfl 4 rfl ?_
          refine g_lconst (v := 0) C d_M_moves_91 (by decide) ?_
          refine g_lcmp C d_M_moves_92 ?_
          refine g_if_ge 101 C d_M_moves_93 (by decide) (fun c33s93 => ?_) (fun c33s93 => ?_)
          rotate_left
          · rw [lg_cmp_ge] at c33s93; first | exact absurd c33s53 c33s93 | exact absurd c33s93 c33s53
          clear c33s93
          refine g_lload_n C d_M_moves_101 rfl 4 rfl ?_
          refine g_topl (fun x33s102 ex33s102 => ?_)
          refine g_last (m + 22) 1 C hu33s4_13 rfl h44.1 d_M_moves_102 ?_
          rw [show Int32.toNatClampNeg x33s42 = (11 * c.toNatClampNeg + (mvS (fun x => balM cl mem cof str pai sha sen nb c (nI x)) c.toNatClampNeg s (gps c.toNatClampNeg) ((grp, sds, gts, sms, tck, tc, 0, 0, -1) : gSt) iL33).2.2.2.2.2.1) from h44.2]
          obtain ⟨u33s5, hu33s5⟩ : ∃ z, z = gup u33s4 (m + 22) (.inl ((X.2 1), 44, .inr (.inl (vp_updL ((mvS (fun x => balM cl mem cof str pai sha sen nb c (nI x)) c.toNatClampNeg s (gps c.toNatClampNeg) ((grp, sds, gts, sms, tck, tc, 0, 0, -1) : gSt) iL33).2.2.2.1) (11 * c.toNatClampNeg + (mvS (fun x => balM cl mem cof str pai sha sen nb c (nI x)) c.toNatClampNeg s (gps c.toNatClampNeg) ((grp, sds, gts, sms, tck, tc, 0, 0, -1) : gSt) iL33).2.2.2.2.2.1) x33s102)))) := ⟨_, rfl⟩
          rw [← hu33s5]
          have hu33s5_0 : u33s5 m = some (mO ad m 0 cl dr wy ce ra li bi) := by rw [hu33s5, gup_ne (by omega)]; exact hu33s4_0
          have hu33s5_1 : u33s5 (m + 1) = some (.inl ((X.2 0), 4, .inl mem)) := by rw [hu33s5, gup_ne (by omega)]; exact hu33s4_1
          have hu33s5_2 : u33s5 (m + 9) = some (.inl ((X.2 0), 64, .inl cof)) := by rw [hu33s5, gup_ne (by omega)]; exact hu33s4_2
          have hu33s5_3 : u33s5 (m + 11) = some (.inl ((X.2 2), 64, .inl str)) := by rw [hu33s5, gup_ne (by omega)]; exact hu33s4_3
          have hu33s5_4 : u33s5 (m + 17) = some (.inl ((X.2 0), 4, .inl gps)) := by rw [hu33s5, gup_ne (by omega)]; exact hu33s4_4
          have hu33s5_5 : u33s5 (m + 18) = some (.inl ((X.2 0), 48, .inl ((mvS (fun x => balM cl mem cof str pai sha sen nb c (nI x)) c.toNatClampNeg s (gps c.toNatClampNeg) ((grp, sds, gts, sms, tck, tc, 0, 0, -1) : gSt) iL33).1))) := by rw [hu33s5, gup_ne (by omega)]; exact hu33s4_5
          have hu33s5_6 : u33s5 (m + 19) = some (.inl ((X.2 0), 4, .inl (upd man c.toNatClampNeg (nI (mvS (fun x => balM cl mem cof str pai sha sen nb c (nI x)) c.toNatClampNeg s (gps c.toNatClampNeg) ((grp, sds, gts, sms, tck, tc, 0, 0, -1) : gSt) iL33).2.2.2.2.2.1)))) := by rw [hu33s5, gup_ne (by omega)]; exact hu33s4_6
          have hu33s5_7 : u33s5 (m + 20) = some (.inl ((X.2 0), 44, .inl (upd ((mvS (fun x => balM cl mem cof str pai sha sen nb c (nI x)) c.toNatClampNeg s (gps c.toNatClampNeg) ((grp, sds, gts, sms, tck, tc, 0, 0, -1) : gSt) iL33).2.1) (11 * c.toNatClampNeg + (mvS (fun x => balM cl mem cof str pai sha sen nb c (nI x)) c.toNatClampNeg s (gps c.toNatClampNeg) ((grp, sds, gts, sms, tck, tc, 0, 0, -1) : gSt) iL33).2.2.2.2.2.1) (nI iL33)))) := by rw [hu33s5, gup_ne (by omega)]; exact hu33s4_7
          have hu33s5_8 : u33s5 (m + 21) = some (.inl ((X.2 0), 44, .inl (upd ((mvS (fun x => balM cl mem cof str pai sha sen nb c (nI x)) c.toNatClampNeg s (gps c.toNatClampNeg) ((grp, sds, gts, sms, tck, tc, 0, 0, -1) : gSt) iL33).2.2.1) (11 * c.toNatClampNeg + (mvS (fun x => balM cl mem cof str pai sha sen nb c (nI x)) c.toNatClampNeg s (gps c.toNatClampNeg) ((grp, sds, gts, sms, tck, tc, 0, 0, -1) : gSt) iL33).2.2.2.2.2.1) x33s83))) := by rw [hu33s5, gup_ne (by omega)]; exact hu33s4_8
          have hu33s5_9 : u33s5 (m + 23) = some (.inl ((X.2 2), 44, .inl ((mvS (fun x => balM cl mem cof str pai sha sen nb c (nI x)) c.toNatClampNeg s (gps c.toNatClampNeg) ((grp, sds, gts, sms, tck, tc, 0, 0, -1) : gSt) iL33).2.2.2.2.1))) := by rw [hu33s5, gup_ne (by omega)]; exact hu33s4_9
          have hu33s5_10 : u33s5 (m + 15) = some (.inl ((X.2 1), 48, .inr (.inl sen))) := by rw [hu33s5, gup_ne (by omega)]; exact hu33s4_10
          have hu33s5_11 : u33s5 (m + 13) = some (.inl ((X.2 1), 768, .inr (.inl pai))) := by rw [hu33s5, gup_ne (by omega)]; exact hu33s4_11
          have hu33s5_12 : u33s5 (m + 12) = some (.inl ((X.2 1), 768, .inr (.inl sha))) := by rw [hu33s5, gup_ne (by omega)]; exact hu33s4_12
          have hu33s5_13 : u33s5 (m + 22) = some (.inl ((X.2 1), 44, .inr (.inl (vp_updL ((mvS (fun x => balM cl mem cof str pai sha sen nb c (nI x)) c.toNatClampNeg s (gps c.toNatClampNeg) ((grp, sds, gts, sms, tck, tc, 0, 0, -1) : gSt) iL33).2.2.2.1) (11 * c.toNatClampNeg + (mvS (fun x => balM cl mem cof str pai sha sen nb c (nI x)) c.toNatClampNeg s (gps c.toNatClampNeg) ((grp, sds, gts, sms, tck, tc, 0, 0, -1) : gSt) iL33).2.2.2.2.2.1) x33s102)))) := by rw [hu33s5]; exact gup_self _ _ _
          refine g_aload_n C d_M_moves_103 rfl 1 rfl ?_
          refine g_get m 30 C hu33s5_0 rfl i_M (by decide) (gmem wd_548 rfl) rfl rfl d_M_moves_104 ?_
          refine g_iload C d_M_moves_107 0 rfl ?_
          refine g_iconst (v := 0) C d_M_moves_109 (by decide) ?_
          refine g_zast (m + 23) 2 C hu33s5_9 rfl h44.1 d_M_moves_110 ?_
          rw [show Int32.toNatClampNeg x33s42 = (11 * c.toNatClampNeg + (mvS (fun x => balM cl mem cof str pai sha sen nb c (nI x)) c.toNatClampNeg s (gps c.toNatClampNeg) ((grp, sds, gts, sms, tck, tc, 0, 0, -1) : gSt) iL33).2.2.2.2.2.1) from h44.2]
          rw [show vp_nar .boolean 0 = 0 from rfl]
          obtain ⟨u33s6, hu33s6⟩ : ∃ z, z = gup u33s5 (m + 23) (.inl ((X.2 2), 44, .inl (upd ((mvS (fun x => balM cl mem cof str pai sha sen nb c (nI x)) c.toNatClampNeg s (gps c.toNatClampNeg) ((grp, sds, gts, sms, tck, tc, 0, 0, -1) : gSt) iL33).2.2.2.2.1) (11 * c.toNatClampNeg + (mvS (fun x => balM cl mem cof str pai sha sen nb c (nI x)) c.toNatClampNeg s (gps c.toNatClampNeg) ((grp, sds, gts, sms, tck, tc, 0, 0, -1) : gSt) iL33).2.2.2.2.2.1) 0))) := ⟨_, rfl⟩
          rw [← hu33s6]
          have hu33s6_0 : u33s6 m = some (mO ad m 0 cl dr wy ce ra li bi) := by rw [hu33s6, gup_ne (by omega)]; exact hu33s5_0
          have hu33s6_1 : u33s6 (m + 1) = some (.inl ((X.2 0), 4, .inl mem)) := by rw [hu33s6, gup_ne (by omega)]; exact hu33s5_1
          have hu33s6_2 : u33s6 (m + 9) = some (.inl ((X.2 0), 64, .inl cof)) := by rw [hu33s6, gup_ne (by omega)]; exact hu33s5_2
          have hu33s6_3 : u33s6 (m + 11) = some (.inl ((X.2 2), 64, .inl str)) := by rw [hu33s6, gup_ne (by omega)]; exact hu33s5_3
          have hu33s6_4 : u33s6 (m + 17) = some (.inl ((X.2 0), 4, .inl gps)) := by rw [hu33s6, gup_ne (by omega)]; exact hu33s5_4
          have hu33s6_5 : u33s6 (m + 18) = some (.inl ((X.2 0), 48, .inl ((mvS (fun x => balM cl mem cof str pai sha sen nb c (nI x)) c.toNatClampNeg s (gps c.toNatClampNeg) ((grp, sds, gts, sms, tck, tc, 0, 0, -1) : gSt) iL33).1))) := by rw [hu33s6, gup_ne (by omega)]; exact hu33s5_5
          have hu33s6_6 : u33s6 (m + 19) = some (.inl ((X.2 0), 4, .inl (upd man c.toNatClampNeg (nI (mvS (fun x => balM cl mem cof str pai sha sen nb c (nI x)) c.toNatClampNeg s (gps c.toNatClampNeg) ((grp, sds, gts, sms, tck, tc, 0, 0, -1) : gSt) iL33).2.2.2.2.2.1)))) := by rw [hu33s6, gup_ne (by omega)]; exact hu33s5_6
          have hu33s6_7 : u33s6 (m + 20) = some (.inl ((X.2 0), 44, .inl (upd ((mvS (fun x => balM cl mem cof str pai sha sen nb c (nI x)) c.toNatClampNeg s (gps c.toNatClampNeg) ((grp, sds, gts, sms, tck, tc, 0, 0, -1) : gSt) iL33).2.1) (11 * c.toNatClampNeg + (mvS (fun x => balM cl mem cof str pai sha sen nb c (nI x)) c.toNatClampNeg s (gps c.toNatClampNeg) ((grp, sds, gts, sms, tck, tc, 0, 0, -1) : gSt) iL33).2.2.2.2.2.1) (nI iL33)))) := by rw [hu33s6, gup_ne (by omega)]; exact hu33s5_7
          have hu33s6_8 : u33s6 (m + 21) = some (.inl ((X.2 0), 44, .inl (upd ((mvS (fun x => balM cl mem cof str pai sha sen nb c (nI x)) c.toNatClampNeg s (gps c.toNatClampNeg) ((grp, sds, gts, sms, tck, tc, 0, 0, -1) : gSt) iL33).2.2.1) (11 * c.toNatClampNeg + (mvS (fun x => balM cl mem cof str pai sha sen nb c (nI x)) c.toNatClampNeg s (gps c.toNatClampNeg) ((grp, sds, gts, sms, tck, tc, 0, 0, -1) : gSt) iL33).2.2.2.2.2.1) x33s83))) := by rw [hu33s6, gup_ne (by omega)]; exact hu33s5_8
          have hu33s6_9 : u33s6 (m + 23) = some (.inl ((X.2 2), 44, .inl (upd ((mvS (fun x => balM cl mem cof str pai sha sen nb c (nI x)) c.toNatClampNeg s (gps c.toNatClampNeg) ((grp, sds, gts, sms, tck, tc, 0, 0, -1) : gSt) iL33).2.2.2.2.1) (11 * c.toNatClampNeg + (mvS (fun x => balM cl mem cof str pai sha sen nb c (nI x)) c.toNatClampNeg s (gps c.toNatClampNeg) ((grp, sds, gts, sms, tck, tc, 0, 0, -1) : gSt) iL33).2.2.2.2.2.1) 0))) := by rw [hu33s6]; exact gup_self _ _ _
          have hu33s6_10 : u33s6 (m + 15) = some (.inl ((X.2 1), 48, .inr (.inl sen))) := by rw [hu33s6, gup_ne (by omega)]; exact hu33s5_10
          have hu33s6_11 : u33s6 (m + 13) = some (.inl ((X.2 1), 768, .inr (.inl pai))) := by rw [hu33s6, gup_ne (by omega)]; exact hu33s5_11
          have hu33s6_12 : u33s6 (m + 12) = some (.inl ((X.2 1), 768, .inr (.inl sha))) := by rw [hu33s6, gup_ne (by omega)]; exact hu33s5_12
          have hu33s6_13 : u33s6 (m + 22) = some (.inl ((X.2 1), 44, .inr (.inl (vp_updL ((mvS (fun x => balM cl mem cof str pai sha sen nb c (nI x)) c.toNatClampNeg s (gps c.toNatClampNeg) ((grp, sds, gts, sms, tck, tc, 0, 0, -1) : gSt) iL33).2.2.2.1) (11 * c.toNatClampNeg + (mvS (fun x => balM cl mem cof str pai sha sen nb c (nI x)) c.toNatClampNeg s (gps c.toNatClampNeg) ((grp, sds, gts, sms, tck, tc, 0, 0, -1) : gSt) iL33).2.2.2.2.2.1) x33s102)))) := by rw [hu33s6, gup_ne (by omega)]; exact hu33s5_13
          refine g_aload_n C d_M_moves_111 rfl 1 rfl ?_
          refine g_get m 26 C hu33s6_0 rfl i_M (by decide) (gmem wd_544 rfl) rfl rfl d_M_moves_112 ?_
          refine g_iload_n C d_M_moves_115 rfl 2 rfl ?_
          refine g_dup2_11 C d_M_moves_116 rfl rfl ?_
          refine g_iald (m + 19) 0 C hu33s6_6 rfl hc d_M_moves_117 ?_
          rw [show upd man c.toNatClampNeg (nI (mvS (fun x => balM cl mem cof str pai sha sen nb c (nI x)) c.toNatClampNeg s (gps c.toNatClampNeg) ((grp, sds, gts, sms, tck, tc, 0, 0, -1) : gSt) iL33).2.2.2.2.2.1) c.toNatClampNeg = nI (mvS (fun x => balM cl mem cof str pai sha sen nb c (nI x)) c.toNatClampNeg s (gps c.toNatClampNeg) ((grp, sds, gts, sms, tck, tc, 0, 0, -1) : gSt) iL33).2.2.2.2.2.1 from if_pos rfl]
          refine g_iconst (v := 1) C d_M_moves_118 (by decide) ?_
          refine g_iadd C d_M_moves_119 ?_
          refine g_topi (fun x33s120 ex33s120 => ?_)
          refine g_iast (m + 19) 0 C hu33s6_6 rfl hc d_M_moves_120 ?_
          obtain ⟨u33s7, hu33s7⟩ : ∃ z, z = gup u33s6 (m + 19) (.inl ((X.2 0), 4, .inl (upd (upd man c.toNatClampNeg (nI (mvS (fun x => balM cl mem cof str pai sha sen nb c (nI x)) c.toNatClampNeg s (gps c.toNatClampNeg) ((grp, sds, gts, sms, tck, tc, 0, 0, -1) : gSt) iL33).2.2.2.2.2.1)) (Int32.toNatClampNeg c) x33s120))) := ⟨_, rfl⟩
          rw [← hu33s7]
          have hu33s7_0 : u33s7 m = some (mO ad m 0 cl dr wy ce ra li bi) := by rw [hu33s7, gup_ne (by omega)]; exact hu33s6_0
          have hu33s7_1 : u33s7 (m + 1) = some (.inl ((X.2 0), 4, .inl mem)) := by rw [hu33s7, gup_ne (by omega)]; exact hu33s6_1
          have hu33s7_2 : u33s7 (m + 9) = some (.inl ((X.2 0), 64, .inl cof)) := by rw [hu33s7, gup_ne (by omega)]; exact hu33s6_2
          have hu33s7_3 : u33s7 (m + 11) = some (.inl ((X.2 2), 64, .inl str)) := by rw [hu33s7, gup_ne (by omega)]; exact hu33s6_3
          have hu33s7_4 : u33s7 (m + 17) = some (.inl ((X.2 0), 4, .inl gps)) := by rw [hu33s7, gup_ne (by omega)]; exact hu33s6_4
          have hu33s7_5 : u33s7 (m + 18) = some (.inl ((X.2 0), 48, .inl ((mvS (fun x => balM cl mem cof str pai sha sen nb c (nI x)) c.toNatClampNeg s (gps c.toNatClampNeg) ((grp, sds, gts, sms, tck, tc, 0, 0, -1) : gSt) iL33).1))) := by rw [hu33s7, gup_ne (by omega)]; exact hu33s6_5
          have hu33s7_6 : u33s7 (m + 19) = some (.inl ((X.2 0), 4, .inl (upd (upd man c.toNatClampNeg (nI (mvS (fun x => balM cl mem cof str pai sha sen nb c (nI x)) c.toNatClampNeg s (gps c.toNatClampNeg) ((grp, sds, gts, sms, tck, tc, 0, 0, -1) : gSt) iL33).2.2.2.2.2.1)) (Int32.toNatClampNeg c) x33s120))) := by rw [hu33s7]; exact gup_self _ _ _
          have hu33s7_7 : u33s7 (m + 20) = some (.inl ((X.2 0), 44, .inl (upd ((mvS (fun x => balM cl mem cof str pai sha sen nb c (nI x)) c.toNatClampNeg s (gps c.toNatClampNeg) ((grp, sds, gts, sms, tck, tc, 0, 0, -1) : gSt) iL33).2.1) (11 * c.toNatClampNeg + (mvS (fun x => balM cl mem cof str pai sha sen nb c (nI x)) c.toNatClampNeg s (gps c.toNatClampNeg) ((grp, sds, gts, sms, tck, tc, 0, 0, -1) : gSt) iL33).2.2.2.2.2.1) (nI iL33)))) := by rw [hu33s7, gup_ne (by omega)]; exact hu33s6_7
          have hu33s7_8 : u33s7 (m + 21) = some (.inl ((X.2 0), 44, .inl (upd ((mvS (fun x => balM cl mem cof str pai sha sen nb c (nI x)) c.toNatClampNeg s (gps c.toNatClampNeg) ((grp, sds, gts, sms, tck, tc, 0, 0, -1) : gSt) iL33).2.2.1) (11 * c.toNatClampNeg + (mvS (fun x => balM cl mem cof str pai sha sen nb c (nI x)) c.toNatClampNeg s (gps c.toNatClampNeg) ((grp, sds, gts, sms, tck, tc, 0, 0, -1) : gSt) iL33).2.2.2.2.2.1) x33s83))) := by rw [hu33s7, gup_ne (by omega)]; exact hu33s6_8
          have hu33s7_9 : u33s7 (m + 23) = some (.inl ((X.2 2), 44, .inl (upd ((mvS (fun x => balM cl mem cof str pai sha sen nb c (nI x)) c.toNatClampNeg s (gps c.toNatClampNeg) ((grp, sds, gts, sms, tck, tc, 0, 0, -1) : gSt) iL33).2.2.2.2.1) (11 * c.toNatClampNeg + (mvS (fun x => balM cl mem cof str pai sha sen nb c (nI x)) c.toNatClampNeg s (gps c.toNatClampNeg) ((grp, sds, gts, sms, tck, tc, 0, 0, -1) : gSt) iL33).2.2.2.2.2.1) 0))) := by rw [hu33s7, gup_ne (by omega)]; exact hu33s6_9
          have hu33s7_10 : u33s7 (m + 15) = some (.inl ((X.2 1), 48, .inr (.inl sen))) := by rw [hu33s7, gup_ne (by omega)]; exact hu33s6_10
          have hu33s7_11 : u33s7 (m + 13) = some (.inl ((X.2 1), 768, .inr (.inl pai))) := by rw [hu33s7, gup_ne (by omega)]; exact hu33s6_11
          have hu33s7_12 : u33s7 (m + 12) = some (.inl ((X.2 1), 768, .inr (.inl sha))) := by rw [hu33s7, gup_ne (by omega)]; exact hu33s6_12
          have hu33s7_13 : u33s7 (m + 22) = some (.inl ((X.2 1), 44, .inr (.inl (vp_updL ((mvS (fun x => balM cl mem cof str pai sha sen nb c (nI x)) c.toNatClampNeg s (gps c.toNatClampNeg) ((grp, sds, gts, sms, tck, tc, 0, 0, -1) : gSt) iL33).2.2.2.1) (11 * c.toNatClampNeg + (mvS (fun x => balM cl mem cof str pai sha sen nb c (nI x)) c.toNatClampNeg s (gps c.toNatClampNeg) ((grp, sds, gts, sms, tck, tc, 0, 0, -1) : gSt) iL33).2.2.2.2.2.1) x33s102)))) := by rw [hu33s7, gup_ne (by omega)]; exact hu33s6_13
          refine g_aload_n C d_M_moves_121 rfl 1 rfl ?_
          refine g_get m 25 C hu33s7_0 rfl i_M (by decide) (gmem wd_543 rfl) rfl rfl d_M_moves_122 ?_
          refine g_bipush (v := 12) C d_M_moves_125 (by decide) ?_
          refine g_iload_n C d_M_moves_127 rfl 2 rfl ?_
          refine g_imul C d_M_moves_128 ?_
          refine g_iload C d_M_moves_129 6 rfl ?_
          refine g_iadd C d_M_moves_131 ?_
          refine g_aload_n C d_M_moves_132 rfl 1 rfl ?_
          refine g_get m 24 C hu33s7_0 rfl i_M (by decide) (gmem wd_542 rfl) rfl rfl d_M_moves_133 ?_
          refine g_iload_n C d_M_moves_136 rfl 2 rfl ?_
          refine g_iald (m + 17) 0 C hu33s7_4 rfl hc d_M_moves_137 ?_
          refine g_topi (fun x33s138 ex33s138 => ?_)
          refine g_iast (m + 18) 0 C hu33s7_5 rfl (in48i hc hiL33).1 d_M_moves_138 ?_
          rw [show Int32.toNatClampNeg ((12 * c) + (nI iL33)) = (12 * c.toNatClampNeg + iL33) from (in48i hc hiL33).2]
          obtain ⟨u33s8, hu33s8⟩ : ∃ z, z = gup u33s7 (m + 18) (.inl ((X.2 0), 48, .inl (upd ((mvS (fun x => balM cl mem cof str pai sha sen nb c (nI x)) c.toNatClampNeg s (gps c.toNatClampNeg) ((grp, sds, gts, sms, tck, tc, 0, 0, -1) : gSt) iL33).1) (12 * c.toNatClampNeg + iL33) x33s138))) := ⟨_, rfl⟩
          rw [← hu33s8]
          have hu33s8_0 : u33s8 m = some (mO ad m 0 cl dr wy ce ra li bi) := by rw [hu33s8, gup_ne (by omega)]; exact hu33s7_0
          have hu33s8_1 : u33s8 (m + 1) = some (.inl ((X.2 0), 4, .inl mem)) := by rw [hu33s8, gup_ne (by omega)]; exact hu33s7_1
          have hu33s8_2 : u33s8 (m + 9) = some (.inl ((X.2 0), 64, .inl cof)) := by rw [hu33s8, gup_ne (by omega)]; exact hu33s7_2
          have hu33s8_3 : u33s8 (m + 11) = some (.inl ((X.2 2), 64, .inl str)) := by rw [hu33s8, gup_ne (by omega)]; exact hu33s7_3
          have hu33s8_4 : u33s8 (m + 17) = some (.inl ((X.2 0), 4, .inl gps)) := by rw [hu33s8, gup_ne (by omega)]; exact hu33s7_4
          have hu33s8_5 : u33s8 (m + 18) = some (.inl ((X.2 0), 48, .inl (upd ((mvS (fun x => balM cl mem cof str pai sha sen nb c (nI x)) c.toNatClampNeg s (gps c.toNatClampNeg) ((grp, sds, gts, sms, tck, tc, 0, 0, -1) : gSt) iL33).1) (12 * c.toNatClampNeg + iL33) x33s138))) := by rw [hu33s8]; exact gup_self _ _ _
          have hu33s8_6 : u33s8 (m + 19) = some (.inl ((X.2 0), 4, .inl (upd (upd man c.toNatClampNeg (nI (mvS (fun x => balM cl mem cof str pai sha sen nb c (nI x)) c.toNatClampNeg s (gps c.toNatClampNeg) ((grp, sds, gts, sms, tck, tc, 0, 0, -1) : gSt) iL33).2.2.2.2.2.1)) (Int32.toNatClampNeg c) x33s120))) := by rw [hu33s8, gup_ne (by omega)]; exact hu33s7_6
          have hu33s8_7 : u33s8 (m + 20) = some (.inl ((X.2 0), 44, .inl (upd ((mvS (fun x => balM cl mem cof str pai sha sen nb c (nI x)) c.toNatClampNeg s (gps c.toNatClampNeg) ((grp, sds, gts, sms, tck, tc, 0, 0, -1) : gSt) iL33).2.1) (11 * c.toNatClampNeg + (mvS (fun x => balM cl mem cof str pai sha sen nb c (nI x)) c.toNatClampNeg s (gps c.toNatClampNeg) ((grp, sds, gts, sms, tck, tc, 0, 0, -1) : gSt) iL33).2.2.2.2.2.1) (nI iL33)))) := by rw [hu33s8, gup_ne (by omega)]; exact hu33s7_7
          have hu33s8_8 : u33s8 (m + 21) = some (.inl ((X.2 0), 44, .inl (upd ((mvS (fun x => balM cl mem cof str pai sha sen nb c (nI x)) c.toNatClampNeg s (gps c.toNatClampNeg) ((grp, sds, gts, sms, tck, tc, 0, 0, -1) : gSt) iL33).2.2.1) (11 * c.toNatClampNeg + (mvS (fun x => balM cl mem cof str pai sha sen nb c (nI x)) c.toNatClampNeg s (gps c.toNatClampNeg) ((grp, sds, gts, sms, tck, tc, 0, 0, -1) : gSt) iL33).2.2.2.2.2.1) x33s83))) := by rw [hu33s8, gup_ne (by omega)]; exact hu33s7_8
          have hu33s8_9 : u33s8 (m + 23) = some (.inl ((X.2 2), 44, .inl (upd ((mvS (fun x => balM cl mem cof str pai sha sen nb c (nI x)) c.toNatClampNeg s (gps c.toNatClampNeg) ((grp, sds, gts, sms, tck, tc, 0, 0, -1) : gSt) iL33).2.2.2.2.1) (11 * c.toNatClampNeg + (mvS (fun x => balM cl mem cof str pai sha sen nb c (nI x)) c.toNatClampNeg s (gps c.toNatClampNeg) ((grp, sds, gts, sms, tck, tc, 0, 0, -1) : gSt) iL33).2.2.2.2.2.1) 0))) := by rw [hu33s8, gup_ne (by omega)]; exact hu33s7_9
          have hu33s8_10 : u33s8 (m + 15) = some (.inl ((X.2 1), 48, .inr (.inl sen))) := by rw [hu33s8, gup_ne (by omega)]; exact hu33s7_10
          have hu33s8_11 : u33s8 (m + 13) = some (.inl ((X.2 1), 768, .inr (.inl pai))) := by rw [hu33s8, gup_ne (by omega)]; exact hu33s7_11
          have hu33s8_12 : u33s8 (m + 12) = some (.inl ((X.2 1), 768, .inr (.inl sha))) := by rw [hu33s8, gup_ne (by omega)]; exact hu33s7_12
          have hu33s8_13 : u33s8 (m + 22) = some (.inl ((X.2 1), 44, .inr (.inl (vp_updL ((mvS (fun x => balM cl mem cof str pai sha sen nb c (nI x)) c.toNatClampNeg s (gps c.toNatClampNeg) ((grp, sds, gts, sms, tck, tc, 0, 0, -1) : gSt) iL33).2.2.2.1) (11 * c.toNatClampNeg + (mvS (fun x => balM cl mem cof str pai sha sen nb c (nI x)) c.toNatClampNeg s (gps c.toNatClampNeg) ((grp, sds, gts, sms, tck, tc, 0, 0, -1) : gSt) iL33).2.2.2.2.2.1) x33s102)))) := by rw [hu33s8, gup_ne (by omega)]; exact hu33s7_13
          refine g_lload_n C d_M_moves_139 rfl 4 rfl ?_
          refine g_aload_n C d_M_moves_140 rfl 1 rfl ?_
          refine g_iload_n C d_M_moves_141 rfl 2 rfl ?_
          refine g_iload C d_M_moves_142 6 rfl ?_
          refine g_callV 2 C (k_M_balance _ X ad u33s8 sz m 0 cl dr wy ce ra li bi mem cof str sen pai sha c (nI iL33) hu33s8_0 hu33s8_1 hu33s8_2 hu33s8_3 hu33s8_10 hu33s8_11 hu33s8_12 hcl hmem nb hnb hn64) (gmem wd_642 rfl) (gmem wd_643 rfl) (gmem wd_644 rfl) (gmem wd_4 rfl) (gmem wd_645 rfl) ⟨by decide, by decide, by decide +kernel⟩ ⟨Nat.le_of_ble_eq_true rfl, Nat.le_of_ble_eq_true rfl⟩ hu33s8_0 rfl rfl rfl (Nat.le_of_ble_eq_true rfl) d_M_moves_144 ⟨Nat.le_of_ble_eq_true rfl, Nat.le_of_ble_eq_true rfl⟩ ?_
          rintro v9 u33sb9 s9 ⟨h9, hu33sb9, hs9⟩; rw [gup_id hu33s8_0] at hu33sb9; rw [h9, hu33sb9, hs9]; clear h9 hu33sb9 hs9 v9 s9 u33sb9
          show GW Z _ _ _ ad u33s8 sz [(7, .int x33s42), (0, .ref (ad m)), (1, .int c), (2, .int (nI s)), (3, .long ((mvS (fun x => balM cl mem cof str pai sha sen nb c (nI x)) c.toNatClampNeg s (gps c.toNatClampNeg) ((grp, sds, gts, sms, tck, tc, 0, 0, -1) : gSt) iL33).2.2.2.2.2.2.2.1)), (5, .int ((mvS (fun x => balM cl mem cof str pai sha sen nb c (nI x)) c.toNatClampNeg s (gps c.toNatClampNeg) ((grp, sds, gts, sms, tck, tc, 0, 0, -1) : gSt) iL33).2.2.2.2.2.2.2.2)), (6, .int (nI iL33))] 0 0 147 [.long (balM cl mem cof str pai sha sen nb c (nI iL33)), .long ((mvS (fun x => balM cl mem cof str pai sha sen nb c (nI x)) c.toNatClampNeg s (gps c.toNatClampNeg) ((grp, sds, gts, sms, tck, tc, 0, 0, -1) : gSt) iL33).2.2.2.2.2.2.2.1)]
          refine g_ladd C d_M_moves_147 ?_
          refine g_topl (fun x33s148 ex33s148 => ?_)
          refine g_lstore_n C d_M_moves_148 rfl [(3, .long x33s148), (7, .int x33s42), (0, .ref (ad m)), (1, .int c), (2, .int (nI s)), (5, .int ((mvS (fun x => balM cl mem cof str pai sha sen nb c (nI x)) c.toNatClampNeg s (gps c.toNatClampNeg) ((grp, sds, gts, sms, tck, tc, 0, 0, -1) : gSt) iL33).2.2.2.2.2.2.2.2)), (6, .int (nI iL33))] (by decide) rfl ?_
          refine g_iload C d_M_moves_149 6 rfl ?_
          refine g_istore C d_M_moves_151 [(5, .int (nI iL33)), (3, .long x33s148), (7, .int x33s42), (0, .ref (ad m)), (1, .int c), (2, .int (nI s)), (6, .int (nI iL33))] (by decide) rfl ?_
          obtain ⟨x33s153, ex33s153⟩ : ∃ y : Int32, y = (nI iL33) + 1 := ⟨_, rfl⟩
          refine g_iinc (v := x33s153) C d_M_moves_153 6 rfl (by rw [ex33s153]; rfl) [(6, .int x33s153), (5, .int (nI iL33)), (3, .long x33s148), (7, .int x33s42), (0, .ref (ad m)), (1, .int c), (2, .int (nI s))] (by decide) rfl ?_
          refine g_goto 8 C d_M_moves_156 (by decide) ?_
          refine g_fewer (lv' := [(0, .ref (ad m)), (1, .int c), (2, .int (nI s)), (3, .long x33s148), (5, .int (nI iL33)), (6, .int x33s153)]) [4, 5, 6, 2, 1, 0] rfl ?_
          refine GW_eq (u2 := gup (gup (gup (gup (gup (gup u (m + 18) (.inl ((X.2 0), 48, .inl ((mvS (fun x => balM cl mem cof str pai sha sen nb c (nI x)) c.toNatClampNeg s (gps c.toNatClampNeg) ((grp, sds, gts, sms, tck, tc, 0, 0, -1) : gSt) (iL33 + 1)).1)))) (m + 20) (.inl ((X.2 0), 44, .inl ((mvS (fun x => balM cl mem cof str pai sha sen nb c (nI x)) c.toNatClampNeg s (gps c.toNatClampNeg) ((grp, sds, gts, sms, tck, tc, 0, 0, -1) : gSt) (iL33 + 1)).2.1)))) (m + 21) (.inl ((X.2 0), 44, .inl ((mvS (fun x => balM cl mem cof str pai sha sen nb c (nI x)) c.toNatClampNeg s (gps c.toNatClampNeg) ((grp, sds, gts, sms, tck, tc, 0, 0, -1) : gSt) (iL33 + 1)).2.2.1)))) (m + 22) (.inl ((X.2 1), 44, .inr (.inl ((mvS (fun x => balM cl mem cof str pai sha sen nb c (nI x)) c.toNatClampNeg s (gps c.toNatClampNeg) ((grp, sds, gts, sms, tck, tc, 0, 0, -1) : gSt) (iL33 + 1)).2.2.2.1))))) (m + 23) (.inl ((X.2 2), 44, .inl ((mvS (fun x => balM cl mem cof str pai sha sen nb c (nI x)) c.toNatClampNeg s (gps c.toNatClampNeg) ((grp, sds, gts, sms, tck, tc, 0, 0, -1) : gSt) (iL33 + 1)).2.2.2.2.1)))) (m + 19) (.inl ((X.2 0), 4, .inl (upd man c.toNatClampNeg (nI (mvS (fun x => balM cl mem cof str pai sha sen nb c (nI x)) c.toNatClampNeg s (gps c.toNatClampNeg) ((grp, sds, gts, sms, tck, tc, 0, 0, -1) : gSt) (iL33 + 1)).2.2.2.2.2.1))))) (lv2 := [(0, .ref (ad m)), (1, .int c), (2, .int (nI s)), (3, .long ((mvS (fun x => balM cl mem cof str pai sha sen nb c (nI x)) c.toNatClampNeg s (gps c.toNatClampNeg) ((grp, sds, gts, sms, tck, tc, 0, 0, -1) : gSt) (iL33 + 1)).2.2.2.2.2.2.2.1)), (5, .int ((mvS (fun x => balM cl mem cof str pai sha sen nb c (nI x)) c.toNatClampNeg s (gps c.toNatClampNeg) ((grp, sds, gts, sms, tck, tc, 0, 0, -1) : gSt) (iL33 + 1)).2.2.2.2.2.2.2.2)), (6, .int (nI (iL33 + 1)))]) ?_ ?_ (KL33 trivial)
          · funext k
            by_cases hk0 : k = m + 18
            · rw [hk0, hu33s8_5, gup_ne (by omega), gup_ne (by omega), gup_ne (by omega), gup_ne (by omega), gup_ne (by omega), gup_self] <;> (try (rw [mvS_y ((bit1 (s := s) (i := iL33) (by omega) (by omega)).mp c33s22) c33s28]; simp only [mgS, mtS, pickI, pickL, if_pos c33s53])) <;> (try simp only [ex33s42, ex33s83, ex33s102, ex33s120, ex33s138, ex33s148, ex33s153, nI_1]) <;> (try rw [upd_upd])
            by_cases hk1 : k = m + 20
            · rw [hk1, hu33s8_7, gup_ne (by omega), gup_ne (by omega), gup_ne (by omega), gup_ne (by omega), gup_self] <;> (try (rw [mvS_y ((bit1 (s := s) (i := iL33) (by omega) (by omega)).mp c33s22) c33s28]; simp only [mgS, mtS, pickI, pickL, if_pos c33s53])) <;> (try simp only [ex33s42, ex33s83, ex33s102, ex33s120, ex33s138, ex33s148, ex33s153, nI_1]) <;> (try rw [upd_upd])
            by_cases hk2 : k = m + 21
            · rw [hk2, hu33s8_8, gup_ne (by omega), gup_ne (by omega), gup_ne (by omega), gup_self] <;> (try (rw [mvS_y ((bit1 (s := s) (i := iL33) (by omega) (by omega)).mp c33s22) c33s28]; simp only [mgS, mtS, pickI, pickL, if_pos c33s53])) <;> (try simp only [ex33s42, ex33s83, ex33s102, ex33s120, ex33s138, ex33s148, ex33s153, nI_1]) <;> (try rw [upd_upd])
            by_cases hk3 : k = m + 22
            · rw [hk3, hu33s8_13, gup_ne (by omega), gup_ne (by omega), gup_self] <;> (try (rw [mvS_y ((bit1 (s := s) (i := iL33) (by omega) (by omega)).mp c33s22) c33s28]; simp only [mgS, mtS, pickI, pickL, if_pos c33s53])) <;> (try simp only [ex33s42, ex33s83, ex33s102, ex33s120, ex33s138, ex33s148, ex33s153, nI_1]) <;> (try rw [upd_upd])
            by_cases hk4 : k = m + 23
            · rw [hk4, hu33s8_9, gup_ne (by omega), gup_self] <;> (try (rw [mvS_y ((bit1 (s := s) (i := iL33) (by omega) (by omega)).mp c33s22) c33s28]; simp only [mgS, mtS, pickI, pickL, if_pos c33s53])) <;> (try simp only [ex33s42, ex33s83, ex33s102, ex33s120, ex33s138, ex33s148, ex33s153, nI_1]) <;> (try rw [upd_upd])
            by_cases hk5 : k = m + 19
            · rw [hk5, hu33s8_6, gup_self] <;> (try (rw [mvS_y ((bit1 (s := s) (i := iL33) (by omega) (by omega)).mp c33s22) c33s28]; simp only [mgS, mtS, pickI, pickL, if_pos c33s53])) <;> (try simp only [ex33s42, ex33s83, ex33s102, ex33s120, ex33s138, ex33s148, ex33s153, nI_1]) <;> (try rw [upd_upd])
            rw [hu33s8, gup_ne hk0]
            rw [hu33s7, gup_ne hk5]
            rw [hu33s6, gup_ne hk4]
            rw [hu33s5, gup_ne hk3]
            rw [hu33s4, gup_ne hk2]
            rw [hu33s3, gup_ne hk1]
            rw [hwL33s, gup_ne hk5, gup_ne hk4, gup_ne hk3, gup_ne hk2, gup_ne hk1, gup_ne hk0]
            rw [gup_ne hk5, gup_ne hk4, gup_ne hk3, gup_ne hk2, gup_ne hk1, gup_ne hk0]
          · rw [mvS_y ((bit1 (s := s) (i := iL33) (by omega) (by omega)).mp c33s22) c33s28]; simp only [mgS, mtS, pickI, pickL, if_pos c33s53] <;> simp only [ex33s42, ex33s83, ex33s102, ex33s120, ex33s138, ex33s148, ex33s153, nI_1]
        · rw [lg_cmp_ge] at c33s53
          refine g_iload C d_M_moves_56 5 rfl ?_
          refine g_goto 63 C d_M_moves_58 (by decide) ?_
          refine g_topi (fun x33s63 ex33s63 => ?_)
          refine g_iast (m + 20) 0 C hwL33s_7 rfl h44.1 d_M_moves_63 ?_
          rw [show Int32.toNatClampNeg x33s42 = (11 * c.toNatClampNeg + (mvS (fun x => balM cl mem cof str pai sha sen nb c (nI x)) c.toNatClampNeg s (gps c.toNatClampNeg) ((grp, sds, gts, sms, tck, tc, 0, 0, -1) : gSt) iL33).2.2.2.2.2.1) from h44.2]
          obtain ⟨u33s10, hu33s10⟩ : ∃ z, z = gup wL33s (m + 20) (.inl ((X.2 0), 44, .inl (upd ((mvS (fun x => balM cl mem cof str pai sha sen nb c (nI x)) c.toNatClampNeg s (gps c.toNatClampNeg) ((grp, sds, gts, sms, tck, tc, 0, 0, -1) : gSt) iL33).2.1) (11 * c.toNatClampNeg + (mvS (fun x => balM cl mem cof str pai sha sen nb c (nI x)) c.toNatClampNeg s (gps c.toNatClampNeg) ((grp, sds, gts, sms, tck, tc, 0, 0, -1) : gSt) iL33).2.2.2.2.2.1) x33s63))) := ⟨_, rfl⟩
          rw [← hu33s10]
          have hu33s10_0 : u33s10 m = some (mO ad m 0 cl dr wy ce ra li bi) := by rw [hu33s10, gup_ne (by omega)]; exact hwL33s_0
          have hu33s10_1 : u33s10 (m + 1) = some (.inl ((X.2 0), 4, .inl mem)) := by rw [hu33s10, gup_ne (by omega)]; exact hwL33s_1
          have hu33s10_2 : u33s10 (m + 9) = some (.inl ((X.2 0), 64, .inl cof)) := by rw [hu33s10, gup_ne (by omega)]; exact hwL33s_2
          have hu33s10_3 : u33s10 (m + 11) = some (.inl ((X.2 2), 64, .inl str)) := by rw [hu33s10, gup_ne (by omega)]; exact hwL33s_3
          have hu33s10_4 : u33s10 (m + 17) = some (.inl ((X.2 0), 4, .inl gps)) := by rw [hu33s10, gup_ne (by omega)]; exact hwL33s_4
          have hu33s10_5 : u33s10 (m + 18) = some (.inl ((X.2 0), 48, .inl ((mvS (fun x => balM cl mem cof str pai sha sen nb c (nI x)) c.toNatClampNeg s (gps c.toNatClampNeg) ((grp, sds, gts, sms, tck, tc, 0, 0, -1) : gSt) iL33).1))) := by rw [hu33s10, gup_ne (by omega)]; exact hwL33s_5
          have hu33s10_6 : u33s10 (m + 19) = some (.inl ((X.2 0), 4, .inl (upd man c.toNatClampNeg (nI (mvS (fun x => balM cl mem cof str pai sha sen nb c (nI x)) c.toNatClampNeg s (gps c.toNatClampNeg) ((grp, sds, gts, sms, tck, tc, 0, 0, -1) : gSt) iL33).2.2.2.2.2.1)))) := by rw [hu33s10, gup_ne (by omega)]; exact hwL33s_6
          have hu33s10_7 : u33s10 (m + 20) = some (.inl ((X.2 0), 44, .inl (upd ((mvS (fun x => balM cl mem cof str pai sha sen nb c (nI x)) c.toNatClampNeg s (gps c.toNatClampNeg) ((grp, sds, gts, sms, tck, tc, 0, 0, -1) : gSt) iL33).2.1) (11 * c.toNatClampNeg + (mvS (fun x => balM cl mem cof str pai sha sen nb c (nI x)) c.toNatClampNeg s (gps c.toNatClampNeg) ((grp, sds, gts, sms, tck, tc, 0, 0, -1) : gSt) iL33).2.2.2.2.2.1) x33s63))) := by rw [hu33s10]; exact gup_self _ _ _
          have hu33s10_8 : u33s10 (m + 21) = some (.inl ((X.2 0), 44, .inl ((mvS (fun x => balM cl mem cof str pai sha sen nb c (nI x)) c.toNatClampNeg s (gps c.toNatClampNeg) ((grp, sds, gts, sms, tck, tc, 0, 0, -1) : gSt) iL33).2.2.1))) := by rw [hu33s10, gup_ne (by omega)]; exact hwL33s_8
          have hu33s10_9 : u33s10 (m + 23) = some (.inl ((X.2 2), 44, .inl ((mvS (fun x => balM cl mem cof str pai sha sen nb c (nI x)) c.toNatClampNeg s (gps c.toNatClampNeg) ((grp, sds, gts, sms, tck, tc, 0, 0, -1) : gSt) iL33).2.2.2.2.1))) := by rw [hu33s10, gup_ne (by omega)]; exact hwL33s_9
          have hu33s10_10 : u33s10 (m + 15) = some (.inl ((X.2 1), 48, .inr (.inl sen))) := by rw [hu33s10, gup_ne (by omega)]; exact hwL33s_10
          have hu33s10_11 : u33s10 (m + 13) = some (.inl ((X.2 1), 768, .inr (.inl pai))) := by rw [hu33s10, gup_ne (by omega)]; exact hwL33s_11
          have hu33s10_12 : u33s10 (m + 12) = some (.inl ((X.2 1), 768, .inr (.inl sha))) := by rw [hu33s10, gup_ne (by omega)]; exact hwL33s_12
          have hu33s10_13 : u33s10 (m + 22) = some (.inl ((X.2 1), 44, .inr (.inl ((mvS (fun x => balM cl mem cof str pai sha sen nb c (nI x)) c.toNatClampNeg s (gps c.toNatClampNeg) ((grp, sds, gts, sms, tck, tc, 0, 0, -1) : gSt) iL33).2.2.2.1)))) := by rw [hu33s10, gup_ne (by omega)]; exact hwL33s_13
          refine g_aload_n C d_M_moves_64 rfl 1 rfl ?_
          refine g_get m 28 C hu33s10_0 rfl i_M (by decide) (gmem wd_546 rfl) rfl rfl d_M_moves_65 ?_
          refine g_iload C d_M_moves_68 0 rfl ?_
          refine g_lload_n C d_M_moves_70 rfl 4 rfl ?_
          refine g_lconst (v := 0) C d_M_moves_71 (by decide) ?_
          refine g_lcmp C d_M_moves_72 ?_
          refine g_if_ge 81 C d_M_moves_73 (by decide) (fun c33s73 => ?_) (fun c33s73 => ?_)
          · rw [lg_cmp_ge] at c33s73; first | exact absurd c33s53 c33s73 | exact absurd c33s73 c33s53
          clear c33s73
          refine g_iload C d_M_moves_76 6 rfl ?_
          refine g_goto 83 C d_M_moves_78 (by decide) ?_
          refine g_iast (m + 21) 0 C hu33s10_8 rfl h44.1 d_M_moves_83 ?_
          rw [show Int32.toNatClampNeg x33s42 = (11 * c.toNatClampNeg + (mvS (fun x => balM cl mem cof str pai sha sen nb c (nI x)) c.toNatClampNeg s (gps c.toNatClampNeg) ((grp, sds, gts, sms, tck, tc, 0, 0, -1) : gSt) iL33).2.2.2.2.2.1) from h44.2]
          obtain ⟨u33s11, hu33s11⟩ : ∃ z, z = gup u33s10 (m + 21) (.inl ((X.2 0), 44, .inl (upd ((mvS (fun x => balM cl mem cof str pai sha sen nb c (nI x)) c.toNatClampNeg s (gps c.toNatClampNeg) ((grp, sds, gts, sms, tck, tc, 0, 0, -1) : gSt) iL33).2.2.1) (11 * c.toNatClampNeg + (mvS (fun x => balM cl mem cof str pai sha sen nb c (nI x)) c.toNatClampNeg s (gps c.toNatClampNeg) ((grp, sds, gts, sms, tck, tc, 0, 0, -1) : gSt) iL33).2.2.2.2.2.1) (nI iL33)))) := ⟨_, rfl⟩
          rw [← hu33s11]
          have hu33s11_0 : u33s11 m = some (mO ad m 0 cl dr wy ce ra li bi) := by rw [hu33s11, gup_ne (by omega)]; exact hu33s10_0
          have hu33s11_1 : u33s11 (m + 1) = some (.inl ((X.2 0), 4, .inl mem)) := by rw [hu33s11, gup_ne (by omega)]; exact hu33s10_1
          have hu33s11_2 : u33s11 (m + 9) = some (.inl ((X.2 0), 64, .inl cof)) := by rw [hu33s11, gup_ne (by omega)]; exact hu33s10_2
          have hu33s11_3 : u33s11 (m + 11) = some (.inl ((X.2 2), 64, .inl str)) := by rw [hu33s11, gup_ne (by omega)]; exact hu33s10_3
          have hu33s11_4 : u33s11 (m + 17) = some (.inl ((X.2 0), 4, .inl gps)) := by rw [hu33s11, gup_ne (by omega)]; exact hu33s10_4
          have hu33s11_5 : u33s11 (m + 18) = some (.inl ((X.2 0), 48, .inl ((mvS (fun x => balM cl mem cof str pai sha sen nb c (nI x)) c.toNatClampNeg s (gps c.toNatClampNeg) ((grp, sds, gts, sms, tck, tc, 0, 0, -1) : gSt) iL33).1))) := by rw [hu33s11, gup_ne (by omega)]; exact hu33s10_5
          have hu33s11_6 : u33s11 (m + 19) = some (.inl ((X.2 0), 4, .inl (upd man c.toNatClampNeg (nI (mvS (fun x => balM cl mem cof str pai sha sen nb c (nI x)) c.toNatClampNeg s (gps c.toNatClampNeg) ((grp, sds, gts, sms, tck, tc, 0, 0, -1) : gSt) iL33).2.2.2.2.2.1)))) := by rw [hu33s11, gup_ne (by omega)]; exact hu33s10_6
          have hu33s11_7 : u33s11 (m + 20) = some (.inl ((X.2 0), 44, .inl (upd ((mvS (fun x => balM cl mem cof str pai sha sen nb c (nI x)) c.toNatClampNeg s (gps c.toNatClampNeg) ((grp, sds, gts, sms, tck, tc, 0, 0, -1) : gSt) iL33).2.1) (11 * c.toNatClampNeg + (mvS (fun x => balM cl mem cof str pai sha sen nb c (nI x)) c.toNatClampNeg s (gps c.toNatClampNeg) ((grp, sds, gts, sms, tck, tc, 0, 0, -1) : gSt) iL33).2.2.2.2.2.1) x33s63))) := by rw [hu33s11, gup_ne (by omega)]; exact hu33s10_7
          have hu33s11_8 : u33s11 (m + 21) = some (.inl ((X.2 0), 44, .inl (upd ((mvS (fun x => balM cl mem cof str pai sha sen nb c (nI x)) c.toNatClampNeg s (gps c.toNatClampNeg) ((grp, sds, gts, sms, tck, tc, 0, 0, -1) : gSt) iL33).2.2.1) (11 * c.toNatClampNeg + (mvS (fun x => balM cl mem cof str pai sha sen nb c (nI x)) c.toNatClampNeg s (gps c.toNatClampNeg) ((grp, sds, gts, sms, tck, tc, 0, 0, -1) : gSt) iL33).2.2.2.2.2.1) (nI iL33)))) := by rw [hu33s11]; exact gup_self _ _ _
          have hu33s11_9 : u33s11 (m + 23) = some (.inl ((X.2 2), 44, .inl ((mvS (fun x => balM cl mem cof str pai sha sen nb c (nI x)) c.toNatClampNeg s (gps c.toNatClampNeg) ((grp, sds, gts, sms, tck, tc, 0, 0, -1) : gSt) iL33).2.2.2.2.1))) := by rw [hu33s11, gup_ne (by omega)]; exact hu33s10_9
          have hu33s11_10 : u33s11 (m + 15) = some (.inl ((X.2 1), 48, .inr (.inl sen))) := by rw [hu33s11, gup_ne (by omega)]; exact hu33s10_10
          have hu33s11_11 : u33s11 (m + 13) = some (.inl ((X.2 1), 768, .inr (.inl pai))) := by rw [hu33s11, gup_ne (by omega)]; exact hu33s10_11
          have hu33s11_12 : u33s11 (m + 12) = some (.inl ((X.2 1), 768, .inr (.inl sha))) := by rw [hu33s11, gup_ne (by omega)]; exact hu33s10_12
          have hu33s11_13 : u33s11 (m + 22) = some (.inl ((X.2 1), 44, .inr (.inl ((mvS (fun x => balM cl mem cof str pai sha sen nb c (nI x)) c.toNatClampNeg s (gps c.toNatClampNeg) ((grp, sds, gts, sms, tck, tc, 0, 0, -1) : gSt) iL33).2.2.2.1)))) := by rw [hu33s11, gup_ne (by omega)]; exact hu33s10_13
          refine g_aload_n C d_M_moves_84 rfl 1 rfl ?_
          refine g_get m 29 C hu33s11_0 rfl i_M (by decide) (gmem wd_547 rfl) rfl rfl d_M_moves_85 ?_
          refine g_iload C d_M_moves_88 0 rfl ?_
          refine g_lload_n C d_M_moves_90 rfl 4 rfl ?_
          refine g_lconst (v := 0) C d_M_moves_91 (by decide) ?_
          refine g_lcmp C d_M_moves_92 ?_
          refine g_if_ge 101 C d_M_moves_93 (by decide) (fun c33s93 => ?_) (fun c33s93 => ?_)
          · rw [lg_cmp_ge] at c33s93; first | exact absurd c33s53 c33s93 | exact absurd c33s93 c33s53
          clear c33s93
          refine g_lload_n C d_M_moves_96 rfl 4 rfl ?_
          refine g_lneg C d_M_moves_97 ?_
          refine g_goto 102 C d_M_moves_98 (by decide) ?_
          refine g_topl (fun x33s102 ex33s102 => ?_)
          refine g_last (m + 22) 1 C hu33s11_13 rfl h44.1 d_M_moves_102 ?_
          rw [show Int32.toNatClampNeg x33s42 = (11 * c.toNatClampNeg + (mvS (fun x => balM cl mem cof str pai sha sen nb c (nI x)) c.toNatClampNeg s (gps c.toNatClampNeg) ((grp, sds, gts, sms, tck, tc, 0, 0, -1) : gSt) iL33).2.2.2.2.2.1) from h44.2]
          obtain ⟨u33s12, hu33s12⟩ : ∃ z, z = gup u33s11 (m + 22) (.inl ((X.2 1), 44, .inr (.inl (vp_updL ((mvS (fun x => balM cl mem cof str pai sha sen nb c (nI x)) c.toNatClampNeg s (gps c.toNatClampNeg) ((grp, sds, gts, sms, tck, tc, 0, 0, -1) : gSt) iL33).2.2.2.1) (11 * c.toNatClampNeg + (mvS (fun x => balM cl mem cof str pai sha sen nb c (nI x)) c.toNatClampNeg s (gps c.toNatClampNeg) ((grp, sds, gts, sms, tck, tc, 0, 0, -1) : gSt) iL33).2.2.2.2.2.1) x33s102)))) := ⟨_, rfl⟩
          rw [← hu33s12]
          have hu33s12_0 : u33s12 m = some (mO ad m 0 cl dr wy ce ra li bi) := by rw [hu33s12, gup_ne (by omega)]; exact hu33s11_0
          have hu33s12_1 : u33s12 (m + 1) = some (.inl ((X.2 0), 4, .inl mem)) := by rw [hu33s12, gup_ne (by omega)]; exact hu33s11_1
          have hu33s12_2 : u33s12 (m + 9) = some (.inl ((X.2 0), 64, .inl cof)) := by rw [hu33s12, gup_ne (by omega)]; exact hu33s11_2
          have hu33s12_3 : u33s12 (m + 11) = some (.inl ((X.2 2), 64, .inl str)) := by rw [hu33s12, gup_ne (by omega)]; exact hu33s11_3
          have hu33s12_4 : u33s12 (m + 17) = some (.inl ((X.2 0), 4, .inl gps)) := by rw [hu33s12, gup_ne (by omega)]; exact hu33s11_4
          have hu33s12_5 : u33s12 (m + 18) = some (.inl ((X.2 0), 48, .inl ((mvS (fun x => balM cl mem cof str pai sha sen nb c (nI x)) c.toNatClampNeg s (gps c.toNatClampNeg) ((grp, sds, gts, sms, tck, tc, 0, 0, -1) : gSt) iL33).1))) := by rw [hu33s12, gup_ne (by omega)]; exact hu33s11_5
          have hu33s12_6 : u33s12 (m + 19) = some (.inl ((X.2 0), 4, .inl (upd man c.toNatClampNeg (nI (mvS (fun x => balM cl mem cof str pai sha sen nb c (nI x)) c.toNatClampNeg s (gps c.toNatClampNeg) ((grp, sds, gts, sms, tck, tc, 0, 0, -1) : gSt) iL33).2.2.2.2.2.1)))) := by rw [hu33s12, gup_ne (by omega)]; exact hu33s11_6
          have hu33s12_7 : u33s12 (m + 20) = some (.inl ((X.2 0), 44, .inl (upd ((mvS (fun x => balM cl mem cof str pai sha sen nb c (nI x)) c.toNatClampNeg s (gps c.toNatClampNeg) ((grp, sds, gts, sms, tck, tc, 0, 0, -1) : gSt) iL33).2.1) (11 * c.toNatClampNeg + (mvS (fun x => balM cl mem cof str pai sha sen nb c (nI x)) c.toNatClampNeg s (gps c.toNatClampNeg) ((grp, sds, gts, sms, tck, tc, 0, 0, -1) : gSt) iL33).2.2.2.2.2.1) x33s63))) := by rw [hu33s12, gup_ne (by omega)]; exact hu33s11_7
          have hu33s12_8 : u33s12 (m + 21) = some (.inl ((X.2 0), 44, .inl (upd ((mvS (fun x => balM cl mem cof str pai sha sen nb c (nI x)) c.toNatClampNeg s (gps c.toNatClampNeg) ((grp, sds, gts, sms, tck, tc, 0, 0, -1) : gSt) iL33).2.2.1) (11 * c.toNatClampNeg + (mvS (fun x => balM cl mem cof str pai sha sen nb c (nI x)) c.toNatClampNeg s (gps c.toNatClampNeg) ((grp, sds, gts, sms, tck, tc, 0, 0, -1) : gSt) iL33).2.2.2.2.2.1) (nI iL33)))) := by rw [hu33s12, gup_ne (by omega)]; exact hu33s11_8
          have hu33s12_9 : u33s12 (m + 23) = some (.inl ((X.2 2), 44, .inl ((mvS (fun x => balM cl mem cof str pai sha sen nb c (nI x)) c.toNatClampNeg s (gps c.toNatClampNeg) ((grp, sds, gts, sms, tck, tc, 0, 0, -1) : gSt) iL33).2.2.2.2.1))) := by rw [hu33s12, gup_ne (by omega)]; exact hu33s11_9
          have hu33s12_10 : u33s12 (m + 15) = some (.inl ((X.2 1), 48, .inr (.inl sen))) := by rw [hu33s12, gup_ne (by omega)]; exact hu33s11_10
          have hu33s12_11 : u33s12 (m + 13) = some (.inl ((X.2 1), 768, .inr (.inl pai))) := by rw [hu33s12, gup_ne (by omega)]; exact hu33s11_11
          have hu33s12_12 : u33s12 (m + 12) = some (.inl ((X.2 1), 768, .inr (.inl sha))) := by rw [hu33s12, gup_ne (by omega)]; exact hu33s11_12
          have hu33s12_13 : u33s12 (m + 22) = some (.inl ((X.2 1), 44, .inr (.inl (vp_updL ((mvS (fun x => balM cl mem cof str pai sha sen nb c (nI x)) c.toNatClampNeg s (gps c.toNatClampNeg) ((grp, sds, gts, sms, tck, tc, 0, 0, -1) : gSt) iL33).2.2.2.1) (11 * c.toNatClampNeg + (mvS (fun x => balM cl mem cof str pai sha sen nb c (nI x)) c.toNatClampNeg s (gps c.toNatClampNeg) ((grp, sds, gts, sms, tck, tc, 0, 0, -1) : gSt) iL33).2.2.2.2.2.1) x33s102)))) := by rw [hu33s12]; exact gup_self _ _ _
          refine g_aload_n C d_M_moves_103 rfl 1 rfl ?_
          refine g_get m 30 C hu33s12_0 rfl i_M (by decide) (gmem wd_548 rfl) rfl rfl d_M_moves_104 ?_
          refine g_iload C d_M_moves_107 0 rfl ?_
          refine g_iconst (v := 0) C d_M_moves_109 (by decide) ?_
          refine g_zast (m + 23) 2 C hu33s12_9 rfl h44.1 d_M_moves_110 ?_
          rw [show Int32.toNatClampNeg x33s42 = (11 * c.toNatClampNeg + (mvS (fun x => balM cl mem cof str pai sha sen nb c (nI x)) c.toNatClampNeg s (gps c.toNatClampNeg) ((grp, sds, gts, sms, tck, tc, 0, 0, -1) : gSt) iL33).2.2.2.2.2.1) from h44.2]
          rw [show vp_nar .boolean 0 = 0 from rfl]
          obtain ⟨u33s13, hu33s13⟩ : ∃ z, z = gup u33s12 (m + 23) (.inl ((X.2 2), 44, .inl (upd ((mvS (fun x => balM cl mem cof str pai sha sen nb c (nI x)) c.toNatClampNeg s (gps c.toNatClampNeg) ((grp, sds, gts, sms, tck, tc, 0, 0, -1) : gSt) iL33).2.2.2.2.1) (11 * c.toNatClampNeg + (mvS (fun x => balM cl mem cof str pai sha sen nb c (nI x)) c.toNatClampNeg s (gps c.toNatClampNeg) ((grp, sds, gts, sms, tck, tc, 0, 0, -1) : gSt) iL33).2.2.2.2.2.1) 0))) := ⟨_, rfl⟩
          rw [← hu33s13]
          have hu33s13_0 : u33s13 m = some (mO ad m 0 cl dr wy ce ra li bi) := by rw [hu33s13, gup_ne (by omega)]; exact hu33s12_0
          have hu33s13_1 : u33s13 (m + 1) = some (.inl ((X.2 0), 4, .inl mem)) := by rw [hu33s13, gup_ne (by omega)]; exact hu33s12_1
          have hu33s13_2 : u33s13 (m + 9) = some (.inl ((X.2 0), 64, .inl cof)) := by rw [hu33s13, gup_ne (by omega)]; exact hu33s12_2
          have hu33s13_3 : u33s13 (m + 11) = some (.inl ((X.2 2), 64, .inl str)) := by rw [hu33s13, gup_ne (by omega)]; exact hu33s12_3
          have hu33s13_4 : u33s13 (m + 17) = some (.inl ((X.2 0), 4, .inl gps)) := by rw [hu33s13, gup_ne (by omega)]; exact hu33s12_4
          have hu33s13_5 : u33s13 (m + 18) = some (.inl ((X.2 0), 48, .inl ((mvS (fun x => balM cl mem cof str pai sha sen nb c (nI x)) c.toNatClampNeg s (gps c.toNatClampNeg) ((grp, sds, gts, sms, tck, tc, 0, 0, -1) : gSt) iL33).1))) := by rw [hu33s13, gup_ne (by omega)]; exact hu33s12_5
          have hu33s13_6 : u33s13 (m + 19) = some (.inl ((X.2 0), 4, .inl (upd man c.toNatClampNeg (nI (mvS (fun x => balM cl mem cof str pai sha sen nb c (nI x)) c.toNatClampNeg s (gps c.toNatClampNeg) ((grp, sds, gts, sms, tck, tc, 0, 0, -1) : gSt) iL33).2.2.2.2.2.1)))) := by rw [hu33s13, gup_ne (by omega)]; exact hu33s12_6
          have hu33s13_7 : u33s13 (m + 20) = some (.inl ((X.2 0), 44, .inl (upd ((mvS (fun x => balM cl mem cof str pai sha sen nb c (nI x)) c.toNatClampNeg s (gps c.toNatClampNeg) ((grp, sds, gts, sms, tck, tc, 0, 0, -1) : gSt) iL33).2.1) (11 * c.toNatClampNeg + (mvS (fun x => balM cl mem cof str pai sha sen nb c (nI x)) c.toNatClampNeg s (gps c.toNatClampNeg) ((grp, sds, gts, sms, tck, tc, 0, 0, -1) : gSt) iL33).2.2.2.2.2.1) x33s63))) := by rw [hu33s13, gup_ne (by omega)]; exact hu33s12_7
          have hu33s13_8 : u33s13 (m + 21) = some (.inl ((X.2 0), 44, .inl (upd ((mvS (fun x => balM cl mem cof str pai sha sen nb c (nI x)) c.toNatClampNeg s (gps c.toNatClampNeg) ((grp, sds, gts, sms, tck, tc, 0, 0, -1) : gSt) iL33).2.2.1) (11 * c.toNatClampNeg + (mvS (fun x => balM cl mem cof str pai sha sen nb c (nI x)) c.toNatClampNeg s (gps c.toNatClampNeg) ((grp, sds, gts, sms, tck, tc, 0, 0, -1) : gSt) iL33).2.2.2.2.2.1) (nI iL33)))) := by rw [hu33s13, gup_ne (by omega)]; exact hu33s12_8
          have hu33s13_9 : u33s13 (m + 23) = some (.inl ((X.2 2), 44, .inl (upd ((mvS (fun x => balM cl mem cof str pai sha sen nb c (nI x)) c.toNatClampNeg s (gps c.toNatClampNeg) ((grp, sds, gts, sms, tck, tc, 0, 0, -1) : gSt) iL33).2.2.2.2.1) (11 * c.toNatClampNeg + (mvS (fun x => balM cl mem cof str pai sha sen nb c (nI x)) c.toNatClampNeg s (gps c.toNatClampNeg) ((grp, sds, gts, sms, tck, tc, 0, 0, -1) : gSt) iL33).2.2.2.2.2.1) 0))) := by rw [hu33s13]; exact gup_self _ _ _
          have hu33s13_10 : u33s13 (m + 15) = some (.inl ((X.2 1), 48, .inr (.inl sen))) := by rw [hu33s13, gup_ne (by omega)]; exact hu33s12_10
          have hu33s13_11 : u33s13 (m + 13) = some (.inl ((X.2 1), 768, .inr (.inl pai))) := by rw [hu33s13, gup_ne (by omega)]; exact hu33s12_11
          have hu33s13_12 : u33s13 (m + 12) = some (.inl ((X.2 1), 768, .inr (.inl sha))) := by rw [hu33s13, gup_ne (by omega)]; exact hu33s12_12
          have hu33s13_13 : u33s13 (m + 22) = some (.inl ((X.2 1), 44, .inr (.inl (vp_updL ((mvS (fun x => balM cl mem cof str pai sha sen nb c (nI x)) c.toNatClampNeg s (gps c.toNatClampNeg) ((grp, sds, gts, sms, tck, tc, 0, 0, -1) : gSt) iL33).2.2.2.1) (11 * c.toNatClampNeg + (mvS (fun x => balM cl mem cof str pai sha sen nb c (nI x)) c.toNatClampNeg s (gps c.toNatClampNeg) ((grp, sds, gts, sms, tck, tc, 0, 0, -1) : gSt) iL33).2.2.2.2.2.1) x33s102)))) := by rw [hu33s13, gup_ne (by omega)]; exact hu33s12_13
          refine g_aload_n C d_M_moves_111 rfl 1 rfl ?_
          refine g_get m 26 C hu33s13_0 rfl i_M (by decide) (gmem wd_544 rfl) rfl rfl d_M_moves_112 ?_
          refine g_iload_n C d_M_moves_115 rfl 2 rfl ?_
          refine g_dup2_11 C d_M_moves_116 rfl rfl ?_
          refine g_iald (m + 19) 0 C hu33s13_6 rfl hc d_M_moves_117 ?_
          rw [show upd man c.toNatClampNeg (nI (mvS (fun x => balM cl mem cof str pai sha sen nb c (nI x)) c.toNatClampNeg s (gps c.toNatClampNeg) ((grp, sds, gts, sms, tck, tc, 0, 0, -1) : gSt) iL33).2.2.2.2.2.1) c.toNatClampNeg = nI (mvS (fun x => balM cl mem cof str pai sha sen nb c (nI x)) c.toNatClampNeg s (gps c.toNatClampNeg) ((grp, sds, gts, sms, tck, tc, 0, 0, -1) : gSt) iL33).2.2.2.2.2.1 from if_pos rfl]
          refine g_iconst (v := 1) C d_M_moves_118 (by decide) ?_
          refine g_iadd C d_M_moves_119 ?_
          refine g_topi (fun x33s120 ex33s120 => ?_)
          refine g_iast (m + 19) 0 C hu33s13_6 rfl hc d_M_moves_120 ?_
          obtain ⟨u33s14, hu33s14⟩ : ∃ z, z = gup u33s13 (m + 19) (.inl ((X.2 0), 4, .inl (upd (upd man c.toNatClampNeg (nI (mvS (fun x => balM cl mem cof str pai sha sen nb c (nI x)) c.toNatClampNeg s (gps c.toNatClampNeg) ((grp, sds, gts, sms, tck, tc, 0, 0, -1) : gSt) iL33).2.2.2.2.2.1)) (Int32.toNatClampNeg c) x33s120))) := ⟨_, rfl⟩
          rw [← hu33s14]
          have hu33s14_0 : u33s14 m = some (mO ad m 0 cl dr wy ce ra li bi) := by rw [hu33s14, gup_ne (by omega)]; exact hu33s13_0
          have hu33s14_1 : u33s14 (m + 1) = some (.inl ((X.2 0), 4, .inl mem)) := by rw [hu33s14, gup_ne (by omega)]; exact hu33s13_1
          have hu33s14_2 : u33s14 (m + 9) = some (.inl ((X.2 0), 64, .inl cof)) := by rw [hu33s14, gup_ne (by omega)]; exact hu33s13_2
          have hu33s14_3 : u33s14 (m + 11) = some (.inl ((X.2 2), 64, .inl str)) := by rw [hu33s14, gup_ne (by omega)]; exact hu33s13_3
          have hu33s14_4 : u33s14 (m + 17) = some (.inl ((X.2 0), 4, .inl gps)) := by rw [hu33s14, gup_ne (by omega)]; exact hu33s13_4
          have hu33s14_5 : u33s14 (m + 18) = some (.inl ((X.2 0), 48, .inl ((mvS (fun x => balM cl mem cof str pai sha sen nb c (nI x)) c.toNatClampNeg s (gps c.toNatClampNeg) ((grp, sds, gts, sms, tck, tc, 0, 0, -1) : gSt) iL33).1))) := by rw [hu33s14, gup_ne (by omega)]; exact hu33s13_5
          have hu33s14_6 : u33s14 (m + 19) = some (.inl ((X.2 0), 4, .inl (upd (upd man c.toNatClampNeg (nI (mvS (fun x => balM cl mem cof str pai sha sen nb c (nI x)) c.toNatClampNeg s (gps c.toNatClampNeg) ((grp, sds, gts, sms, tck, tc, 0, 0, -1) : gSt) iL33).2.2.2.2.2.1)) (Int32.toNatClampNeg c) x33s120))) := by rw [hu33s14]; exact gup_self _ _ _
          have hu33s14_7 : u33s14 (m + 20) = some (.inl ((X.2 0), 44, .inl (upd ((mvS (fun x => balM cl mem cof str pai sha sen nb c (nI x)) c.toNatClampNeg s (gps c.toNatClampNeg) ((grp, sds, gts, sms, tck, tc, 0, 0, -1) : gSt) iL33).2.1) (11 * c.toNatClampNeg + (mvS (fun x => balM cl mem cof str pai sha sen nb c (nI x)) c.toNatClampNeg s (gps c.toNatClampNeg) ((grp, sds, gts, sms, tck, tc, 0, 0, -1) : gSt) iL33).2.2.2.2.2.1) x33s63))) := by rw [hu33s14, gup_ne (by omega)]; exact hu33s13_7
          have hu33s14_8 : u33s14 (m + 21) = some (.inl ((X.2 0), 44, .inl (upd ((mvS (fun x => balM cl mem cof str pai sha sen nb c (nI x)) c.toNatClampNeg s (gps c.toNatClampNeg) ((grp, sds, gts, sms, tck, tc, 0, 0, -1) : gSt) iL33).2.2.1) (11 * c.toNatClampNeg + (mvS (fun x => balM cl mem cof str pai sha sen nb c (nI x)) c.toNatClampNeg s (gps c.toNatClampNeg) ((grp, sds, gts, sms, tck, tc, 0, 0, -1) : gSt) iL33).2.2.2.2.2.1) (nI iL33)))) := by rw [hu33s14, gup_ne (by omega)]; exact hu33s13_8
          have hu33s14_9 : u33s14 (m + 23) = some (.inl ((X.2 2), 44, .inl (upd ((mvS (fun x => balM cl mem cof str pai sha sen nb c (nI x)) c.toNatClampNeg s (gps c.toNatClampNeg) ((grp, sds, gts, sms, tck, tc, 0, 0, -1) : gSt) iL33).2.2.2.2.1) (11 * c.toNatClampNeg + (mvS (fun x => balM cl mem cof str pai sha sen nb c (nI x)) c.toNatClampNeg s (gps c.toNatClampNeg) ((grp, sds, gts, sms, tck, tc, 0, 0, -1) : gSt) iL33).2.2.2.2.2.1) 0))) := by rw [hu33s14, gup_ne (by omega)]; exact hu33s13_9
          have hu33s14_10 : u33s14 (m + 15) = some (.inl ((X.2 1), 48, .inr (.inl sen))) := by rw [hu33s14, gup_ne (by omega)]; exact hu33s13_10
          have hu33s14_11 : u33s14 (m + 13) = some (.inl ((X.2 1), 768, .inr (.inl pai))) := by rw [hu33s14, gup_ne (by omega)]; exact hu33s13_11
          have hu33s14_12 : u33s14 (m + 12) = some (.inl ((X.2 1), 768, .inr (.inl sha))) := by rw [hu33s14, gup_ne (by omega)]; exact hu33s13_12
          have hu33s14_13 : u33s14 (m + 22) = some (.inl ((X.2 1), 44, .inr (.inl (vp_updL ((mvS (fun x => balM cl mem cof str pai sha sen nb c (nI x)) c.toNatClampNeg s (gps c.toNatClampNeg) ((grp, sds, gts, sms, tck, tc, 0, 0, -1) : gSt) iL33).2.2.2.1) (11 * c.toNatClampNeg + (mvS (fun x => balM cl mem cof str pai sha sen nb c (nI x)) c.toNatClampNeg s (gps c.toNatClampNeg) ((grp, sds, gts, sms, tck, tc, 0, 0, -1) : gSt) iL33).2.2.2.2.2.1) x33s102)))) := by rw [hu33s14, gup_ne (by omega)]; exact hu33s13_13
          refine g_aload_n C d_M_moves_121 rfl 1 rfl ?_
          refine g_get m 25 C hu33s14_0 rfl i_M (by decide) (gmem wd_543 rfl) rfl rfl d_M_moves_122 ?_
          refine g_bipush (v := 12) C d_M_moves_125 (by decide) ?_
          refine g_iload_n C d_M_moves_127 rfl 2 rfl ?_
          refine g_imul C d_M_moves_128 ?_
          refine g_iload C d_M_moves_129 6 rfl ?_
          refine g_iadd C d_M_moves_131 ?_
          refine g_aload_n C d_M_moves_132 rfl 1 rfl ?_
          refine g_get m 24 C hu33s14_0 rfl i_M (by decide) (gmem wd_542 rfl) rfl rfl d_M_moves_133 ?_
          refine g_iload_n C d_M_moves_136 rfl 2 rfl ?_
          refine g_iald (m + 17) 0 C hu33s14_4 rfl hc d_M_moves_137 ?_
          refine g_topi (fun x33s138 ex33s138 => ?_)
          refine g_iast (m + 18) 0 C hu33s14_5 rfl (in48i hc hiL33).1 d_M_moves_138 ?_
          rw [show Int32.toNatClampNeg ((12 * c) + (nI iL33)) = (12 * c.toNatClampNeg + iL33) from (in48i hc hiL33).2]
          obtain ⟨u33s15, hu33s15⟩ : ∃ z, z = gup u33s14 (m + 18) (.inl ((X.2 0), 48, .inl (upd ((mvS (fun x => balM cl mem cof str pai sha sen nb c (nI x)) c.toNatClampNeg s (gps c.toNatClampNeg) ((grp, sds, gts, sms, tck, tc, 0, 0, -1) : gSt) iL33).1) (12 * c.toNatClampNeg + iL33) x33s138))) := ⟨_, rfl⟩
          rw [← hu33s15]
          have hu33s15_0 : u33s15 m = some (mO ad m 0 cl dr wy ce ra li bi) := by rw [hu33s15, gup_ne (by omega)]; exact hu33s14_0
          have hu33s15_1 : u33s15 (m + 1) = some (.inl ((X.2 0), 4, .inl mem)) := by rw [hu33s15, gup_ne (by omega)]; exact hu33s14_1
          have hu33s15_2 : u33s15 (m + 9) = some (.inl ((X.2 0), 64, .inl cof)) := by rw [hu33s15, gup_ne (by omega)]; exact hu33s14_2
          have hu33s15_3 : u33s15 (m + 11) = some (.inl ((X.2 2), 64, .inl str)) := by rw [hu33s15, gup_ne (by omega)]; exact hu33s14_3
          have hu33s15_4 : u33s15 (m + 17) = some (.inl ((X.2 0), 4, .inl gps)) := by rw [hu33s15, gup_ne (by omega)]; exact hu33s14_4
          have hu33s15_5 : u33s15 (m + 18) = some (.inl ((X.2 0), 48, .inl (upd ((mvS (fun x => balM cl mem cof str pai sha sen nb c (nI x)) c.toNatClampNeg s (gps c.toNatClampNeg) ((grp, sds, gts, sms, tck, tc, 0, 0, -1) : gSt) iL33).1) (12 * c.toNatClampNeg + iL33) x33s138))) := by rw [hu33s15]; exact gup_self _ _ _
          have hu33s15_6 : u33s15 (m + 19) = some (.inl ((X.2 0), 4, .inl (upd (upd man c.toNatClampNeg (nI (mvS (fun x => balM cl mem cof str pai sha sen nb c (nI x)) c.toNatClampNeg s (gps c.toNatClampNeg) ((grp, sds, gts, sms, tck, tc, 0, 0, -1) : gSt) iL33).2.2.2.2.2.1)) (Int32.toNatClampNeg c) x33s120))) := by rw [hu33s15, gup_ne (by omega)]; exact hu33s14_6
          have hu33s15_7 : u33s15 (m + 20) = some (.inl ((X.2 0), 44, .inl (upd ((mvS (fun x => balM cl mem cof str pai sha sen nb c (nI x)) c.toNatClampNeg s (gps c.toNatClampNeg) ((grp, sds, gts, sms, tck, tc, 0, 0, -1) : gSt) iL33).2.1) (11 * c.toNatClampNeg + (mvS (fun x => balM cl mem cof str pai sha sen nb c (nI x)) c.toNatClampNeg s (gps c.toNatClampNeg) ((grp, sds, gts, sms, tck, tc, 0, 0, -1) : gSt) iL33).2.2.2.2.2.1) x33s63))) := by rw [hu33s15, gup_ne (by omega)]; exact hu33s14_7
          have hu33s15_8 : u33s15 (m + 21) = some (.inl ((X.2 0), 44, .inl (upd ((mvS (fun x => balM cl mem cof str pai sha sen nb c (nI x)) c.toNatClampNeg s (gps c.toNatClampNeg) ((grp, sds, gts, sms, tck, tc, 0, 0, -1) : gSt) iL33).2.2.1) (11 * c.toNatClampNeg + (mvS (fun x => balM cl mem cof str pai sha sen nb c (nI x)) c.toNatClampNeg s (gps c.toNatClampNeg) ((grp, sds, gts, sms, tck, tc, 0, 0, -1) : gSt) iL33).2.2.2.2.2.1) (nI iL33)))) := by rw [hu33s15, gup_ne (by omega)]; exact hu33s14_8
          have hu33s15_9 : u33s15 (m + 23) = some (.inl ((X.2 2), 44, .inl (upd ((mvS (fun x => balM cl mem cof str pai sha sen nb c (nI x)) c.toNatClampNeg s (gps c.toNatClampNeg) ((grp, sds, gts, sms, tck, tc, 0, 0, -1) : gSt) iL33).2.2.2.2.1) (11 * c.toNatClampNeg + (mvS (fun x => balM cl mem cof str pai sha sen nb c (nI x)) c.toNatClampNeg s (gps c.toNatClampNeg) ((grp, sds, gts, sms, tck, tc, 0, 0, -1) : gSt) iL33).2.2.2.2.2.1) 0))) := by rw [hu33s15, gup_ne (by omega)]; exact hu33s14_9
          have hu33s15_10 : u33s15 (m + 15) = some (.inl ((X.2 1), 48, .inr (.inl sen))) := by rw [hu33s15, gup_ne (by omega)]; exact hu33s14_10
          have hu33s15_11 : u33s15 (m + 13) = some (.inl ((X.2 1), 768, .inr (.inl pai))) := by rw [hu33s15, gup_ne (by omega)]; exact hu33s14_11
          have hu33s15_12 : u33s15 (m + 12) = some (.inl ((X.2 1), 768, .inr (.inl sha))) := by rw [hu33s15, gup_ne (by omega)]; exact hu33s14_12
          have hu33s15_13 : u33s15 (m + 22) = some (.inl ((X.2 1), 44, .inr (.inl (vp_updL ((mvS (fun x => balM cl mem cof str pai sha sen nb c (nI x)) c.toNatClampNeg s (gps c.toNatClampNeg) ((grp, sds, gts, sms, tck, tc, 0, 0, -1) : gSt) iL33).2.2.2.1) (11 * c.toNatClampNeg + (mvS (fun x => balM cl mem cof str pai sha sen nb c (nI x)) c.toNatClampNeg s (gps c.toNatClampNeg) ((grp, sds, gts, sms, tck, tc, 0, 0, -1) : gSt) iL33).2.2.2.2.2.1) x33s102)))) := by rw [hu33s15, gup_ne (by omega)]; exact hu33s14_13
          refine g_lload_n C d_M_moves_139 rfl 4 rfl ?_
          refine g_aload_n C d_M_moves_140 rfl 1 rfl ?_
          refine g_iload_n C d_M_moves_141 rfl 2 rfl ?_
          refine g_iload C d_M_moves_142 6 rfl ?_
          refine g_callV 2 C (k_M_balance _ X ad u33s15 sz m 0 cl dr wy ce ra li bi mem cof str sen pai sha c (nI iL33) hu33s15_0 hu33s15_1 hu33s15_2 hu33s15_3 hu33s15_10 hu33s15_11 hu33s15_12 hcl hmem nb hnb hn64) (gmem wd_642 rfl) (gmem wd_643 rfl) (gmem wd_644 rfl) (gmem wd_4 rfl) (gmem wd_645 rfl) ⟨by decide, by decide, by decide +kernel⟩ ⟨Nat.le_of_ble_eq_true rfl, Nat.le_of_ble_eq_true rfl⟩ hu33s15_0 rfl rfl rfl (Nat.le_of_ble_eq_true rfl) d_M_moves_144 ⟨Nat.le_of_ble_eq_true rfl, Nat.le_of_ble_eq_true rfl⟩ ?_
          rintro v9 u33sb16 s9 ⟨h9, hu33sb16, hs9⟩; rw [gup_id hu33s15_0] at hu33sb16; rw [h9, hu33sb16, hs9]; clear h9 hu33sb16 hs9 v9 s9 u33sb16
          show GW Z _ _ _ ad u33s15 sz [(7, .int x33s42), (0, .ref (ad m)), (1, .int c), (2, .int (nI s)), (3, .long ((mvS (fun x => balM cl mem cof str pai sha sen nb c (nI x)) c.toNatClampNeg s (gps c.toNatClampNeg) ((grp, sds, gts, sms, tck, tc, 0, 0, -1) : gSt) iL33).2.2.2.2.2.2.2.1)), (5, .int ((mvS (fun x => balM cl mem cof str pai sha sen nb c (nI x)) c.toNatClampNeg s (gps c.toNatClampNeg) ((grp, sds, gts, sms, tck, tc, 0, 0, -1) : gSt) iL33).2.2.2.2.2.2.2.2)), (6, .int (nI iL33))] 0 0 147 [.long (balM cl mem cof str pai sha sen nb c (nI iL33)), .long ((mvS (fun x => balM cl mem cof str pai sha sen nb c (nI x)) c.toNatClampNeg s (gps c.toNatClampNeg) ((grp, sds, gts, sms, tck, tc, 0, 0, -1) : gSt) iL33).2.2.2.2.2.2.2.1)]
          refine g_ladd C d_M_moves_147 ?_
          refine g_topl (fun x33s148 ex33s148 => ?_)
          refine g_lstore_n C d_M_moves_148 rfl [(3, .long x33s148), (7, .int x33s42), (0, .ref (ad m)), (1, .int c), (2, .int (nI s)), (5, .int ((mvS (fun x => balM cl mem cof str pai sha sen nb c (nI x)) c.toNatClampNeg s (gps c.toNatClampNeg) ((grp, sds, gts, sms, tck, tc, 0, 0, -1) : gSt) iL33).2.2.2.2.2.2.2.2)), (6, .int (nI iL33))] (by decide) rfl ?_
          refine g_iload C d_M_moves_149 6 rfl ?_
          refine g_istore C d_M_moves_151 [(5, .int (nI iL33)), (3, .long x33s148), (7, .int x33s42), (0, .ref (ad m)), (1, .int c), (2, .int (nI s)), (6, .int (nI iL33))] (by decide) rfl ?_
          obtain ⟨x33s153, ex33s153⟩ : ∃ y : Int32, y = (nI iL33) + 1 := ⟨_, rfl⟩
          refine g_iinc (v := x33s153) C d_M_moves_153 6 rfl (by rw [ex33s153]; rfl) [(6, .int x33s153), (5, .int (nI iL33)), (3, .long x33s148), (7, .int x33s42), (0, .ref (ad m)), (1, .int c), (2, .int (nI s))] (by decide) rfl ?_
          refine g_goto 8 C d_M_moves_156 (by decide) ?_
          refine g_fewer (lv' := [(0, .ref (ad m)), (1, .int c), (2, .int (nI s)), (3, .long x33s148), (5, .int (nI iL33)), (6, .int x33s153)]) [4, 5, 6, 2, 1, 0] rfl ?_
          refine GW_eq (u2 := gup (gup (gup (gup (gup (gup u (m + 18) (.inl ((X.2 0), 48, .inl ((mvS (fun x => balM cl mem cof str pai sha sen nb c (nI x)) c.toNatClampNeg s (gps c.toNatClampNeg) ((grp, sds, gts, sms, tck, tc, 0, 0, -1) : gSt) (iL33 + 1)).1)))) (m + 20) (.inl ((X.2 0), 44, .inl ((mvS (fun x => balM cl mem cof str pai sha sen nb c (nI x)) c.toNatClampNeg s (gps c.toNatClampNeg) ((grp, sds, gts, sms, tck, tc, 0, 0, -1) : gSt) (iL33 + 1)).2.1)))) (m + 21) (.inl ((X.2 0), 44, .inl ((mvS (fun x => balM cl mem cof str pai sha sen nb c (nI x)) c.toNatClampNeg s (gps c.toNatClampNeg) ((grp, sds, gts, sms, tck, tc, 0, 0, -1) : gSt) (iL33 + 1)).2.2.1)))) (m + 22) (.inl ((X.2 1), 44, .inr (.inl ((mvS (fun x => balM cl mem cof str pai sha sen nb c (nI x)) c.toNatClampNeg s (gps c.toNatClampNeg) ((grp, sds, gts, sms, tck, tc, 0, 0, -1) : gSt) (iL33 + 1)).2.2.2.1))))) (m + 23) (.inl ((X.2 2), 44, .inl ((mvS (fun x => balM cl mem cof str pai sha sen nb c (nI x)) c.toNatClampNeg s (gps c.toNatClampNeg) ((grp, sds, gts, sms, tck, tc, 0, 0, -1) : gSt) (iL33 + 1)).2.2.2.2.1)))) (m + 19) (.inl ((X.2 0), 4, .inl (upd man c.toNatClampNeg (nI (mvS (fun x => balM cl mem cof str pai sha sen nb c (nI x)) c.toNatClampNeg s (gps c.toNatClampNeg) ((grp, sds, gts, sms, tck, tc, 0, 0, -1) : gSt) (iL33 + 1)).2.2.2.2.2.1))))) (lv2 := [(0, .ref (ad m)), (1, .int c), (2, .int (nI s)), (3, .long ((mvS (fun x => balM cl mem cof str pai sha sen nb c (nI x)) c.toNatClampNeg s (gps c.toNatClampNeg) ((grp, sds, gts, sms, tck, tc, 0, 0, -1) : gSt) (iL33 + 1)).2.2.2.2.2.2.2.1)), (5, .int ((mvS (fun x => balM cl mem cof str pai sha sen nb c (nI x)) c.toNatClampNeg s (gps c.toNatClampNeg) ((grp, sds, gts, sms, tck, tc, 0, 0, -1) : gSt) (iL33 + 1)).2.2.2.2.2.2.2.2)), (6, .int (nI (iL33 + 1)))]) ?_ ?_ (KL33 trivial)
          · funext k
            by_cases hk0 : k = m + 18
            · rw [hk0, hu33s15_5, gup_ne (by omega), gup_ne (by omega), gup_ne (by omega), gup_ne (by omega), gup_ne (by omega), gup_self] <;> (try (rw [mvS_y ((bit1 (s := s) (i := iL33) (by omega) (by omega)).mp c33s22) c33s28]; simp only [mgS, mtS, pickI, pickL, if_neg c33s53])) <;> (try simp only [ex33s42, ex33s63, ex33s102, ex33s120, ex33s138, ex33s148, ex33s153, nI_1]) <;> (try rw [upd_upd])
            by_cases hk1 : k = m + 20
            · rw [hk1, hu33s15_7, gup_ne (by omega), gup_ne (by omega), gup_ne (by omega), gup_ne (by omega), gup_self] <;> (try (rw [mvS_y ((bit1 (s := s) (i := iL33) (by omega) (by omega)).mp c33s22) c33s28]; simp only [mgS, mtS, pickI, pickL, if_neg c33s53])) <;> (try simp only [ex33s42, ex33s63, ex33s102, ex33s120, ex33s138, ex33s148, ex33s153, nI_1]) <;> (try rw [upd_upd])
            by_cases hk2 : k = m + 21
            · rw [hk2, hu33s15_8, gup_ne (by omega), gup_ne (by omega), gup_ne (by omega), gup_self] <;> (try (rw [mvS_y ((bit1 (s := s) (i := iL33) (by omega) (by omega)).mp c33s22) c33s28]; simp only [mgS, mtS, pickI, pickL, if_neg c33s53])) <;> (try simp only [ex33s42, ex33s63, ex33s102, ex33s120, ex33s138, ex33s148, ex33s153, nI_1]) <;> (try rw [upd_upd])
            by_cases hk3 : k = m + 22
            · rw [hk3, hu33s15_13, gup_ne (by omega), gup_ne (by omega), gup_self] <;> (try (rw [mvS_y ((bit1 (s := s) (i := iL33) (by omega) (by omega)).mp c33s22) c33s28]; simp only [mgS, mtS, pickI, pickL, if_neg c33s53])) <;> (try simp only [ex33s42, ex33s63, ex33s102, ex33s120, ex33s138, ex33s148, ex33s153, nI_1]) <;> (try rw [upd_upd])
            by_cases hk4 : k = m + 23
            · rw [hk4, hu33s15_9, gup_ne (by omega), gup_self] <;> (try (rw [mvS_y ((bit1 (s := s) (i := iL33) (by omega) (by omega)).mp c33s22) c33s28]; simp only [mgS, mtS, pickI, pickL, if_neg c33s53])) <;> (try simp only [ex33s42, ex33s63, ex33s102, ex33s120, ex33s138, ex33s148, ex33s153, nI_1]) <;> (try rw [upd_upd])
            by_cases hk5 : k = m + 19
            · rw [hk5, hu33s15_6, gup_self] <;> (try (rw [mvS_y ((bit1 (s := s) (i := iL33) (by omega) (by omega)).mp c33s22) c33s28]; simp only [mgS, mtS, pickI, pickL, if_neg c33s53])) <;> (try simp only [ex33s42, ex33s63, ex33s102, ex33s120, ex33s138, ex33s148, ex33s153, nI_1]) <;> (try rw [upd_upd])
            rw [hu33s15, gup_ne hk0]
            rw [hu33s14, gup_ne hk5]
            rw [hu33s13, gup_ne hk4]
            rw [hu33s12, gup_ne hk3]
            rw [hu33s11, gup_ne hk2]
            rw [hu33s10, gup_ne hk1]
            rw [hwL33s, gup_ne hk5, gup_ne hk4, gup_ne hk3, gup_ne hk2, gup_ne hk1, gup_ne hk0]
            rw [gup_ne hk5, gup_ne hk4, gup_ne hk3, gup_ne hk2, gup_ne hk1, gup_ne hk0]
          · rw [mvS_y ((bit1 (s := s) (i := iL33) (by omega) (by omega)).mp c33s22) c33s28]; simp only [mgS, mtS, pickI, pickL, if_neg c33s53] <;> simp only [ex33s42, ex33s63, ex33s102, ex33s120, ex33s138, ex33s148, ex33s153, nI_1]
  · skip
    show GW Z _ _ _ ad (gup (gup (gup (gup (gup (gup u (m + 18) (.inl ((X.2 0), 48, .inl ((mvS (fun x => balM cl mem cof str pai sha sen nb c (nI x)) c.toNatClampNeg s (gps c.toNatClampNeg) ((grp, sds, gts, sms, tck, tc, 0, 0, -1) : gSt) 12).1)))) (m + 20) (.inl ((X.2 0), 44, .inl ((mvS (fun x => balM cl mem cof str pai sha sen nb c (nI x)) c.toNatClampNeg s (gps c.toNatClampNeg) ((grp, sds, gts, sms, tck, tc, 0, 0, -1) : gSt) 12).2.1)))) (m + 21) (.inl ((X.2 0), 44, .inl ((mvS (fun x => balM cl mem cof str pai sha sen nb c (nI x)) c.toNatClampNeg s (gps c.toNatClampNeg) ((grp, sds, gts, sms, tck, tc, 0, 0, -1) : gSt) 12).2.2.1)))) (m + 22) (.inl ((X.2 1), 44, .inr (.inl ((mvS (fun x => balM cl mem cof str pai sha sen nb c (nI x)) c.toNatClampNeg s (gps c.toNatClampNeg) ((grp, sds, gts, sms, tck, tc, 0, 0, -1) : gSt) 12).2.2.2.1))))) (m + 23) (.inl ((X.2 2), 44, .inl ((mvS (fun x => balM cl mem cof str pai sha sen nb c (nI x)) c.toNatClampNeg s (gps c.toNatClampNeg) ((grp, sds, gts, sms, tck, tc, 0, 0, -1) : gSt) 12).2.2.2.2.1)))) (m + 19) (.inl ((X.2 0), 4, .inl (upd man c.toNatClampNeg (nI (mvS (fun x => balM cl mem cof str pai sha sen nb c (nI x)) c.toNatClampNeg s (gps c.toNatClampNeg) ((grp, sds, gts, sms, tck, tc, 0, 0, -1) : gSt) 12).2.2.2.2.2.1))))) _ [(0, .ref (ad m)), (1, .int c), (2, .int (nI s)), (3, .long ((mvS (fun x => balM cl mem cof str pai sha sen nb c (nI x)) c.toNatClampNeg s (gps c.toNatClampNeg) ((grp, sds, gts, sms, tck, tc, 0, 0, -1) : gSt) 12).2.2.2.2.2.2.2.1)), (5, .int ((mvS (fun x => balM cl mem cof str pai sha sen nb c (nI x)) c.toNatClampNeg s (gps c.toNatClampNeg) ((grp, sds, gts, sms, tck, tc, 0, 0, -1) : gSt) 12).2.2.2.2.2.2.2.2)), (6, .int (nI 12))] _ _ 8 []
    obtain ⟨wL33e, hwL33e⟩ : ∃ z, z = gup (gup (gup (gup (gup (gup u (m + 18) (.inl ((X.2 0), 48, .inl ((mvS (fun x => balM cl mem cof str pai sha sen nb c (nI x)) c.toNatClampNeg s (gps c.toNatClampNeg) ((grp, sds, gts, sms, tck, tc, 0, 0, -1) : gSt) 12).1)))) (m + 20) (.inl ((X.2 0), 44, .inl ((mvS (fun x => balM cl mem cof str pai sha sen nb c (nI x)) c.toNatClampNeg s (gps c.toNatClampNeg) ((grp, sds, gts, sms, tck, tc, 0, 0, -1) : gSt) 12).2.1)))) (m + 21) (.inl ((X.2 0), 44, .inl ((mvS (fun x => balM cl mem cof str pai sha sen nb c (nI x)) c.toNatClampNeg s (gps c.toNatClampNeg) ((grp, sds, gts, sms, tck, tc, 0, 0, -1) : gSt) 12).2.2.1)))) (m + 22) (.inl ((X.2 1), 44, .inr (.inl ((mvS (fun x => balM cl mem cof str pai sha sen nb c (nI x)) c.toNatClampNeg s (gps c.toNatClampNeg) ((grp, sds, gts, sms, tck, tc, 0, 0, -1) : gSt) 12).2.2.2.1))))) (m + 23) (.inl ((X.2 2), 44, .inl ((mvS (fun x => balM cl mem cof str pai sha sen nb c (nI x)) c.toNatClampNeg s (gps c.toNatClampNeg) ((grp, sds, gts, sms, tck, tc, 0, 0, -1) : gSt) 12).2.2.2.2.1)))) (m + 19) (.inl ((X.2 0), 4, .inl (upd man c.toNatClampNeg (nI (mvS (fun x => balM cl mem cof str pai sha sen nb c (nI x)) c.toNatClampNeg s (gps c.toNatClampNeg) ((grp, sds, gts, sms, tck, tc, 0, 0, -1) : gSt) 12).2.2.2.2.2.1)))) := ⟨_, rfl⟩
    rw [← hwL33e]
    have hwL33e_0 : wL33e m = some (mO ad m 0 cl dr wy ce ra li bi) := by rw [hwL33e, gup_ne (by omega), gup_ne (by omega), gup_ne (by omega), gup_ne (by omega), gup_ne (by omega), gup_ne (by omega)]; exact hm
    have hwL33e_1 : wL33e (m + 1) = some (.inl ((X.2 0), 4, .inl mem)) := by rw [hwL33e, gup_ne (by omega), gup_ne (by omega), gup_ne (by omega), gup_ne (by omega), gup_ne (by omega), gup_ne (by omega)]; exact h_mem
    have hwL33e_2 : wL33e (m + 9) = some (.inl ((X.2 0), 64, .inl cof)) := by rw [hwL33e, gup_ne (by omega), gup_ne (by omega), gup_ne (by omega), gup_ne (by omega), gup_ne (by omega), gup_ne (by omega)]; exact h_cof
    have hwL33e_3 : wL33e (m + 11) = some (.inl ((X.2 2), 64, .inl str)) := by rw [hwL33e, gup_ne (by omega), gup_ne (by omega), gup_ne (by omega), gup_ne (by omega), gup_ne (by omega), gup_ne (by omega)]; exact h_str
    have hwL33e_4 : wL33e (m + 17) = some (.inl ((X.2 0), 4, .inl gps)) := by rw [hwL33e, gup_ne (by omega), gup_ne (by omega), gup_ne (by omega), gup_ne (by omega), gup_ne (by omega), gup_ne (by omega)]; exact h_gps
    have hwL33e_5 : wL33e (m + 18) = some (.inl ((X.2 0), 48, .inl ((mvS (fun x => balM cl mem cof str pai sha sen nb c (nI x)) c.toNatClampNeg s (gps c.toNatClampNeg) ((grp, sds, gts, sms, tck, tc, 0, 0, -1) : gSt) 12).1))) := by rw [hwL33e, gup_ne (by omega), gup_ne (by omega), gup_ne (by omega), gup_ne (by omega), gup_ne (by omega), gup_self]
    have hwL33e_6 : wL33e (m + 19) = some (.inl ((X.2 0), 4, .inl (upd man c.toNatClampNeg (nI (mvS (fun x => balM cl mem cof str pai sha sen nb c (nI x)) c.toNatClampNeg s (gps c.toNatClampNeg) ((grp, sds, gts, sms, tck, tc, 0, 0, -1) : gSt) 12).2.2.2.2.2.1)))) := by rw [hwL33e, gup_self]
    have hwL33e_7 : wL33e (m + 20) = some (.inl ((X.2 0), 44, .inl ((mvS (fun x => balM cl mem cof str pai sha sen nb c (nI x)) c.toNatClampNeg s (gps c.toNatClampNeg) ((grp, sds, gts, sms, tck, tc, 0, 0, -1) : gSt) 12).2.1))) := by rw [hwL33e, gup_ne (by omega), gup_ne (by omega), gup_ne (by omega), gup_ne (by omega), gup_self]
    have hwL33e_8 : wL33e (m + 21) = some (.inl ((X.2 0), 44, .inl ((mvS (fun x => balM cl mem cof str pai sha sen nb c (nI x)) c.toNatClampNeg s (gps c.toNatClampNeg) ((grp, sds, gts, sms, tck, tc, 0, 0, -1) : gSt) 12).2.2.1))) := by rw [hwL33e, gup_ne (by omega), gup_ne (by omega), gup_ne (by omega), gup_self]
    have hwL33e_9 : wL33e (m + 23) = some (.inl ((X.2 2), 44, .inl ((mvS (fun x => balM cl mem cof str pai sha sen nb c (nI x)) c.toNatClampNeg s (gps c.toNatClampNeg) ((grp, sds, gts, sms, tck, tc, 0, 0, -1) : gSt) 12).2.2.2.2.1))) := by rw [hwL33e, gup_ne (by omega), gup_self]
    have hwL33e_10 : wL33e (m + 15) = some (.inl ((X.2 1), 48, .inr (.inl sen))) := by rw [hwL33e, gup_ne (by omega), gup_ne (by omega), gup_ne (by omega), gup_ne (by omega), gup_ne (by omega), gup_ne (by omega)]; exact h_sen
    have hwL33e_11 : wL33e (m + 13) = some (.inl ((X.2 1), 768, .inr (.inl pai))) := by rw [hwL33e, gup_ne (by omega), gup_ne (by omega), gup_ne (by omega), gup_ne (by omega), gup_ne (by omega), gup_ne (by omega)]; exact h_pai
    have hwL33e_12 : wL33e (m + 12) = some (.inl ((X.2 1), 768, .inr (.inl sha))) := by rw [hwL33e, gup_ne (by omega), gup_ne (by omega), gup_ne (by omega), gup_ne (by omega), gup_ne (by omega), gup_ne (by omega)]; exact h_sha
    have hwL33e_13 : wL33e (m + 22) = some (.inl ((X.2 1), 44, .inr (.inl ((mvS (fun x => balM cl mem cof str pai sha sen nb c (nI x)) c.toNatClampNeg s (gps c.toNatClampNeg) ((grp, sds, gts, sms, tck, tc, 0, 0, -1) : gSt) 12).2.2.2.1)))) := by rw [hwL33e, gup_ne (by omega), gup_ne (by omega), gup_self]
    refine g_iload C d_M_moves_8 5 rfl ?_
    refine g_bipush (v := 12) C d_M_moves_10 (by decide) ?_
    refine g_icmp_ge 159 C d_M_moves_12 (by decide) (fun c33e12 => ?_) (fun c33e12 => ?_)
    rotate_left
    · exact absurd (Int32.le_refl _) c33e12
    refine g_aload_n C d_M_moves_159 rfl 0 rfl ?_
    refine g_get m 24 C hwL33e_0 rfl i_M (by decide) (gmem wd_542 rfl) rfl rfl d_M_moves_160 ?_
    refine g_iload_n C d_M_moves_163 rfl 1 rfl ?_
    refine g_dup2_11 C d_M_moves_164 rfl rfl ?_
    refine g_iald (m + 17) 0 C hwL33e_4 rfl hc d_M_moves_165 ?_
    refine g_iconst (v := 1) C d_M_moves_166 (by decide) ?_
    refine g_iadd C d_M_moves_167 ?_
    refine g_topi (fun x33e168 ex33e168 => ?_)
    refine g_iast (m + 17) 0 C hwL33e_4 rfl hc d_M_moves_168 ?_
    obtain ⟨u33e17, hu33e17⟩ : ∃ z, z = gup wL33e (m + 17) (.inl ((X.2 0), 4, .inl (upd gps (Int32.toNatClampNeg c) x33e168))) := ⟨_, rfl⟩
    rw [← hu33e17]
    have hu33e17_0 : u33e17 m = some (mO ad m 0 cl dr wy ce ra li bi) := by rw [hu33e17, gup_ne (by omega)]; exact hwL33e_0
    have hu33e17_1 : u33e17 (m + 1) = some (.inl ((X.2 0), 4, .inl mem)) := by rw [hu33e17, gup_ne (by omega)]; exact hwL33e_1
    have hu33e17_2 : u33e17 (m + 9) = some (.inl ((X.2 0), 64, .inl cof)) := by rw [hu33e17, gup_ne (by omega)]; exact hwL33e_2
    have hu33e17_3 : u33e17 (m + 11) = some (.inl ((X.2 2), 64, .inl str)) := by rw [hu33e17, gup_ne (by omega)]; exact hwL33e_3
    have hu33e17_4 : u33e17 (m + 17) = some (.inl ((X.2 0), 4, .inl (upd gps (Int32.toNatClampNeg c) x33e168))) := by rw [hu33e17]; exact gup_self _ _ _
    have hu33e17_5 : u33e17 (m + 18) = some (.inl ((X.2 0), 48, .inl ((mvS (fun x => balM cl mem cof str pai sha sen nb c (nI x)) c.toNatClampNeg s (gps c.toNatClampNeg) ((grp, sds, gts, sms, tck, tc, 0, 0, -1) : gSt) 12).1))) := by rw [hu33e17, gup_ne (by omega)]; exact hwL33e_5
    have hu33e17_6 : u33e17 (m + 19) = some (.inl ((X.2 0), 4, .inl (upd man c.toNatClampNeg (nI (mvS (fun x => balM cl mem cof str pai sha sen nb c (nI x)) c.toNatClampNeg s (gps c.toNatClampNeg) ((grp, sds, gts, sms, tck, tc, 0, 0, -1) : gSt) 12).2.2.2.2.2.1)))) := by rw [hu33e17, gup_ne (by omega)]; exact hwL33e_6
    have hu33e17_7 : u33e17 (m + 20) = some (.inl ((X.2 0), 44, .inl ((mvS (fun x => balM cl mem cof str pai sha sen nb c (nI x)) c.toNatClampNeg s (gps c.toNatClampNeg) ((grp, sds, gts, sms, tck, tc, 0, 0, -1) : gSt) 12).2.1))) := by rw [hu33e17, gup_ne (by omega)]; exact hwL33e_7
    have hu33e17_8 : u33e17 (m + 21) = some (.inl ((X.2 0), 44, .inl ((mvS (fun x => balM cl mem cof str pai sha sen nb c (nI x)) c.toNatClampNeg s (gps c.toNatClampNeg) ((grp, sds, gts, sms, tck, tc, 0, 0, -1) : gSt) 12).2.2.1))) := by rw [hu33e17, gup_ne (by omega)]; exact hwL33e_8
    have hu33e17_9 : u33e17 (m + 23) = some (.inl ((X.2 2), 44, .inl ((mvS (fun x => balM cl mem cof str pai sha sen nb c (nI x)) c.toNatClampNeg s (gps c.toNatClampNeg) ((grp, sds, gts, sms, tck, tc, 0, 0, -1) : gSt) 12).2.2.2.2.1))) := by rw [hu33e17, gup_ne (by omega)]; exact hwL33e_9
    have hu33e17_10 : u33e17 (m + 15) = some (.inl ((X.2 1), 48, .inr (.inl sen))) := by rw [hu33e17, gup_ne (by omega)]; exact hwL33e_10
    have hu33e17_11 : u33e17 (m + 13) = some (.inl ((X.2 1), 768, .inr (.inl pai))) := by rw [hu33e17, gup_ne (by omega)]; exact hwL33e_11
    have hu33e17_12 : u33e17 (m + 12) = some (.inl ((X.2 1), 768, .inr (.inl sha))) := by rw [hu33e17, gup_ne (by omega)]; exact hwL33e_12
    have hu33e17_13 : u33e17 (m + 22) = some (.inl ((X.2 1), 44, .inr (.inl ((mvS (fun x => balM cl mem cof str pai sha sen nb c (nI x)) c.toNatClampNeg s (gps c.toNatClampNeg) ((grp, sds, gts, sms, tck, tc, 0, 0, -1) : gSt) 12).2.2.2.1)))) := by rw [hu33e17, gup_ne (by omega)]; exact hwL33e_13
    have hfin33e18 : u33e17 = gup (gup (gup (gup (gup (gup (gup u (m + 18) (.inl ((X.2 0), 48, .inl ((mvS (fun x => balM cl mem cof str pai sha sen nb c (nI x)) c.toNatClampNeg s (gps c.toNatClampNeg) ((grp, sds, gts, sms, tck, tc, 0, 0, -1) : gSt) 12).1)))) (m + 20) (.inl ((X.2 0), 44, .inl ((mvS (fun x => balM cl mem cof str pai sha sen nb c (nI x)) c.toNatClampNeg s (gps c.toNatClampNeg) ((grp, sds, gts, sms, tck, tc, 0, 0, -1) : gSt) 12).2.1)))) (m + 21) (.inl ((X.2 0), 44, .inl ((mvS (fun x => balM cl mem cof str pai sha sen nb c (nI x)) c.toNatClampNeg s (gps c.toNatClampNeg) ((grp, sds, gts, sms, tck, tc, 0, 0, -1) : gSt) 12).2.2.1)))) (m + 22) (.inl ((X.2 1), 44, .inr (.inl ((mvS (fun x => balM cl mem cof str pai sha sen nb c (nI x)) c.toNatClampNeg s (gps c.toNatClampNeg) ((grp, sds, gts, sms, tck, tc, 0, 0, -1) : gSt) 12).2.2.2.1))))) (m + 23) (.inl ((X.2 2), 44, .inl ((mvS (fun x => balM cl mem cof str pai sha sen nb c (nI x)) c.toNatClampNeg s (gps c.toNatClampNeg) ((grp, sds, gts, sms, tck, tc, 0, 0, -1) : gSt) 12).2.2.2.2.1)))) (m + 19) (.inl ((X.2 0), 4, .inl (upd man c.toNatClampNeg (nI (mvS (fun x => balM cl mem cof str pai sha sen nb c (nI x)) c.toNatClampNeg s (gps c.toNatClampNeg) ((grp, sds, gts, sms, tck, tc, 0, 0, -1) : gSt) 12).2.2.2.2.2.1))))) (m + 17) (.inl ((X.2 0), 4, .inl (upd gps c.toNatClampNeg (gps c.toNatClampNeg + 1)))) := by
      funext k
      by_cases hk0 : k = m + 18
      · rw [hk0, hu33e17_5, gup_ne (by omega), gup_ne (by omega), gup_ne (by omega), gup_ne (by omega), gup_ne (by omega), gup_ne (by omega), gup_self] <;> (try simp only [ex33e168])
      by_cases hk1 : k = m + 20
      · rw [hk1, hu33e17_7, gup_ne (by omega), gup_ne (by omega), gup_ne (by omega), gup_ne (by omega), gup_ne (by omega), gup_self] <;> (try simp only [ex33e168])
      by_cases hk2 : k = m + 21
      · rw [hk2, hu33e17_8, gup_ne (by omega), gup_ne (by omega), gup_ne (by omega), gup_ne (by omega), gup_self] <;> (try simp only [ex33e168])
      by_cases hk3 : k = m + 22
      · rw [hk3, hu33e17_13, gup_ne (by omega), gup_ne (by omega), gup_ne (by omega), gup_self] <;> (try simp only [ex33e168])
      by_cases hk4 : k = m + 23
      · rw [hk4, hu33e17_9, gup_ne (by omega), gup_ne (by omega), gup_self] <;> (try simp only [ex33e168])
      by_cases hk5 : k = m + 19
      · rw [hk5, hu33e17_6, gup_ne (by omega), gup_self] <;> (try simp only [ex33e168])
      by_cases hk6 : k = m + 17
      · rw [hk6, hu33e17_4, gup_self] <;> (try simp only [ex33e168])
      rw [hu33e17, gup_ne hk6]
      rw [hwL33e, gup_ne hk5, gup_ne hk4, gup_ne hk3, gup_ne hk2, gup_ne hk1, gup_ne hk0]
      rw [gup_ne hk6, gup_ne hk5, gup_ne hk4, gup_ne hk3, gup_ne hk2, gup_ne hk1, gup_ne hk0]
    exact g_vret C hR hret ⟨rfl, hfin33e18, rfl⟩ d_M_moves_169
