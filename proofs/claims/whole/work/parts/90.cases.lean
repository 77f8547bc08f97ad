set_option maxHeartbeats 4000000 in
set_option maxRecDepth 100000 in
theorem lw_c0 {Z : gZ} {b L : Nat} {xs : Nat → Int32} {X : gX} (G : lwG Z b L xs X) {x m o i cs ss : Nat} (hm : x + 512 ≤ m) (ho : m + 26 ≤ o) (hi : i + 5 ≤ L) (hL : L ≤ 2560) (hcs : cs + 16 ≤ 601024) (hss : ss + 200 ≤ 7293034) {ad : Nat → Nat} {u : gW} {sz : Nat} {M : mM} {nC nB : Nat} (h : lwI X ad x m o M u nC nB) (hp : lwP ad x nC nB sz) (K : lwN Z X b x m o i (cs + 16) (ss + 200)) : GW Z room_1 8 (EE X) ad u sz (lvL ad b x m o i) cs ss 132 [] := by
  have C := G.1
  obtain ⟨hk, hw, f, hf⟩ := h
  refine g_aload_n C d_L_law_132 rfl 3 rfl ?_
  refine g_callV 0 C (t_X_club _ X ad u sz x M nC nB  hk hp.1) (gmem wd_100 rfl) (gmem wd_101 rfl) (gmem wd_102 rfl) (gmem wd_1 rfl) (gmem wd_103 rfl) ⟨by decide, by decide, by decide +kernel⟩ ⟨Nat.le_of_ble_eq_true rfl, Nat.le_of_ble_eq_true rfl⟩ hk.2.1.1 rfl rfl rfl (Nat.le_of_ble_eq_true rfl) d_L_law_133 ⟨(show cs + 9 ≤ 601024 by omega), (show ss + 99 ≤ 7293034 by omega)⟩ ?_
  rintro v1 u1 s1 ⟨rfl, ⟨nC1, nB1, hk1⟩, hf1⟩
  have hw1 : mW X ad m M u1 := mW_fr hw fun n p q => hf1 n (by omega)
  show GW Z room_1 8 (EE X) ad u1 s1 (lvL ad b x m o i) (cs + 9) (ss + 99) 136 [.int (a_club M)]
  refine g_aload_n C d_L_law_136 rfl 2 rfl ?_
  refine g_callV 0 C (t_M_club _ X ad u1 s1 m M nC nB  hw1 hk.1) (gmem wd_622 rfl) (gmem wd_623 rfl) (gmem wd_624 rfl) (gmem wd_4 rfl) (gmem wd_625 rfl) ⟨by decide, by decide, by decide +kernel⟩ ⟨Nat.le_of_ble_eq_true rfl, Nat.le_of_ble_eq_true rfl⟩ (mW_0 hw1) rfl rfl rfl (Nat.le_of_ble_eq_true rfl) d_L_law_137 ⟨(show cs + 9 + 0 ≤ 601024 by omega), (show ss + 99 + 0 ≤ 7293034 by omega)⟩ ?_
  rintro v2 u2 s2 ⟨rfl, hw2, hf2⟩
  have hk2 := kD_fr hk1 fun n p q => hf2 n (Or.inl (by omega))
  show GW Z room_1 8 (EE X) ad u2 s2 (lvL ad b x m o i) (cs + 9 + 0) (ss + 99 + 0) 140 [.int (a_club M), .int (a_club M)]
  refine g_icmp_eq 834 C d_L_law_140 (by decide) (fun _ => ?_) (fun hn => absurd rfl hn)
  refine g_widen (k := cs + 16) (n := ss + 200) (show cs + 9 + 0 ≤ cs + 16 by omega) (show ss + 99 + 0 ≤ ss + 200 by omega) ?_
  exact K ad u2 s2 _ nC1 nB1 ⟨hk2, hw2, f, (hf2 o (Or.inr (by omega))).trans ((hf1 o (by omega)).trans hf)⟩
set_option maxHeartbeats 4000000 in
set_option maxRecDepth 100000 in
theorem lw_c1 {Z : gZ} {b L : Nat} {xs : Nat → Int32} {X : gX} (G : lwG Z b L xs X) {x m o i cs ss : Nat} (hm : x + 512 ≤ m) (ho : m + 26 ≤ o) (hi : i + 5 ≤ L) (hL : L ≤ 2560) (hcs : cs + 16 ≤ 601024) (hss : ss + 200 ≤ 7293034) {ad : Nat → Nat} {u : gW} {sz : Nat} {M : mM} {nC nB : Nat} (h : lwI X ad x m o M u nC nB) (hp : lwP ad x nC nB sz) (K : lwN Z X b x m o i (cs + 16) (ss + 200)) : GW Z room_1 8 (EE X) ad u sz (lvL ad b x m o i) cs ss 145 [] := by
  have C := G.1
  obtain ⟨hk, hw, f, hf⟩ := h
  refine g_aload_n C d_L_law_145 rfl 3 rfl ?_
  refine g_aload_n C d_L_law_146 rfl 4 rfl ?_
  refine g_iload C d_L_law_147 0 rfl ?_
  refine g_iconst (v := 1) C d_L_law_149 (by decide) ?_
  refine g_iadd C d_L_law_150 ?_
  refine g_sld C G.2.1 (lw_in 1 1 rfl (by omega) hL) d_L_law_151 ?_
  refine g_callV 1 C (t_X_member _ X ad u sz x M nC nB (xs (nI i + 1).toNatClampNeg) hk) (gmem wd_185 rfl) (gmem wd_186 rfl) (gmem wd_187 rfl) (gmem wd_1 rfl) (gmem wd_188 rfl) ⟨by decide, by decide, by decide +kernel⟩ ⟨Nat.le_of_ble_eq_true rfl, Nat.le_of_ble_eq_true rfl⟩ hk.2.1.1 rfl rfl rfl (Nat.le_of_ble_eq_true rfl) d_L_law_152 ⟨(show cs + 0 ≤ 601024 by omega), (show ss + 0 ≤ 7293034 by omega)⟩ ?_
  rintro v1 u1 s1 ⟨rfl, ⟨nC1, nB1, hk1⟩, hf1⟩
  have hw1 : mW X ad m M u1 := mW_fr hw fun n p q => hf1 n (by omega)
  show GW Z room_1 8 (EE X) ad u1 s1 (lvL ad b x m o i) (cs + 0) (ss + 0) 155 [.int (a_member M (xs (nI i + 1).toNatClampNeg))]
  refine g_aload_n C d_L_law_155 rfl 2 rfl ?_
  refine g_aload_n C d_L_law_156 rfl 4 rfl ?_
  refine g_iload C d_L_law_157 0 rfl ?_
  refine g_iconst (v := 1) C d_L_law_159 (by decide) ?_
  refine g_iadd C d_L_law_160 ?_
  refine g_sld C G.2.1 (lw_in 1 1 rfl (by omega) hL) d_L_law_161 ?_
  refine g_callV 1 C (t_M_member _ X ad u1 s1 m M nC nB (xs (nI i + 1).toNatClampNeg) hw1 hk.1) (gmem wd_626 rfl) (gmem wd_627 rfl) (gmem wd_628 rfl) (gmem wd_4 rfl) (gmem wd_629 rfl) ⟨by decide, by decide, by decide +kernel⟩ ⟨Nat.le_of_ble_eq_true rfl, Nat.le_of_ble_eq_true rfl⟩ (mW_0 hw1) rfl rfl rfl (Nat.le_of_ble_eq_true rfl) d_L_law_162 ⟨(show cs + 0 + 0 ≤ 601024 by omega), (show ss + 0 + 0 ≤ 7293034 by omega)⟩ ?_
  rintro v2 u2 s2 ⟨rfl, hw2, hf2⟩
  have hk2 := kD_fr hk1 fun n p q => hf2 n (Or.inl (by omega))
  show GW Z room_1 8 (EE X) ad u2 s2 (lvL ad b x m o i) (cs + 0 + 0) (ss + 0 + 0) 165 [.int (a_member M (xs (nI i + 1).toNatClampNeg)), .int (a_member M (xs (nI i + 1).toNatClampNeg))]
  refine g_icmp_eq 834 C d_L_law_165 (by decide) (fun _ => ?_) (fun hn => absurd rfl hn)
  refine g_widen (k := cs + 16) (n := ss + 200) (show cs + 0 + 0 ≤ cs + 16 by omega) (show ss + 0 + 0 ≤ ss + 200 by omega) ?_
  exact K ad u2 s2 _ nC1 nB1 ⟨hk2, hw2, f, (hf2 o (Or.inr (by omega))).trans ((hf1 o (by omega)).trans hf)⟩
set_option maxHeartbeats 4000000 in
set_option maxRecDepth 100000 in
theorem lw_c2 {Z : gZ} {b L : Nat} {xs : Nat → Int32} {X : gX} (G : lwG Z b L xs X) {x m o i cs ss : Nat} (hm : x + 512 ≤ m) (ho : m + 26 ≤ o) (hi : i + 5 ≤ L) (hL : L ≤ 2560) (hcs : cs + 16 ≤ 601024) (hss : ss + 200 ≤ 7293034) {ad : Nat → Nat} {u : gW} {sz : Nat} {M : mM} {nC nB : Nat} (h : lwI X ad x m o M u nC nB) (hp : lwP ad x nC nB sz) (K : lwN Z X b x m o i (cs + 16) (ss + 200)) : GW Z room_1 8 (EE X) ad u sz (lvL ad b x m o i) cs ss 170 [] := by
  have C := G.1
  obtain ⟨hk, hw, f, hf⟩ := h
  refine g_aload_n C d_L_law_170 rfl 3 rfl ?_
  refine g_aload_n C d_L_law_171 rfl 4 rfl ?_
  refine g_iload C d_L_law_172 0 rfl ?_
  refine g_iconst (v := 1) C d_L_law_174 (by decide) ?_
  refine g_iadd C d_L_law_175 ?_
  refine g_sld C G.2.1 (lw_in 1 1 rfl (by omega) hL) d_L_law_176 ?_
  refine g_aload_n C d_L_law_177 rfl 4 rfl ?_
  refine g_iload C d_L_law_178 0 rfl ?_
  refine g_iconst (v := 2) C d_L_law_180 (by decide) ?_
  refine g_iadd C d_L_law_181 ?_
  refine g_sld C G.2.1 (lw_in 2 2 rfl (by omega) hL) d_L_law_182 ?_
  refine g_callV 2 C (t_X_leave _ X ad u sz x M nC nB (xs (nI i + 1).toNatClampNeg) (xs (nI i + 2).toNatClampNeg) hk) (gmem wd_193 rfl) (gmem wd_194 rfl) (gmem wd_195 rfl) (gmem wd_1 rfl) (gmem wd_196 rfl) ⟨by decide, by decide, by decide +kernel⟩ ⟨Nat.le_of_ble_eq_true rfl, Nat.le_of_ble_eq_true rfl⟩ hk.2.1.1 rfl rfl rfl (Nat.le_of_ble_eq_true rfl) d_L_law_183 ⟨(show cs + 0 ≤ 601024 by omega), (show ss + 0 ≤ 7293034 by omega)⟩ ?_
  rintro v1 u1 s1 ⟨rfl, ⟨nC1, nB1, hk1⟩, hf1⟩
  have hw1 : mW X ad m M u1 := mW_fr hw fun n p q => hf1 n (by omega)
  show GW Z room_1 8 (EE X) ad u1 s1 (lvL ad b x m o i) (cs + 0) (ss + 0) 186 [.int (bI (q_leave M (xs (nI i + 1).toNatClampNeg) (xs (nI i + 2).toNatClampNeg)))]
  refine g_aload_n C d_L_law_186 rfl 2 rfl ?_
  refine g_aload_n C d_L_law_187 rfl 4 rfl ?_
  refine g_iload C d_L_law_188 0 rfl ?_
  refine g_iconst (v := 1) C d_L_law_190 (by decide) ?_
  refine g_iadd C d_L_law_191 ?_
  refine g_sld C G.2.1 (lw_in 1 1 rfl (by omega) hL) d_L_law_192 ?_
  refine g_aload_n C d_L_law_193 rfl 4 rfl ?_
  refine g_iload C d_L_law_194 0 rfl ?_
  refine g_iconst (v := 2) C d_L_law_196 (by decide) ?_
  refine g_iadd C d_L_law_197 ?_
  refine g_sld C G.2.1 (lw_in 2 2 rfl (by omega) hL) d_L_law_198 ?_
  refine g_callV 2 C (t_M_leave _ X ad u1 s1 m M nC nB (xs (nI i + 1).toNatClampNeg) (xs (nI i + 2).toNatClampNeg) hw1 hk.1) (gmem wd_634 rfl) (gmem wd_635 rfl) (gmem wd_636 rfl) (gmem wd_4 rfl) (gmem wd_637 rfl) ⟨by decide, by decide, by decide +kernel⟩ ⟨Nat.le_of_ble_eq_true rfl, Nat.le_of_ble_eq_true rfl⟩ (mW_0 hw1) rfl rfl rfl (Nat.le_of_ble_eq_true rfl) d_L_law_199 ⟨(show cs + 0 + 0 ≤ 601024 by omega), (show ss + 0 + 0 ≤ 7293034 by omega)⟩ ?_
  rintro v2 u2 s2 ⟨rfl, hw2, hf2⟩
  have hk2 := kD_fr hk1 fun n p q => hf2 n (Or.inl (by omega))
  show GW Z room_1 8 (EE X) ad u2 s2 (lvL ad b x m o i) (cs + 0 + 0) (ss + 0 + 0) 202 [.int (bI (q_leave M (xs (nI i + 1).toNatClampNeg) (xs (nI i + 2).toNatClampNeg))), .int (bI (q_leave M (xs (nI i + 1).toNatClampNeg) (xs (nI i + 2).toNatClampNeg)))]
  refine g_icmp_eq 834 C d_L_law_202 (by decide) (fun _ => ?_) (fun hn => absurd rfl hn)
  refine g_widen (k := cs + 16) (n := ss + 200) (show cs + 0 + 0 ≤ cs + 16 by omega) (show ss + 0 + 0 ≤ ss + 200 by omega) ?_
  exact K ad u2 s2 _ nC1 nB1 ⟨hk2, hw2, f, (hf2 o (Or.inr (by omega))).trans ((hf1 o (by omega)).trans hf)⟩
set_option maxHeartbeats 4000000 in
set_option maxRecDepth 100000 in
theorem lw_c3 {Z : gZ} {b L : Nat} {xs : Nat → Int32} {X : gX} (G : lwG Z b L xs X) {x m o i cs ss : Nat} (hm : x + 512 ≤ m) (ho : m + 26 ≤ o) (hi : i + 5 ≤ L) (hL : L ≤ 2560) (hcs : cs + 16 ≤ 601024) (hss : ss + 200 ≤ 7293034) {ad : Nat → Nat} {u : gW} {sz : Nat} {M : mM} {nC nB : Nat} (h : lwI X ad x m o M u nC nB) (hp : lwP ad x nC nB sz) (K : lwN Z X b x m o i (cs + 16) (ss + 200)) : GW Z room_1 8 (EE X) ad u sz (lvL ad b x m o i) cs ss 207 [] := by
  have C := G.1
  obtain ⟨hk, hw, f, hf⟩ := h
  refine g_aload_n C d_L_law_207 rfl 3 rfl ?_
  refine g_aload_n C d_L_law_208 rfl 4 rfl ?_
  refine g_iload C d_L_law_209 0 rfl ?_
  refine g_iconst (v := 1) C d_L_law_211 (by decide) ?_
  refine g_iadd C d_L_law_212 ?_
  refine g_sld C G.2.1 (lw_in 1 1 rfl (by omega) hL) d_L_law_213 ?_
  refine g_aload_n C d_L_law_214 rfl 4 rfl ?_
  refine g_iload C d_L_law_215 0 rfl ?_
  refine g_iconst (v := 2) C d_L_law_217 (by decide) ?_
  refine g_iadd C d_L_law_218 ?_
  refine g_sld C G.2.1 (lw_in 2 2 rfl (by omega) hL) d_L_law_219 ?_
  refine g_aload_n C d_L_law_220 rfl 4 rfl ?_
  refine g_iload C d_L_law_221 0 rfl ?_
  refine g_iconst (v := 3) C d_L_law_223 (by decide) ?_
  refine g_iadd C d_L_law_224 ?_
  refine g_sld C G.2.1 (lw_in 3 3 rfl (by omega) hL) d_L_law_225 ?_
  refine g_aload_n C d_L_law_226 rfl 4 rfl ?_
  refine g_iload C d_L_law_227 0 rfl ?_
  refine g_iconst (v := 4) C d_L_law_229 (by decide) ?_
  refine g_iadd C d_L_law_230 ?_
  refine g_sld C G.2.1 (lw_in 4 4 rfl (by omega) hL) d_L_law_231 ?_
  refine g_callV 4 C (t_X_bill _ X ad u sz x M nC nB (xs (nI i + 1).toNatClampNeg) (xs (nI i + 2).toNatClampNeg) (xs (nI i + 3).toNatClampNeg) (xs (nI i + 4).toNatClampNeg) hk) (gmem wd_209 rfl) (gmem wd_210 rfl) (gmem wd_211 rfl) (gmem wd_1 rfl) (gmem wd_212 rfl) ⟨by decide, by decide, by decide +kernel⟩ ⟨Nat.le_of_ble_eq_true rfl, Nat.le_of_ble_eq_true rfl⟩ hk.2.1.1 rfl rfl rfl (Nat.le_of_ble_eq_true rfl) d_L_law_232 ⟨(show cs + 0 ≤ 601024 by omega), (show ss + 0 ≤ 7293034 by omega)⟩ ?_
  rintro v1 u1 s1 ⟨rfl, ⟨nC1, nB1, hk1⟩, hf1⟩
  have hw1 : mW X ad m M u1 := mW_fr hw fun n p q => hf1 n (by omega)
  show GW Z room_1 8 (EE X) ad u1 s1 (lvL ad b x m o i) (cs + 0) (ss + 0) 235 [.int (bI (q_bill M (xs (nI i + 1).toNatClampNeg) (xs (nI i + 2).toNatClampNeg) (xs (nI i + 3).toNatClampNeg) (xs (nI i + 4).toNatClampNeg)))]
  refine g_aload_n C d_L_law_235 rfl 2 rfl ?_
  refine g_aload_n C d_L_law_236 rfl 4 rfl ?_
  refine g_iload C d_L_law_237 0 rfl ?_
  refine g_iconst (v := 1) C d_L_law_239 (by decide) ?_
  refine g_iadd C d_L_law_240 ?_
  refine g_sld C G.2.1 (lw_in 1 1 rfl (by omega) hL) d_L_law_241 ?_
  refine g_aload_n C d_L_law_242 rfl 4 rfl ?_
  refine g_iload C d_L_law_243 0 rfl ?_
  refine g_iconst (v := 2) C d_L_law_245 (by decide) ?_
  refine g_iadd C d_L_law_246 ?_
  refine g_sld C G.2.1 (lw_in 2 2 rfl (by omega) hL) d_L_law_247 ?_
  refine g_aload_n C d_L_law_248 rfl 4 rfl ?_
  refine g_iload C d_L_law_249 0 rfl ?_
  refine g_iconst (v := 3) C d_L_law_251 (by decide) ?_
  refine g_iadd C d_L_law_252 ?_
  refine g_sld C G.2.1 (lw_in 3 3 rfl (by omega) hL) d_L_law_253 ?_
  refine g_aload_n C d_L_law_254 rfl 4 rfl ?_
  refine g_iload C d_L_law_255 0 rfl ?_
  refine g_iconst (v := 4) C d_L_law_257 (by decide) ?_
  refine g_iadd C d_L_law_258 ?_
  refine g_sld C G.2.1 (lw_in 4 4 rfl (by omega) hL) d_L_law_259 ?_
  refine g_callV 4 C (t_M_bill _ X ad u1 s1 m M nC nB (xs (nI i + 1).toNatClampNeg) (xs (nI i + 2).toNatClampNeg) (xs (nI i + 3).toNatClampNeg) (xs (nI i + 4).toNatClampNeg) hw1 hk.1) (gmem wd_646 rfl) (gmem wd_647 rfl) (gmem wd_648 rfl) (gmem wd_4 rfl) (gmem wd_649 rfl) ⟨by decide, by decide, by decide +kernel⟩ ⟨Nat.le_of_ble_eq_true rfl, Nat.le_of_ble_eq_true rfl⟩ (mW_0 hw1) rfl rfl rfl (Nat.le_of_ble_eq_true rfl) d_L_law_260 ⟨(show cs + 0 + 0 ≤ 601024 by omega), (show ss + 0 + 0 ≤ 7293034 by omega)⟩ ?_
  rintro v2 u2 s2 ⟨rfl, hw2, hf2⟩
  have hk2 := kD_fr hk1 fun n p q => hf2 n (Or.inl (by omega))
  show GW Z room_1 8 (EE X) ad u2 s2 (lvL ad b x m o i) (cs + 0 + 0) (ss + 0 + 0) 263 [.int (bI (q_bill M (xs (nI i + 1).toNatClampNeg) (xs (nI i + 2).toNatClampNeg) (xs (nI i + 3).toNatClampNeg) (xs (nI i + 4).toNatClampNeg))), .int (bI (q_bill M (xs (nI i + 1).toNatClampNeg) (xs (nI i + 2).toNatClampNeg) (xs (nI i + 3).toNatClampNeg) (xs (nI i + 4).toNatClampNeg)))]
  refine g_icmp_eq 834 C d_L_law_263 (by decide) (fun _ => ?_) (fun hn => absurd rfl hn)
  refine g_widen (k := cs + 16) (n := ss + 200) (show cs + 0 + 0 ≤ cs + 16 by omega) (show ss + 0 + 0 ≤ ss + 200 by omega) ?_
  exact K ad u2 s2 _ nC1 nB1 ⟨hk2, hw2, f, (hf2 o (Or.inr (by omega))).trans ((hf1 o (by omega)).trans hf)⟩
set_option maxHeartbeats 4000000 in
set_option maxRecDepth 100000 in
theorem lw_c4 {Z : gZ} {b L : Nat} {xs : Nat → Int32} {X : gX} (G : lwG Z b L xs X) {x m o i cs ss : Nat} (hm : x + 512 ≤ m) (ho : m + 26 ≤ o) (hi : i + 5 ≤ L) (hL : L ≤ 2560) (hcs : cs + 16 ≤ 601024) (hss : ss + 200 ≤ 7293034) {ad : Nat → Nat} {u : gW} {sz : Nat} {M : mM} {nC nB : Nat} (h : lwI X ad x m o M u nC nB) (hp : lwP ad x nC nB sz) (K : lwN Z X b x m o i (cs + 16) (ss + 200)) : GW Z room_1 8 (EE X) ad u sz (lvL ad b x m o i) cs ss 268 [] := by
  have C := G.1
  obtain ⟨hk, hw, f, hf⟩ := h
  refine g_aload_n C d_L_law_268 rfl 3 rfl ?_
  refine g_aload_n C d_L_law_269 rfl 4 rfl ?_
  refine g_iload C d_L_law_270 0 rfl ?_
  refine g_iconst (v := 1) C d_L_law_272 (by decide) ?_
  refine g_iadd C d_L_law_273 ?_
  refine g_sld C G.2.1 (lw_in 1 1 rfl (by omega) hL) d_L_law_274 ?_
  refine g_aload_n C d_L_law_275 rfl 4 rfl ?_
  refine g_iload C d_L_law_276 0 rfl ?_
  refine g_iconst (v := 2) C d_L_law_278 (by decide) ?_
  refine g_iadd C d_L_law_279 ?_
  refine g_sld C G.2.1 (lw_in 2 2 rfl (by omega) hL) d_L_law_280 ?_
  refine g_callV 2 C (t_X_payer _ X ad u sz x M nC nB (xs (nI i + 1).toNatClampNeg) (xs (nI i + 2).toNatClampNeg) hk) (gmem wd_219 rfl) (gmem wd_220 rfl) (gmem wd_221 rfl) (gmem wd_1 rfl) (gmem wd_222 rfl) ⟨by decide, by decide, by decide +kernel⟩ ⟨Nat.le_of_ble_eq_true rfl, Nat.le_of_ble_eq_true rfl⟩ hk.2.1.1 rfl rfl rfl (Nat.le_of_ble_eq_true rfl) d_L_law_281 ⟨(show cs + 0 ≤ 601024 by omega), (show ss + 0 ≤ 7293034 by omega)⟩ ?_
  rintro v1 u1 s1 ⟨rfl, ⟨nC1, nB1, hk1⟩, hf1⟩
  have hw1 : mW X ad m M u1 := mW_fr hw fun n p q => hf1 n (by omega)
  show GW Z room_1 8 (EE X) ad u1 s1 (lvL ad b x m o i) (cs + 0) (ss + 0) 284 [.int (bI (q_payer M (xs (nI i + 1).toNatClampNeg) (xs (nI i + 2).toNatClampNeg)))]
  refine g_aload_n C d_L_law_284 rfl 2 rfl ?_
  refine g_aload_n C d_L_law_285 rfl 4 rfl ?_
  refine g_iload C d_L_law_286 0 rfl ?_
  refine g_iconst (v := 1) C d_L_law_288 (by decide) ?_
  refine g_iadd C d_L_law_289 ?_
  refine g_sld C G.2.1 (lw_in 1 1 rfl (by omega) hL) d_L_law_290 ?_
  refine g_aload_n C d_L_law_291 rfl 4 rfl ?_
  refine g_iload C d_L_law_292 0 rfl ?_
  refine g_iconst (v := 2) C d_L_law_294 (by decide) ?_
  refine g_iadd C d_L_law_295 ?_
  refine g_sld C G.2.1 (lw_in 2 2 rfl (by omega) hL) d_L_law_296 ?_
  refine g_callV 2 C (t_M_payer _ X ad u1 s1 m M nC nB (xs (nI i + 1).toNatClampNeg) (xs (nI i + 2).toNatClampNeg) hw1 hk.1) (gmem wd_655 rfl) (gmem wd_656 rfl) (gmem wd_657 rfl) (gmem wd_4 rfl) (gmem wd_658 rfl) ⟨by decide, by decide, by decide +kernel⟩ ⟨Nat.le_of_ble_eq_true rfl, Nat.le_of_ble_eq_true rfl⟩ (mW_0 hw1) rfl rfl rfl (Nat.le_of_ble_eq_true rfl) d_L_law_297 ⟨(show cs + 0 + 0 ≤ 601024 by omega), (show ss + 0 + 0 ≤ 7293034 by omega)⟩ ?_
  rintro v2 u2 s2 ⟨rfl, hw2, hf2⟩
  have hk2 := kD_fr hk1 fun n p q => hf2 n (Or.inl (by omega))
  show GW Z room_1 8 (EE X) ad u2 s2 (lvL ad b x m o i) (cs + 0 + 0) (ss + 0 + 0) 300 [.int (bI (q_payer M (xs (nI i + 1).toNatClampNeg) (xs (nI i + 2).toNatClampNeg))), .int (bI (q_payer M (xs (nI i + 1).toNatClampNeg) (xs (nI i + 2).toNatClampNeg)))]
  refine g_icmp_eq 834 C d_L_law_300 (by decide) (fun _ => ?_) (fun hn => absurd rfl hn)
  refine g_widen (k := cs + 16) (n := ss + 200) (show cs + 0 + 0 ≤ cs + 16 by omega) (show ss + 0 + 0 ≤ ss + 200 by omega) ?_
  exact K ad u2 s2 _ nC1 nB1 ⟨hk2, hw2, f, (hf2 o (Or.inr (by omega))).trans ((hf1 o (by omega)).trans hf)⟩
set_option maxHeartbeats 4000000 in
set_option maxRecDepth 100000 in
theorem lw_c5 {Z : gZ} {b L : Nat} {xs : Nat → Int32} {X : gX} (G : lwG Z b L xs X) {x m o i cs ss : Nat} (hm : x + 512 ≤ m) (ho : m + 26 ≤ o) (hi : i + 5 ≤ L) (hL : L ≤ 2560) (hcs : cs + 16 ≤ 601024) (hss : ss + 200 ≤ 7293034) {ad : Nat → Nat} {u : gW} {sz : Nat} {M : mM} {nC nB : Nat} (h : lwI X ad x m o M u nC nB) (hp : lwP ad x nC nB sz) (K : lwN Z X b x m o i (cs + 16) (ss + 200)) : GW Z room_1 8 (EE X) ad u sz (lvL ad b x m o i) cs ss 305 [] := by
  have C := G.1
  obtain ⟨hk, hw, f, hf⟩ := h
  refine g_aload_n C d_L_law_305 rfl 3 rfl ?_
  refine g_aload_n C d_L_law_306 rfl 4 rfl ?_
  refine g_iload C d_L_law_307 0 rfl ?_
  refine g_iconst (v := 1) C d_L_law_309 (by decide) ?_
  refine g_iadd C d_L_law_310 ?_
  refine g_sld C G.2.1 (lw_in 1 1 rfl (by omega) hL) d_L_law_311 ?_
  refine g_aload_n C d_L_law_312 rfl 4 rfl ?_
  refine g_iload C d_L_law_313 0 rfl ?_
  refine g_iconst (v := 2) C d_L_law_315 (by decide) ?_
  refine g_iadd C d_L_law_316 ?_
  refine g_sld C G.2.1 (lw_in 2 2 rfl (by omega) hL) d_L_law_317 ?_
  refine g_callV 2 C (t_X_weight _ X ad u sz x M nC nB (xs (nI i + 1).toNatClampNeg) (xs (nI i + 2).toNatClampNeg) hk) (gmem wd_223 rfl) (gmem wd_224 rfl) (gmem wd_225 rfl) (gmem wd_1 rfl) (gmem wd_226 rfl) ⟨by decide, by decide, by decide +kernel⟩ ⟨Nat.le_of_ble_eq_true rfl, Nat.le_of_ble_eq_true rfl⟩ hk.2.1.1 rfl rfl rfl (Nat.le_of_ble_eq_true rfl) d_L_law_318 ⟨(show cs + 0 ≤ 601024 by omega), (show ss + 0 ≤ 7293034 by omega)⟩ ?_
  rintro v1 u1 s1 ⟨rfl, ⟨nC1, nB1, hk1⟩, hf1⟩
  have hw1 : mW X ad m M u1 := mW_fr hw fun n p q => hf1 n (by omega)
  show GW Z room_1 8 (EE X) ad u1 s1 (lvL ad b x m o i) (cs + 0) (ss + 0) 321 [.int (bI (q_weight M (xs (nI i + 1).toNatClampNeg) (xs (nI i + 2).toNatClampNeg)))]
  refine g_aload_n C d_L_law_321 rfl 2 rfl ?_
  refine g_aload_n C d_L_law_322 rfl 4 rfl ?_
  refine g_iload C d_L_law_323 0 rfl ?_
  refine g_iconst (v := 1) C d_L_law_325 (by decide) ?_
  refine g_iadd C d_L_law_326 ?_
  refine g_sld C G.2.1 (lw_in 1 1 rfl (by omega) hL) d_L_law_327 ?_
  refine g_aload_n C d_L_law_328 rfl 4 rfl ?_
  refine g_iload C d_L_law_329 0 rfl ?_
  refine g_iconst (v := 2) C d_L_law_331 (by decide) ?_
  refine g_iadd C d_L_law_332 ?_
  refine g_sld C G.2.1 (lw_in 2 2 rfl (by omega) hL) d_L_law_333 ?_
  refine g_callV 2 C (t_M_weight _ X ad u1 s1 m M nC nB (xs (nI i + 1).toNatClampNeg) (xs (nI i + 2).toNatClampNeg) hw1 hk.1) (gmem wd_663 rfl) (gmem wd_664 rfl) (gmem wd_665 rfl) (gmem wd_4 rfl) (gmem wd_666 rfl) ⟨by decide, by decide, by decide +kernel⟩ ⟨Nat.le_of_ble_eq_true rfl, Nat.le_of_ble_eq_true rfl⟩ (mW_0 hw1) rfl rfl rfl (Nat.le_of_ble_eq_true rfl) d_L_law_334 ⟨(show cs + 0 + 0 ≤ 601024 by omega), (show ss + 0 + 0 ≤ 7293034 by omega)⟩ ?_
  rintro v2 u2 s2 ⟨rfl, hw2, hf2⟩
  have hk2 := kD_fr hk1 fun n p q => hf2 n (Or.inl (by omega))
  show GW Z room_1 8 (EE X) ad u2 s2 (lvL ad b x m o i) (cs + 0 + 0) (ss + 0 + 0) 337 [.int (bI (q_weight M (xs (nI i + 1).toNatClampNeg) (xs (nI i + 2).toNatClampNeg))), .int (bI (q_weight M (xs (nI i + 1).toNatClampNeg) (xs (nI i + 2).toNatClampNeg)))]
  refine g_icmp_eq 834 C d_L_law_337 (by decide) (fun _ => ?_) (fun hn => absurd rfl hn)
  refine g_widen (k := cs + 16) (n := ss + 200) (show cs + 0 + 0 ≤ cs + 16 by omega) (show ss + 0 + 0 ≤ ss + 200 by omega) ?_
  exact K ad u2 s2 _ nC1 nB1 ⟨hk2, hw2, f, (hf2 o (Or.inr (by omega))).trans ((hf1 o (by omega)).trans hf)⟩
set_option maxHeartbeats 4000000 in
set_option maxRecDepth 100000 in
theorem lw_c6 {Z : gZ} {b L : Nat} {xs : Nat → Int32} {X : gX} (G : lwG Z b L xs X) {x m o i cs ss : Nat} (hm : x + 512 ≤ m) (ho : m + 26 ≤ o) (hi : i + 5 ≤ L) (hL : L ≤ 2560) (hcs : cs + 16 ≤ 601024) (hss : ss + 200 ≤ 7293034) {ad : Nat → Nat} {u : gW} {sz : Nat} {M : mM} {nC nB : Nat} (h : lwI X ad x m o M u nC nB) (hp : lwP ad x nC nB sz) (K : lwN Z X b x m o i (cs + 16) (ss + 200)) : GW Z room_1 8 (EE X) ad u sz (lvL ad b x m o i) cs ss 342 [] := by
  have C := G.1
  obtain ⟨hk, hw, f, hf⟩ := h
  refine g_aload_n C d_L_law_342 rfl 3 rfl ?_
  refine g_aload_n C d_L_law_343 rfl 4 rfl ?_
  refine g_iload C d_L_law_344 0 rfl ?_
  refine g_iconst (v := 1) C d_L_law_346 (by decide) ?_
  refine g_iadd C d_L_law_347 ?_
  refine g_sld C G.2.1 (lw_in 1 1 rfl (by omega) hL) d_L_law_348 ?_
  refine g_aload_n C d_L_law_349 rfl 4 rfl ?_
  refine g_iload C d_L_law_350 0 rfl ?_
  refine g_iconst (v := 2) C d_L_law_352 (by decide) ?_
  refine g_iadd C d_L_law_353 ?_
  refine g_sld C G.2.1 (lw_in 2 2 rfl (by omega) hL) d_L_law_354 ?_
  refine g_callV 2 C (t_X_line _ X ad u sz x M nC nB (xs (nI i + 1).toNatClampNeg) (xs (nI i + 2).toNatClampNeg) hk) (gmem wd_230 rfl) (gmem wd_231 rfl) (gmem wd_232 rfl) (gmem wd_1 rfl) (gmem wd_233 rfl) ⟨by decide, by decide, by decide +kernel⟩ ⟨Nat.le_of_ble_eq_true rfl, Nat.le_of_ble_eq_true rfl⟩ hk.2.1.1 rfl rfl rfl (Nat.le_of_ble_eq_true rfl) d_L_law_355 ⟨(show cs + 0 ≤ 601024 by omega), (show ss + 0 ≤ 7293034 by omega)⟩ ?_
  rintro v1 u1 s1 ⟨rfl, ⟨nC1, nB1, hk1⟩, hf1⟩
  have hw1 : mW X ad m M u1 := mW_fr hw fun n p q => hf1 n (by omega)
  show GW Z room_1 8 (EE X) ad u1 s1 (lvL ad b x m o i) (cs + 0) (ss + 0) 358 [.int (a_line M (xs (nI i + 1).toNatClampNeg) (xs (nI i + 2).toNatClampNeg))]
  refine g_aload_n C d_L_law_358 rfl 2 rfl ?_
  refine g_aload_n C d_L_law_359 rfl 4 rfl ?_
  refine g_iload C d_L_law_360 0 rfl ?_
  refine g_iconst (v := 1) C d_L_law_362 (by decide) ?_
  refine g_iadd C d_L_law_363 ?_
  refine g_sld C G.2.1 (lw_in 1 1 rfl (by omega) hL) d_L_law_364 ?_
  refine g_aload_n C d_L_law_365 rfl 4 rfl ?_
  refine g_iload C d_L_law_366 0 rfl ?_
  refine g_iconst (v := 2) C d_L_law_368 (by decide) ?_
  refine g_iadd C d_L_law_369 ?_
  refine g_sld C G.2.1 (lw_in 2 2 rfl (by omega) hL) d_L_law_370 ?_
  refine g_callV 2 C (t_M_line _ X ad u1 s1 m M nC nB (xs (nI i + 1).toNatClampNeg) (xs (nI i + 2).toNatClampNeg) hw1 hk.1 (lw_line hk).1 (lw_line hk).2) (gmem wd_667 rfl) (gmem wd_668 rfl) (gmem wd_669 rfl) (gmem wd_4 rfl) (gmem wd_670 rfl) ⟨by decide, by decide, by decide +kernel⟩ ⟨Nat.le_of_ble_eq_true rfl, Nat.le_of_ble_eq_true rfl⟩ (mW_0 hw1) rfl rfl rfl (Nat.le_of_ble_eq_true rfl) d_L_law_371 ⟨(show cs + 0 + 0 ≤ 601024 by omega), (show ss + 0 + 0 ≤ 7293034 by omega)⟩ ?_
  rintro v2 u2 s2 ⟨rfl, hw2, hf2⟩
  have hk2 := kD_fr hk1 fun n p q => hf2 n (Or.inl (by omega))
  show GW Z room_1 8 (EE X) ad u2 s2 (lvL ad b x m o i) (cs + 0 + 0) (ss + 0 + 0) 374 [.int (a_line M (xs (nI i + 1).toNatClampNeg) (xs (nI i + 2).toNatClampNeg)), .int (a_line M (xs (nI i + 1).toNatClampNeg) (xs (nI i + 2).toNatClampNeg))]
  refine g_icmp_eq 834 C d_L_law_374 (by decide) (fun _ => ?_) (fun hn => absurd rfl hn)
  refine g_widen (k := cs + 16) (n := ss + 200) (show cs + 0 + 0 ≤ cs + 16 by omega) (show ss + 0 + 0 ≤ ss + 200 by omega) ?_
  exact K ad u2 s2 _ nC1 nB1 ⟨hk2, hw2, f, (hf2 o (Or.inr (by omega))).trans ((hf1 o (by omega)).trans hf)⟩
set_option maxHeartbeats 4000000 in
set_option maxRecDepth 100000 in
theorem lw_c7 {Z : gZ} {b L : Nat} {xs : Nat → Int32} {X : gX} (G : lwG Z b L xs X) {x m o i cs ss : Nat} (hm : x + 512 ≤ m) (ho : m + 26 ≤ o) (hi : i + 5 ≤ L) (hL : L ≤ 2560) (hcs : cs + 16 ≤ 601024) (hss : ss + 200 ≤ 7293034) {ad : Nat → Nat} {u : gW} {sz : Nat} {M : mM} {nC nB : Nat} (h : lwI X ad x m o M u nC nB) (hp : lwP ad x nC nB sz) (K : lwN Z X b x m o i (cs + 16) (ss + 200)) : GW Z room_1 8 (EE X) ad u sz (lvL ad b x m o i) cs ss 379 [] := by
  have C := G.1
  obtain ⟨hk, hw, f, hf⟩ := h
  refine g_aload_n C d_L_law_379 rfl 3 rfl ?_
  refine g_callV 0 C (t_X_post _ X ad u sz x M nC nB  hk hp.2) (gmem wd_248 rfl) (gmem wd_249 rfl) (gmem wd_250 rfl) (gmem wd_1 rfl) (gmem wd_251 rfl) ⟨by decide, by decide, by decide +kernel⟩ ⟨Nat.le_of_ble_eq_true rfl, Nat.le_of_ble_eq_true rfl⟩ hk.2.1.1 rfl rfl rfl (Nat.le_of_ble_eq_true rfl) d_L_law_380 ⟨(show cs + 4 ≤ 601024 by omega), (show ss + 42 ≤ 7293034 by omega)⟩ ?_
  rintro v1 u1 s1 ⟨rfl, ⟨nC1, nB1, hk1⟩, hf1⟩
  have hw1 : mW X ad m M u1 := mW_fr hw fun n p q => hf1 n (by omega)
  show GW Z room_1 8 (EE X) ad u1 s1 (lvL ad b x m o i) (cs + 4) (ss + 42) 383 [.int (a_post M)]
  refine g_aload_n C d_L_law_383 rfl 2 rfl ?_
  refine g_callV 0 C (t_M_post _ X ad u1 s1 m M nC nB  hw1 hk.1 (lw_draft hk)) (gmem wd_671 rfl) (gmem wd_672 rfl) (gmem wd_673 rfl) (gmem wd_4 rfl) (gmem wd_674 rfl) ⟨by decide, by decide, by decide +kernel⟩ ⟨Nat.le_of_ble_eq_true rfl, Nat.le_of_ble_eq_true rfl⟩ (mW_0 hw1) rfl rfl rfl (Nat.le_of_ble_eq_true rfl) d_L_law_384 ⟨(show cs + 4 + 0 ≤ 601024 by omega), (show ss + 42 + 0 ≤ 7293034 by omega)⟩ ?_
  rintro v2 u2 s2 ⟨rfl, hw2, hf2⟩
  have hk2 := kD_fr hk1 fun n p q => hf2 n (Or.inl (by omega))
  show GW Z room_1 8 (EE X) ad u2 s2 (lvL ad b x m o i) (cs + 4 + 0) (ss + 42 + 0) 387 [.int (a_post M), .int (a_post M)]
  refine g_icmp_eq 834 C d_L_law_387 (by decide) (fun _ => ?_) (fun hn => absurd rfl hn)
  refine g_widen (k := cs + 16) (n := ss + 200) (show cs + 4 + 0 ≤ cs + 16 by omega) (show ss + 42 + 0 ≤ ss + 200 by omega) ?_
  exact K ad u2 s2 _ nC1 nB1 ⟨hk2, hw2, f, (hf2 o (Or.inr (by omega))).trans ((hf1 o (by omega)).trans hf)⟩
set_option maxHeartbeats 4000000 in
set_option maxRecDepth 100000 in
theorem lw_c8 {Z : gZ} {b L : Nat} {xs : Nat → Int32} {X : gX} (G : lwG Z b L xs X) {x m o i cs ss : Nat} (hm : x + 512 ≤ m) (ho : m + 26 ≤ o) (hi : i + 5 ≤ L) (hL : L ≤ 2560) (hcs : cs + 16 ≤ 601024) (hss : ss + 200 ≤ 7293034) {ad : Nat → Nat} {u : gW} {sz : Nat} {M : mM} {nC nB : Nat} (h : lwI X ad x m o M u nC nB) (hp : lwP ad x nC nB sz) (K : lwN Z X b x m o i (cs + 16) (ss + 200)) : GW Z room_1 8 (EE X) ad u sz (lvL ad b x m o i) cs ss 392 [] := by
  have C := G.1
  obtain ⟨hk, hw, f, hf⟩ := h
  refine g_aload_n C d_L_law_392 rfl 3 rfl ?_
  refine g_aload_n C d_L_law_393 rfl 4 rfl ?_
  refine g_iload C d_L_law_394 0 rfl ?_
  refine g_iconst (v := 1) C d_L_law_396 (by decide) ?_
  refine g_iadd C d_L_law_397 ?_
  refine g_sld C G.2.1 (lw_in 1 1 rfl (by omega) hL) d_L_law_398 ?_
  refine g_callV 1 C (t_X_strike _ X ad u sz x M nC nB (xs (nI i + 1).toNatClampNeg) hk) (gmem wd_327 rfl) (gmem wd_328 rfl) (gmem wd_329 rfl) (gmem wd_1 rfl) (gmem wd_330 rfl) ⟨by decide, by decide, by decide +kernel⟩ ⟨Nat.le_of_ble_eq_true rfl, Nat.le_of_ble_eq_true rfl⟩ hk.2.1.1 rfl rfl rfl (Nat.le_of_ble_eq_true rfl) d_L_law_399 ⟨(show cs + 0 ≤ 601024 by omega), (show ss + 0 ≤ 7293034 by omega)⟩ ?_
  rintro v1 u1 s1 ⟨rfl, ⟨nC1, nB1, hk1⟩, hf1⟩
  have hw1 : mW X ad m M u1 := mW_fr hw fun n p q => hf1 n (by omega)
  show GW Z room_1 8 (EE X) ad u1 s1 (lvL ad b x m o i) (cs + 0) (ss + 0) 402 [.int (bI (q_strike M (xs (nI i + 1).toNatClampNeg)))]
  refine g_aload_n C d_L_law_402 rfl 2 rfl ?_
  refine g_aload_n C d_L_law_403 rfl 4 rfl ?_
  refine g_iload C d_L_law_404 0 rfl ?_
  refine g_iconst (v := 1) C d_L_law_406 (by decide) ?_
  refine g_iadd C d_L_law_407 ?_
  refine g_sld C G.2.1 (lw_in 1 1 rfl (by omega) hL) d_L_law_408 ?_
  refine g_callV 1 C (t_M_strike _ X ad u1 s1 m M nC nB (xs (nI i + 1).toNatClampNeg) hw1 hk.1) (gmem wd_706 rfl) (gmem wd_707 rfl) (gmem wd_708 rfl) (gmem wd_4 rfl) (gmem wd_709 rfl) ⟨by decide, by decide, by decide +kernel⟩ ⟨Nat.le_of_ble_eq_true rfl, Nat.le_of_ble_eq_true rfl⟩ (mW_0 hw1) rfl rfl rfl (Nat.le_of_ble_eq_true rfl) d_L_law_409 ⟨(show cs + 0 + 0 ≤ 601024 by omega), (show ss + 0 + 0 ≤ 7293034 by omega)⟩ ?_
  rintro v2 u2 s2 ⟨rfl, hw2, hf2⟩
  have hk2 := kD_fr hk1 fun n p q => hf2 n (Or.inl (by omega))
  show GW Z room_1 8 (EE X) ad u2 s2 (lvL ad b x m o i) (cs + 0 + 0) (ss + 0 + 0) 412 [.int (bI (q_strike M (xs (nI i + 1).toNatClampNeg))), .int (bI (q_strike M (xs (nI i + 1).toNatClampNeg)))]
  refine g_icmp_eq 834 C d_L_law_412 (by decide) (fun _ => ?_) (fun hn => absurd rfl hn)
  refine g_widen (k := cs + 16) (n := ss + 200) (show cs + 0 + 0 ≤ cs + 16 by omega) (show ss + 0 + 0 ≤ ss + 200 by omega) ?_
  exact K ad u2 s2 _ nC1 nB1 ⟨hk2, hw2, f, (hf2 o (Or.inr (by omega))).trans ((hf1 o (by omega)).trans hf)⟩
set_option maxHeartbeats 4000000 in
set_option maxRecDepth 100000 in
theorem lw_c9 {Z : gZ} {b L : Nat} {xs : Nat → Int32} {X : gX} (G : lwG Z b L xs X) {x m o i cs ss : Nat} (hm : x + 512 ≤ m) (ho : m + 26 ≤ o) (hi : i + 5 ≤ L) (hL : L ≤ 2560) (hcs : cs + 16 ≤ 601024) (hss : ss + 200 ≤ 7293034) {ad : Nat → Nat} {u : gW} {sz : Nat} {M : mM} {nC nB : Nat} (h : lwI X ad x m o M u nC nB) (hp : lwP ad x nC nB sz) (K : lwN Z X b x m o i (cs + 16) (ss + 200)) : GW Z room_1 8 (EE X) ad u sz (lvL ad b x m o i) cs ss 417 [] := by
  have C := G.1
  obtain ⟨hk, hw, f, hf⟩ := h
  refine g_aload_n C d_L_law_417 rfl 3 rfl ?_
  refine g_aload_n C d_L_law_418 rfl 4 rfl ?_
  refine g_iload C d_L_law_419 0 rfl ?_
  refine g_iconst (v := 1) C d_L_law_421 (by decide) ?_
  refine g_iadd C d_L_law_422 ?_
  refine g_sld C G.2.1 (lw_in 1 1 rfl (by omega) hL) d_L_law_423 ?_
  refine g_aload_n C d_L_law_424 rfl 4 rfl ?_
  refine g_iload C d_L_law_425 0 rfl ?_
  refine g_iconst (v := 2) C d_L_law_427 (by decide) ?_
  refine g_iadd C d_L_law_428 ?_
  refine g_sld C G.2.1 (lw_in 2 2 rfl (by omega) hL) d_L_law_429 ?_
  refine g_aload_n C d_L_law_430 rfl 4 rfl ?_
  refine g_iload C d_L_law_431 0 rfl ?_
  refine g_iconst (v := 3) C d_L_law_433 (by decide) ?_
  refine g_iadd C d_L_law_434 ?_
  refine g_sld C G.2.1 (lw_in 3 3 rfl (by omega) hL) d_L_law_435 ?_
  refine g_callV 3 C (t_X_about _ X ad u sz x M nC nB (xs (nI i + 1).toNatClampNeg) (xs (nI i + 2).toNatClampNeg) (xs (nI i + 3).toNatClampNeg) hk) (gmem wd_335 rfl) (gmem wd_336 rfl) (gmem wd_337 rfl) (gmem wd_1 rfl) (gmem wd_338 rfl) ⟨by decide, by decide, by decide +kernel⟩ ⟨Nat.le_of_ble_eq_true rfl, Nat.le_of_ble_eq_true rfl⟩ hk.2.1.1 rfl rfl rfl (Nat.le_of_ble_eq_true rfl) d_L_law_436 ⟨(show cs + 0 ≤ 601024 by omega), (show ss + 0 ≤ 7293034 by omega)⟩ ?_
  rintro v1 u1 s1 ⟨rfl, ⟨nC1, nB1, hk1⟩, hf1⟩
  have hw1 : mW X ad m M u1 := mW_fr hw fun n p q => hf1 n (by omega)
  show GW Z room_1 8 (EE X) ad u1 s1 (lvL ad b x m o i) (cs + 0) (ss + 0) 439 [.long (a_about M (xs (nI i + 1).toNatClampNeg) (xs (nI i + 2).toNatClampNeg) (xs (nI i + 3).toNatClampNeg))]
  refine g_aload_n C d_L_law_439 rfl 2 rfl ?_
  refine g_aload_n C d_L_law_440 rfl 4 rfl ?_
  refine g_iload C d_L_law_441 0 rfl ?_
  refine g_iconst (v := 1) C d_L_law_443 (by decide) ?_
  refine g_iadd C d_L_law_444 ?_
  refine g_sld C G.2.1 (lw_in 1 1 rfl (by omega) hL) d_L_law_445 ?_
  refine g_aload_n C d_L_law_446 rfl 4 rfl ?_
  refine g_iload C d_L_law_447 0 rfl ?_
  refine g_iconst (v := 2) C d_L_law_449 (by decide) ?_
  refine g_iadd C d_L_law_450 ?_
  refine g_sld C G.2.1 (lw_in 2 2 rfl (by omega) hL) d_L_law_451 ?_
  refine g_aload_n C d_L_law_452 rfl 4 rfl ?_
  refine g_iload C d_L_law_453 0 rfl ?_
  refine g_iconst (v := 3) C d_L_law_455 (by decide) ?_
  refine g_iadd C d_L_law_456 ?_
  refine g_sld C G.2.1 (lw_in 3 3 rfl (by omega) hL) d_L_law_457 ?_
  refine g_callV 3 C (t_M_about _ X ad u1 s1 m M nC nB (xs (nI i + 1).toNatClampNeg) (xs (nI i + 2).toNatClampNeg) (xs (nI i + 3).toNatClampNeg) hw1 hk.1) (gmem wd_710 rfl) (gmem wd_711 rfl) (gmem wd_712 rfl) (gmem wd_4 rfl) (gmem wd_713 rfl) ⟨by decide, by decide, by decide +kernel⟩ ⟨Nat.le_of_ble_eq_true rfl, Nat.le_of_ble_eq_true rfl⟩ (mW_0 hw1) rfl rfl rfl (Nat.le_of_ble_eq_true rfl) d_L_law_458 ⟨(show cs + 0 + 0 ≤ 601024 by omega), (show ss + 0 + 0 ≤ 7293034 by omega)⟩ ?_
  rintro v2 u2 s2 ⟨rfl, hw2, hf2⟩
  have hk2 := kD_fr hk1 fun n p q => hf2 n (Or.inl (by omega))
  show GW Z room_1 8 (EE X) ad u2 s2 (lvL ad b x m o i) (cs + 0 + 0) (ss + 0 + 0) 461 [.long (a_about M (xs (nI i + 1).toNatClampNeg) (xs (nI i + 2).toNatClampNeg) (xs (nI i + 3).toNatClampNeg)), .long (a_about M (xs (nI i + 1).toNatClampNeg) (xs (nI i + 2).toNatClampNeg) (xs (nI i + 3).toNatClampNeg))]
  refine g_lcmp C d_L_law_461 ?_
  refine g_if_eq 834 C d_L_law_462 (by decide) (fun _ => ?_) (fun hn => absurd (lg_cmp_self _) hn)
  refine g_widen (k := cs + 16) (n := ss + 200) (show cs + 0 + 0 ≤ cs + 16 by omega) (show ss + 0 + 0 ≤ ss + 200 by omega) ?_
  exact K ad u2 s2 _ nC1 nB1 ⟨hk2, hw2, f, (hf2 o (Or.inr (by omega))).trans ((hf1 o (by omega)).trans hf)⟩
set_option maxHeartbeats 4000000 in
set_option maxRecDepth 100000 in
theorem lw_c10 {Z : gZ} {b L : Nat} {xs : Nat → Int32} {X : gX} (G : lwG Z b L xs X) {x m o i cs ss : Nat} (hm : x + 512 ≤ m) (ho : m + 26 ≤ o) (hi : i + 5 ≤ L) (hL : L ≤ 2560) (hcs : cs + 16 ≤ 601024) (hss : ss + 200 ≤ 7293034) {ad : Nat → Nat} {u : gW} {sz : Nat} {M : mM} {nC nB : Nat} (h : lwI X ad x m o M u nC nB) (hp : lwP ad x nC nB sz) (K : lwN Z X b x m o i (cs + 16) (ss + 200)) : GW Z room_1 8 (EE X) ad u sz (lvL ad b x m o i) cs ss 467 [] := by
  have C := G.1
  obtain ⟨hk, hw, f, hf⟩ := h
  refine g_aload_n C d_L_law_467 rfl 3 rfl ?_
  refine g_aload_n C d_L_law_468 rfl 4 rfl ?_
  refine g_iload C d_L_law_469 0 rfl ?_
  refine g_iconst (v := 1) C d_L_law_471 (by decide) ?_
  refine g_iadd C d_L_law_472 ?_
  refine g_sld C G.2.1 (lw_in 1 1 rfl (by omega) hL) d_L_law_473 ?_
  refine g_callV 1 C (t_X_total _ X ad u sz x M nC nB (xs (nI i + 1).toNatClampNeg) hk) (gmem wd_340 rfl) (gmem wd_341 rfl) (gmem wd_342 rfl) (gmem wd_1 rfl) (gmem wd_343 rfl) ⟨by decide, by decide, by decide +kernel⟩ ⟨Nat.le_of_ble_eq_true rfl, Nat.le_of_ble_eq_true rfl⟩ hk.2.1.1 rfl rfl rfl (Nat.le_of_ble_eq_true rfl) d_L_law_474 ⟨(show cs + 0 ≤ 601024 by omega), (show ss + 0 ≤ 7293034 by omega)⟩ ?_
  rintro v1 u1 s1 ⟨rfl, ⟨nC1, nB1, hk1⟩, hf1⟩
  have hw1 : mW X ad m M u1 := mW_fr hw fun n p q => hf1 n (by omega)
  show GW Z room_1 8 (EE X) ad u1 s1 (lvL ad b x m o i) (cs + 0) (ss + 0) 477 [.long (a_total M (xs (nI i + 1).toNatClampNeg))]
  refine g_aload_n C d_L_law_477 rfl 2 rfl ?_
  refine g_aload_n C d_L_law_478 rfl 4 rfl ?_
  refine g_iload C d_L_law_479 0 rfl ?_
  refine g_iconst (v := 1) C d_L_law_481 (by decide) ?_
  refine g_iadd C d_L_law_482 ?_
  refine g_sld C G.2.1 (lw_in 1 1 rfl (by omega) hL) d_L_law_483 ?_
  refine g_callV 1 C (t_M_total _ X ad u1 s1 m M nC nB (xs (nI i + 1).toNatClampNeg) hw1 hk.1) (gmem wd_715 rfl) (gmem wd_716 rfl) (gmem wd_717 rfl) (gmem wd_4 rfl) (gmem wd_718 rfl) ⟨by decide, by decide, by decide +kernel⟩ ⟨Nat.le_of_ble_eq_true rfl, Nat.le_of_ble_eq_true rfl⟩ (mW_0 hw1) rfl rfl rfl (Nat.le_of_ble_eq_true rfl) d_L_law_484 ⟨(show cs + 0 + 0 ≤ 601024 by omega), (show ss + 0 + 0 ≤ 7293034 by omega)⟩ ?_
  rintro v2 u2 s2 ⟨rfl, hw2, hf2⟩
  have hk2 := kD_fr hk1 fun n p q => hf2 n (Or.inl (by omega))
  show GW Z room_1 8 (EE X) ad u2 s2 (lvL ad b x m o i) (cs + 0 + 0) (ss + 0 + 0) 487 [.long (a_total M (xs (nI i + 1).toNatClampNeg)), .long (a_total M (xs (nI i + 1).toNatClampNeg))]
  refine g_lcmp C d_L_law_487 ?_
  refine g_if_eq 834 C d_L_law_488 (by decide) (fun _ => ?_) (fun hn => absurd (lg_cmp_self _) hn)
  refine g_widen (k := cs + 16) (n := ss + 200) (show cs + 0 + 0 ≤ cs + 16 by omega) (show ss + 0 + 0 ≤ ss + 200 by omega) ?_
  exact K ad u2 s2 _ nC1 nB1 ⟨hk2, hw2, f, (hf2 o (Or.inr (by omega))).trans ((hf1 o (by omega)).trans hf)⟩
set_option maxHeartbeats 4000000 in
set_option maxRecDepth 100000 in
theorem lw_c11 {Z : gZ} {b L : Nat} {xs : Nat → Int32} {X : gX} (G : lwG Z b L xs X) {x m o i cs ss : Nat} (hm : x + 512 ≤ m) (ho : m + 26 ≤ o) (hi : i + 5 ≤ L) (hL : L ≤ 2560) (hcs : cs + 16 ≤ 601024) (hss : ss + 200 ≤ 7293034) {ad : Nat → Nat} {u : gW} {sz : Nat} {M : mM} {nC nB : Nat} (h : lwI X ad x m o M u nC nB) (hp : lwP ad x nC nB sz) (K : lwN Z X b x m o i (cs + 16) (ss + 200)) : GW Z room_1 8 (EE X) ad u sz (lvL ad b x m o i) cs ss 493 [] := by
  have C := G.1
  obtain ⟨hk, hw, f, hf⟩ := h
  refine g_aload_n C d_L_law_493 rfl 3 rfl ?_
  refine g_aload_n C d_L_law_494 rfl 4 rfl ?_
  refine g_iload C d_L_law_495 0 rfl ?_
  refine g_iconst (v := 1) C d_L_law_497 (by decide) ?_
  refine g_iadd C d_L_law_498 ?_
  refine g_sld C G.2.1 (lw_in 1 1 rfl (by omega) hL) d_L_law_499 ?_
  refine g_aload_n C d_L_law_500 rfl 4 rfl ?_
  refine g_iload C d_L_law_501 0 rfl ?_
  refine g_iconst (v := 2) C d_L_law_503 (by decide) ?_
  refine g_iadd C d_L_law_504 ?_
  refine g_sld C G.2.1 (lw_in 2 2 rfl (by omega) hL) d_L_law_505 ?_
  refine g_callV 2 C (t_X_balance _ X ad u sz x M nC nB (xs (nI i + 1).toNatClampNeg) (xs (nI i + 2).toNatClampNeg) hk) (gmem wd_344 rfl) (gmem wd_345 rfl) (gmem wd_346 rfl) (gmem wd_1 rfl) (gmem wd_347 rfl) ⟨by decide, by decide, by decide +kernel⟩ ⟨Nat.le_of_ble_eq_true rfl, Nat.le_of_ble_eq_true rfl⟩ hk.2.1.1 rfl rfl rfl (Nat.le_of_ble_eq_true rfl) d_L_law_506 ⟨(show cs + 0 ≤ 601024 by omega), (show ss + 0 ≤ 7293034 by omega)⟩ ?_
  rintro v1 u1 s1 ⟨rfl, ⟨nC1, nB1, hk1⟩, hf1⟩
  have hw1 : mW X ad m M u1 := mW_fr hw fun n p q => hf1 n (by omega)
  show GW Z room_1 8 (EE X) ad u1 s1 (lvL ad b x m o i) (cs + 0) (ss + 0) 509 [.long (a_balance M (xs (nI i + 1).toNatClampNeg) (xs (nI i + 2).toNatClampNeg))]
  refine g_aload_n C d_L_law_509 rfl 2 rfl ?_
  refine g_aload_n C d_L_law_510 rfl 4 rfl ?_
  refine g_iload C d_L_law_511 0 rfl ?_
  refine g_iconst (v := 1) C d_L_law_513 (by decide) ?_
  refine g_iadd C d_L_law_514 ?_
  refine g_sld C G.2.1 (lw_in 1 1 rfl (by omega) hL) d_L_law_515 ?_
  refine g_aload_n C d_L_law_516 rfl 4 rfl ?_
  refine g_iload C d_L_law_517 0 rfl ?_
  refine g_iconst (v := 2) C d_L_law_519 (by decide) ?_
  refine g_iadd C d_L_law_520 ?_
  refine g_sld C G.2.1 (lw_in 2 2 rfl (by omega) hL) d_L_law_521 ?_
  refine g_callV 2 C (t_M_balance _ X ad u1 s1 m M nC nB (xs (nI i + 1).toNatClampNeg) (xs (nI i + 2).toNatClampNeg) hw1 hk.1) (gmem wd_719 rfl) (gmem wd_643 rfl) (gmem wd_644 rfl) (gmem wd_4 rfl) (gmem wd_645 rfl) ⟨by decide, by decide, by decide +kernel⟩ ⟨Nat.le_of_ble_eq_true rfl, Nat.le_of_ble_eq_true rfl⟩ (mW_0 hw1) rfl rfl rfl (Nat.le_of_ble_eq_true rfl) d_L_law_522 ⟨(show cs + 0 + 0 ≤ 601024 by omega), (show ss + 0 + 0 ≤ 7293034 by omega)⟩ ?_
  rintro v2 u2 s2 ⟨rfl, hw2, hf2⟩
  have hk2 := kD_fr hk1 fun n p q => hf2 n (Or.inl (by omega))
  show GW Z room_1 8 (EE X) ad u2 s2 (lvL ad b x m o i) (cs + 0 + 0) (ss + 0 + 0) 525 [.long (a_balance M (xs (nI i + 1).toNatClampNeg) (xs (nI i + 2).toNatClampNeg)), .long (a_balance M (xs (nI i + 1).toNatClampNeg) (xs (nI i + 2).toNatClampNeg))]
  refine g_lcmp C d_L_law_525 ?_
  refine g_if_eq 834 C d_L_law_526 (by decide) (fun _ => ?_) (fun hn => absurd (lg_cmp_self _) hn)
  refine g_widen (k := cs + 16) (n := ss + 200) (show cs + 0 + 0 ≤ cs + 16 by omega) (show ss + 0 + 0 ≤ ss + 200 by omega) ?_
  exact K ad u2 s2 _ nC1 nB1 ⟨hk2, hw2, f, (hf2 o (Or.inr (by omega))).trans ((hf1 o (by omega)).trans hf)⟩
set_option maxHeartbeats 4000000 in
set_option maxRecDepth 100000 in
theorem lw_c12 {Z : gZ} {b L : Nat} {xs : Nat → Int32} {X : gX} (G : lwG Z b L xs X) {x m o i cs ss : Nat} (hm : x + 512 ≤ m) (ho : m + 26 ≤ o) (hi : i + 5 ≤ L) (hL : L ≤ 2560) (hcs : cs + 16 ≤ 601024) (hss : ss + 200 ≤ 7293034) {ad : Nat → Nat} {u : gW} {sz : Nat} {M : mM} {nC nB : Nat} (h : lwI X ad x m o M u nC nB) (hp : lwP ad x nC nB sz) (K : lwN Z X b x m o i (cs + 16) (ss + 200)) : GW Z room_1 8 (EE X) ad u sz (lvL ad b x m o i) cs ss 531 [] := by
  have C := G.1
  obtain ⟨hk, hw, f, hf⟩ := h
  refine g_aload_n C d_L_law_531 rfl 3 rfl ?_
  refine g_aload_n C d_L_law_532 rfl 4 rfl ?_
  refine g_iload C d_L_law_533 0 rfl ?_
  refine g_iconst (v := 1) C d_L_law_535 (by decide) ?_
  refine g_iadd C d_L_law_536 ?_
  refine g_sld C G.2.1 (lw_in 1 1 rfl (by omega) hL) d_L_law_537 ?_
  refine g_aload_n C d_L_law_538 rfl 4 rfl ?_
  refine g_iload C d_L_law_539 0 rfl ?_
  refine g_iconst (v := 2) C d_L_law_541 (by decide) ?_
  refine g_iadd C d_L_law_542 ?_
  refine g_sld C G.2.1 (lw_in 2 2 rfl (by omega) hL) d_L_law_543 ?_
  refine g_callV 2 C (t_X_drift _ X ad u sz x M nC nB (xs (nI i + 1).toNatClampNeg) (xs (nI i + 2).toNatClampNeg) hk) (gmem wd_349 rfl) (gmem wd_350 rfl) (gmem wd_351 rfl) (gmem wd_1 rfl) (gmem wd_352 rfl) ⟨by decide, by decide, by decide +kernel⟩ ⟨Nat.le_of_ble_eq_true rfl, Nat.le_of_ble_eq_true rfl⟩ hk.2.1.1 rfl rfl rfl (Nat.le_of_ble_eq_true rfl) d_L_law_544 ⟨(show cs + 0 ≤ 601024 by omega), (show ss + 0 ≤ 7293034 by omega)⟩ ?_
  rintro v1 u1 s1 ⟨rfl, ⟨nC1, nB1, hk1⟩, hf1⟩
  have hw1 : mW X ad m M u1 := mW_fr hw fun n p q => hf1 n (by omega)
  show GW Z room_1 8 (EE X) ad u1 s1 (lvL ad b x m o i) (cs + 0) (ss + 0) 547 [.long (a_drift M (xs (nI i + 1).toNatClampNeg) (xs (nI i + 2).toNatClampNeg))]
  refine g_aload_n C d_L_law_547 rfl 2 rfl ?_
  refine g_aload_n C d_L_law_548 rfl 4 rfl ?_
  refine g_iload C d_L_law_549 0 rfl ?_
  refine g_iconst (v := 1) C d_L_law_551 (by decide) ?_
  refine g_iadd C d_L_law_552 ?_
  refine g_sld C G.2.1 (lw_in 1 1 rfl (by omega) hL) d_L_law_553 ?_
  refine g_aload_n C d_L_law_554 rfl 4 rfl ?_
  refine g_iload C d_L_law_555 0 rfl ?_
  refine g_iconst (v := 2) C d_L_law_557 (by decide) ?_
  refine g_iadd C d_L_law_558 ?_
  refine g_sld C G.2.1 (lw_in 2 2 rfl (by omega) hL) d_L_law_559 ?_
  refine g_callV 2 C (t_M_drift _ X ad u1 s1 m M nC nB (xs (nI i + 1).toNatClampNeg) (xs (nI i + 2).toNatClampNeg) hw1 hk.1) (gmem wd_720 rfl) (gmem wd_721 rfl) (gmem wd_722 rfl) (gmem wd_4 rfl) (gmem wd_723 rfl) ⟨by decide, by decide, by decide +kernel⟩ ⟨Nat.le_of_ble_eq_true rfl, Nat.le_of_ble_eq_true rfl⟩ (mW_0 hw1) rfl rfl rfl (Nat.le_of_ble_eq_true rfl) d_L_law_560 ⟨(show cs + 0 + 0 ≤ 601024 by omega), (show ss + 0 + 0 ≤ 7293034 by omega)⟩ ?_
  rintro v2 u2 s2 ⟨rfl, hw2, hf2⟩
  have hk2 := kD_fr hk1 fun n p q => hf2 n (Or.inl (by omega))
  show GW Z room_1 8 (EE X) ad u2 s2 (lvL ad b x m o i) (cs + 0 + 0) (ss + 0 + 0) 563 [.long (a_drift M (xs (nI i + 1).toNatClampNeg) (xs (nI i + 2).toNatClampNeg)), .long (a_drift M (xs (nI i + 1).toNatClampNeg) (xs (nI i + 2).toNatClampNeg))]
  refine g_lcmp C d_L_law_563 ?_
  refine g_if_eq 834 C d_L_law_564 (by decide) (fun _ => ?_) (fun hn => absurd (lg_cmp_self _) hn)
  refine g_widen (k := cs + 16) (n := ss + 200) (show cs + 0 + 0 ≤ cs + 16 by omega) (show ss + 0 + 0 ≤ ss + 200 by omega) ?_
  exact K ad u2 s2 _ nC1 nB1 ⟨hk2, hw2, f, (hf2 o (Or.inr (by omega))).trans ((hf1 o (by omega)).trans hf)⟩
set_option maxHeartbeats 4000000 in
set_option maxRecDepth 100000 in
theorem lw_c13 {Z : gZ} {b L : Nat} {xs : Nat → Int32} {X : gX} (G : lwG Z b L xs X) {x m o i cs ss : Nat} (hm : x + 512 ≤ m) (ho : m + 26 ≤ o) (hi : i + 5 ≤ L) (hL : L ≤ 2560) (hcs : cs + 16 ≤ 601024) (hss : ss + 200 ≤ 7293034) {ad : Nat → Nat} {u : gW} {sz : Nat} {M : mM} {nC nB : Nat} (h : lwI X ad x m o M u nC nB) (hp : lwP ad x nC nB sz) (K : lwN Z X b x m o i (cs + 16) (ss + 200)) : GW Z room_1 8 (EE X) ad u sz (lvL ad b x m o i) cs ss 569 [] := by
  have C := G.1
  obtain ⟨hk, hw, f, hf⟩ := h
  refine g_aload_n C d_L_law_569 rfl 3 rfl ?_
  refine g_aload_n C d_L_law_570 rfl 4 rfl ?_
  refine g_iload C d_L_law_571 0 rfl ?_
  refine g_iconst (v := 1) C d_L_law_573 (by decide) ?_
  refine g_iadd C d_L_law_574 ?_
  refine g_sld C G.2.1 (lw_in 1 1 rfl (by omega) hL) d_L_law_575 ?_
  refine g_callV 1 C (t_X_settle _ X ad u sz x M nC nB (xs (nI i + 1).toNatClampNeg) hk) (gmem wd_353 rfl) (gmem wd_354 rfl) (gmem wd_355 rfl) (gmem wd_1 rfl) (gmem wd_356 rfl) ⟨by decide, by decide, by decide +kernel⟩ ⟨Nat.le_of_ble_eq_true rfl, Nat.le_of_ble_eq_true rfl⟩ hk.2.1.1 rfl rfl rfl (Nat.le_of_ble_eq_true rfl) d_L_law_576 ⟨(show cs + 0 ≤ 601024 by omega), (show ss + 0 ≤ 7293034 by omega)⟩ ?_
  rintro v1 u1 s1 ⟨rfl, ⟨nC1, nB1, hk1⟩, hf1⟩
  have hw1 : mW X ad m M u1 := mW_fr hw fun n p q => hf1 n (by omega)
  show GW Z room_1 8 (EE X) ad u1 s1 (lvL ad b x m o i) (cs + 0) (ss + 0) 579 [.int (a_settle M (xs (nI i + 1).toNatClampNeg))]
  refine g_aload_n C d_L_law_579 rfl 2 rfl ?_
  refine g_aload_n C d_L_law_580 rfl 4 rfl ?_
  refine g_iload C d_L_law_581 0 rfl ?_
  refine g_iconst (v := 1) C d_L_law_583 (by decide) ?_
  refine g_iadd C d_L_law_584 ?_
  refine g_sld C G.2.1 (lw_in 1 1 rfl (by omega) hL) d_L_law_585 ?_
  refine g_callV 1 C (t_M_settle _ X ad u1 s1 m M nC nB (xs (nI i + 1).toNatClampNeg) hw1 hk.1) (gmem wd_724 rfl) (gmem wd_725 rfl) (gmem wd_726 rfl) (gmem wd_4 rfl) (gmem wd_727 rfl) ⟨by decide, by decide, by decide +kernel⟩ ⟨Nat.le_of_ble_eq_true rfl, Nat.le_of_ble_eq_true rfl⟩ (mW_0 hw1) rfl rfl rfl (Nat.le_of_ble_eq_true rfl) d_L_law_586 ⟨(show cs + 0 + 0 ≤ 601024 by omega), (show ss + 0 + 0 ≤ 7293034 by omega)⟩ ?_
  rintro v2 u2 s2 ⟨rfl, hw2, hf2⟩
  have hk2 := kD_fr hk1 fun n p q => hf2 n (Or.inl (by omega))
  show GW Z room_1 8 (EE X) ad u2 s2 (lvL ad b x m o i) (cs + 0 + 0) (ss + 0 + 0) 589 [.int (a_settle M (xs (nI i + 1).toNatClampNeg)), .int (a_settle M (xs (nI i + 1).toNatClampNeg))]
  refine g_icmp_eq 834 C d_L_law_589 (by decide) (fun _ => ?_) (fun hn => absurd rfl hn)
  refine g_widen (k := cs + 16) (n := ss + 200) (show cs + 0 + 0 ≤ cs + 16 by omega) (show ss + 0 + 0 ≤ ss + 200 by omega) ?_
  exact K ad u2 s2 _ nC1 nB1 ⟨hk2, hw2, f, (hf2 o (Or.inr (by omega))).trans ((hf1 o (by omega)).trans hf)⟩
set_option maxHeartbeats 4000000 in
set_option maxRecDepth 100000 in
theorem lw_c15 {Z : gZ} {b L : Nat} {xs : Nat → Int32} {X : gX} (G : lwG Z b L xs X) {x m o i cs ss : Nat} (hm : x + 512 ≤ m) (ho : m + 26 ≤ o) (hi : i + 5 ≤ L) (hL : L ≤ 2560) (hcs : cs + 16 ≤ 601024) (hss : ss + 200 ≤ 7293034) {ad : Nat → Nat} {u : gW} {sz : Nat} {M : mM} {nC nB : Nat} (h : lwI X ad x m o M u nC nB) (hp : lwP ad x nC nB sz) (K : lwN Z X b x m o i (cs + 16) (ss + 200)) : GW Z room_1 8 (EE X) ad u sz (lvL ad b x m o i) cs ss 673 [] := by
  have C := G.1
  obtain ⟨hk, hw, f, hf⟩ := h
  refine g_aload_n C d_L_law_673 rfl 3 rfl ?_
  refine g_aload_n C d_L_law_674 rfl 4 rfl ?_
  refine g_iload C d_L_law_675 0 rfl ?_
  refine g_iconst (v := 1) C d_L_law_677 (by decide) ?_
  refine g_iadd C d_L_law_678 ?_
  refine g_sld C G.2.1 (lw_in 1 1 rfl (by omega) hL) d_L_law_679 ?_
  refine g_aload_n C d_L_law_680 rfl 4 rfl ?_
  refine g_iload C d_L_law_681 0 rfl ?_
  refine g_iconst (v := 2) C d_L_law_683 (by decide) ?_
  refine g_iadd C d_L_law_684 ?_
  refine g_sld C G.2.1 (lw_in 2 2 rfl (by omega) hL) d_L_law_685 ?_
  refine g_callV 2 C (t_X_tick _ X ad u sz x M nC nB (xs (nI i + 1).toNatClampNeg) (xs (nI i + 2).toNatClampNeg) hk) (gmem wd_392 rfl) (gmem wd_393 rfl) (gmem wd_394 rfl) (gmem wd_1 rfl) (gmem wd_395 rfl) ⟨by decide, by decide, by decide +kernel⟩ ⟨Nat.le_of_ble_eq_true rfl, Nat.le_of_ble_eq_true rfl⟩ hk.2.1.1 rfl rfl rfl (Nat.le_of_ble_eq_true rfl) d_L_law_686 ⟨(show cs + 0 ≤ 601024 by omega), (show ss + 0 ≤ 7293034 by omega)⟩ ?_
  rintro v1 u1 s1 ⟨rfl, ⟨nC1, nB1, hk1⟩, hf1⟩
  have hw1 : mW X ad m M u1 := mW_fr hw fun n p q => hf1 n (by omega)
  show GW Z room_1 8 (EE X) ad u1 s1 (lvL ad b x m o i) (cs + 0) (ss + 0) 689 [.int (bI (q_tick M (xs (nI i + 1).toNatClampNeg) (xs (nI i + 2).toNatClampNeg)))]
  refine g_aload_n C d_L_law_689 rfl 2 rfl ?_
  refine g_aload_n C d_L_law_690 rfl 4 rfl ?_
  refine g_iload C d_L_law_691 0 rfl ?_
  refine g_iconst (v := 1) C d_L_law_693 (by decide) ?_
  refine g_iadd C d_L_law_694 ?_
  refine g_sld C G.2.1 (lw_in 1 1 rfl (by omega) hL) d_L_law_695 ?_
  refine g_aload_n C d_L_law_696 rfl 4 rfl ?_
  refine g_iload C d_L_law_697 0 rfl ?_
  refine g_iconst (v := 2) C d_L_law_699 (by decide) ?_
  refine g_iadd C d_L_law_700 ?_
  refine g_sld C G.2.1 (lw_in 2 2 rfl (by omega) hL) d_L_law_701 ?_
  refine g_callV 2 C (t_M_tick _ X ad u1 s1 m M nC nB (xs (nI i + 1).toNatClampNeg) (xs (nI i + 2).toNatClampNeg) hw1 hk.1) (gmem wd_755 rfl) (gmem wd_756 rfl) (gmem wd_757 rfl) (gmem wd_4 rfl) (gmem wd_758 rfl) ⟨by decide, by decide, by decide +kernel⟩ ⟨Nat.le_of_ble_eq_true rfl, Nat.le_of_ble_eq_true rfl⟩ (mW_0 hw1) rfl rfl rfl (Nat.le_of_ble_eq_true rfl) d_L_law_702 ⟨(show cs + 0 + 0 ≤ 601024 by omega), (show ss + 0 + 0 ≤ 7293034 by omega)⟩ ?_
  rintro v2 u2 s2 ⟨rfl, hw2, hf2⟩
  have hk2 := kD_fr hk1 fun n p q => hf2 n (Or.inl (by omega))
  show GW Z room_1 8 (EE X) ad u2 s2 (lvL ad b x m o i) (cs + 0 + 0) (ss + 0 + 0) 705 [.int (bI (q_tick M (xs (nI i + 1).toNatClampNeg) (xs (nI i + 2).toNatClampNeg))), .int (bI (q_tick M (xs (nI i + 1).toNatClampNeg) (xs (nI i + 2).toNatClampNeg)))]
  refine g_icmp_eq 834 C d_L_law_705 (by decide) (fun _ => ?_) (fun hn => absurd rfl hn)
  refine g_widen (k := cs + 16) (n := ss + 200) (show cs + 0 + 0 ≤ cs + 16 by omega) (show ss + 0 + 0 ≤ ss + 200 by omega) ?_
  exact K ad u2 s2 _ nC1 nB1 ⟨hk2, hw2, f, (hf2 o (Or.inr (by omega))).trans ((hf1 o (by omega)).trans hf)⟩
set_option maxHeartbeats 4000000 in
set_option maxRecDepth 100000 in
theorem lw_c16 {Z : gZ} {b L : Nat} {xs : Nat → Int32} {X : gX} (G : lwG Z b L xs X) {x m o i cs ss : Nat} (hm : x + 512 ≤ m) (ho : m + 26 ≤ o) (hi : i + 5 ≤ L) (hL : L ≤ 2560) (hcs : cs + 16 ≤ 601024) (hss : ss + 200 ≤ 7293034) {ad : Nat → Nat} {u : gW} {sz : Nat} {M : mM} {nC nB : Nat} (h : lwI X ad x m o M u nC nB) (hp : lwP ad x nC nB sz) (K : lwN Z X b x m o i (cs + 16) (ss + 200)) : GW Z room_1 8 (EE X) ad u sz (lvL ad b x m o i) cs ss 710 [] := by
  have C := G.1
  obtain ⟨hk, hw, f, hf⟩ := h
  refine g_aload_n C d_L_law_710 rfl 3 rfl ?_
  refine g_aload_n C d_L_law_711 rfl 4 rfl ?_
  refine g_iload C d_L_law_712 0 rfl ?_
  refine g_iconst (v := 1) C d_L_law_714 (by decide) ?_
  refine g_iadd C d_L_law_715 ?_
  refine g_sld C G.2.1 (lw_in 1 1 rfl (by omega) hL) d_L_law_716 ?_
  refine g_callV 1 C (t_X_giveUp _ X ad u sz x M nC nB (xs (nI i + 1).toNatClampNeg) hk) (gmem wd_404 rfl) (gmem wd_405 rfl) (gmem wd_406 rfl) (gmem wd_1 rfl) (gmem wd_407 rfl) ⟨by decide, by decide, by decide +kernel⟩ ⟨Nat.le_of_ble_eq_true rfl, Nat.le_of_ble_eq_true rfl⟩ hk.2.1.1 rfl rfl rfl (Nat.le_of_ble_eq_true rfl) d_L_law_717 ⟨(show cs + 0 ≤ 601024 by omega), (show ss + 0 ≤ 7293034 by omega)⟩ ?_
  rintro v1 u1 s1 ⟨rfl, ⟨nC1, nB1, hk1⟩, hf1⟩
  have hw1 : mW X ad m M u1 := mW_fr hw fun n p q => hf1 n (by omega)
  show GW Z room_1 8 (EE X) ad u1 s1 (lvL ad b x m o i) (cs + 0) (ss + 0) 720 [.int (a_giveUp M (xs (nI i + 1).toNatClampNeg))]
  refine g_aload_n C d_L_law_720 rfl 2 rfl ?_
  refine g_aload_n C d_L_law_721 rfl 4 rfl ?_
  refine g_iload C d_L_law_722 0 rfl ?_
  refine g_iconst (v := 1) C d_L_law_724 (by decide) ?_
  refine g_iadd C d_L_law_725 ?_
  refine g_sld C G.2.1 (lw_in 1 1 rfl (by omega) hL) d_L_law_726 ?_
  refine g_callV 1 C (t_M_giveUp _ X ad u1 s1 m M nC nB (xs (nI i + 1).toNatClampNeg) hw1 hk.1) (gmem wd_759 rfl) (gmem wd_760 rfl) (gmem wd_761 rfl) (gmem wd_4 rfl) (gmem wd_762 rfl) ⟨by decide, by decide, by decide +kernel⟩ ⟨Nat.le_of_ble_eq_true rfl, Nat.le_of_ble_eq_true rfl⟩ (mW_0 hw1) rfl rfl rfl (Nat.le_of_ble_eq_true rfl) d_L_law_727 ⟨(show cs + 0 + 0 ≤ 601024 by omega), (show ss + 0 + 0 ≤ 7293034 by omega)⟩ ?_
  rintro v2 u2 s2 ⟨rfl, hw2, hf2⟩
  have hk2 := kD_fr hk1 fun n p q => hf2 n (Or.inl (by omega))
  show GW Z room_1 8 (EE X) ad u2 s2 (lvL ad b x m o i) (cs + 0 + 0) (ss + 0 + 0) 730 [.int (a_giveUp M (xs (nI i + 1).toNatClampNeg)), .int (a_giveUp M (xs (nI i + 1).toNatClampNeg))]
  refine g_icmp_eq 834 C d_L_law_730 (by decide) (fun _ => ?_) (fun hn => absurd rfl hn)
  refine g_widen (k := cs + 16) (n := ss + 200) (show cs + 0 + 0 ≤ cs + 16 by omega) (show ss + 0 + 0 ≤ ss + 200 by omega) ?_
  exact K ad u2 s2 _ nC1 nB1 ⟨hk2, hw2, f, (hf2 o (Or.inr (by omega))).trans ((hf1 o (by omega)).trans hf)⟩
set_option maxHeartbeats 4000000 in
set_option maxRecDepth 100000 in
theorem lw_c17 {Z : gZ} {b L : Nat} {xs : Nat → Int32} {X : gX} (G : lwG Z b L xs X) {x m o i cs ss : Nat} (hm : x + 512 ≤ m) (ho : m + 26 ≤ o) (hi : i + 5 ≤ L) (hL : L ≤ 2560) (hcs : cs + 16 ≤ 601024) (hss : ss + 200 ≤ 7293034) {ad : Nat → Nat} {u : gW} {sz : Nat} {M : mM} {nC nB : Nat} (h : lwI X ad x m o M u nC nB) (hp : lwP ad x nC nB sz) (K : lwN Z X b x m o i (cs + 16) (ss + 200)) : GW Z room_1 8 (EE X) ad u sz (lvL ad b x m o i) cs ss 735 [] := by
  have C := G.1
  obtain ⟨hk, hw, f, hf⟩ := h
  refine g_aload_n C d_L_law_735 rfl 3 rfl ?_
  refine g_aload_n C d_L_law_736 rfl 4 rfl ?_
  refine g_iload C d_L_law_737 0 rfl ?_
  refine g_iconst (v := 1) C d_L_law_739 (by decide) ?_
  refine g_iadd C d_L_law_740 ?_
  refine g_sld C G.2.1 (lw_in 1 1 rfl (by omega) hL) d_L_law_741 ?_
  refine g_callV 1 C (t_X_close _ X ad u sz x M nC nB (xs (nI i + 1).toNatClampNeg) hk) (gmem wd_408 rfl) (gmem wd_409 rfl) (gmem wd_410 rfl) (gmem wd_1 rfl) (gmem wd_411 rfl) ⟨by decide, by decide, by decide +kernel⟩ ⟨Nat.le_of_ble_eq_true rfl, Nat.le_of_ble_eq_true rfl⟩ hk.2.1.1 rfl rfl rfl (Nat.le_of_ble_eq_true rfl) d_L_law_742 ⟨(show cs + 0 ≤ 601024 by omega), (show ss + 0 ≤ 7293034 by omega)⟩ ?_
  rintro v1 u1 s1 ⟨rfl, ⟨nC1, nB1, hk1⟩, hf1⟩
  have hw1 : mW X ad m M u1 := mW_fr hw fun n p q => hf1 n (by omega)
  show GW Z room_1 8 (EE X) ad u1 s1 (lvL ad b x m o i) (cs + 0) (ss + 0) 745 [.int (bI (q_close M (xs (nI i + 1).toNatClampNeg)))]
  refine g_aload_n C d_L_law_745 rfl 2 rfl ?_
  refine g_aload_n C d_L_law_746 rfl 4 rfl ?_
  refine g_iload C d_L_law_747 0 rfl ?_
  refine g_iconst (v := 1) C d_L_law_749 (by decide) ?_
  refine g_iadd C d_L_law_750 ?_
  refine g_sld C G.2.1 (lw_in 1 1 rfl (by omega) hL) d_L_law_751 ?_
  refine g_callV 1 C (t_M_close _ X ad u1 s1 m M nC nB (xs (nI i + 1).toNatClampNeg) hw1 hk.1) (gmem wd_767 rfl) (gmem wd_768 rfl) (gmem wd_769 rfl) (gmem wd_4 rfl) (gmem wd_770 rfl) ⟨by decide, by decide, by decide +kernel⟩ ⟨Nat.le_of_ble_eq_true rfl, Nat.le_of_ble_eq_true rfl⟩ (mW_0 hw1) rfl rfl rfl (Nat.le_of_ble_eq_true rfl) d_L_law_752 ⟨(show cs + 0 + 0 ≤ 601024 by omega), (show ss + 0 + 0 ≤ 7293034 by omega)⟩ ?_
  rintro v2 u2 s2 ⟨rfl, hw2, hf2⟩
  have hk2 := kD_fr hk1 fun n p q => hf2 n (Or.inl (by omega))
  show GW Z room_1 8 (EE X) ad u2 s2 (lvL ad b x m o i) (cs + 0 + 0) (ss + 0 + 0) 755 [.int (bI (q_close M (xs (nI i + 1).toNatClampNeg))), .int (bI (q_close M (xs (nI i + 1).toNatClampNeg)))]
  refine g_icmp_eq 834 C d_L_law_755 (by decide) (fun _ => ?_) (fun hn => absurd rfl hn)
  refine g_widen (k := cs + 16) (n := ss + 200) (show cs + 0 + 0 ≤ cs + 16 by omega) (show ss + 0 + 0 ≤ ss + 200 by omega) ?_
  exact K ad u2 s2 _ nC1 nB1 ⟨hk2, hw2, f, (hf2 o (Or.inr (by omega))).trans ((hf1 o (by omega)).trans hf)⟩
set_option maxHeartbeats 4000000 in
set_option maxRecDepth 100000 in
theorem lw_c18 {Z : gZ} {b L : Nat} {xs : Nat → Int32} {X : gX} (G : lwG Z b L xs X) {x m o i cs ss : Nat} (hm : x + 512 ≤ m) (ho : m + 26 ≤ o) (hi : i + 5 ≤ L) (hL : L ≤ 2560) (hcs : cs + 16 ≤ 601024) (hss : ss + 200 ≤ 7293034) {ad : Nat → Nat} {u : gW} {sz : Nat} {M : mM} {nC nB : Nat} (h : lwI X ad x m o M u nC nB) (hp : lwP ad x nC nB sz) (K : lwN Z X b x m o i (cs + 16) (ss + 200)) : GW Z room_1 8 (EE X) ad u sz (lvL ad b x m o i) cs ss 760 [] := by
  have C := G.1
  obtain ⟨hk, hw, f, hf⟩ := h
  refine g_aload_n C d_L_law_760 rfl 3 rfl ?_
  refine g_aload_n C d_L_law_761 rfl 4 rfl ?_
  refine g_iload C d_L_law_762 0 rfl ?_
  refine g_iconst (v := 1) C d_L_law_764 (by decide) ?_
  refine g_iadd C d_L_law_765 ?_
  refine g_sld C G.2.1 (lw_in 1 1 rfl (by omega) hL) d_L_law_766 ?_
  refine g_aload_n C d_L_law_767 rfl 4 rfl ?_
  refine g_iload C d_L_law_768 0 rfl ?_
  refine g_iconst (v := 2) C d_L_law_770 (by decide) ?_
  refine g_iadd C d_L_law_771 ?_
  refine g_sld C G.2.1 (lw_in 2 2 rfl (by omega) hL) d_L_law_772 ?_
  refine g_callV 2 C (t_X_count _ X ad u sz x M nC nB (xs (nI i + 1).toNatClampNeg) (xs (nI i + 2).toNatClampNeg) hk) (gmem wd_412 rfl) (gmem wd_413 rfl) (gmem wd_414 rfl) (gmem wd_1 rfl) (gmem wd_415 rfl) ⟨by decide, by decide, by decide +kernel⟩ ⟨Nat.le_of_ble_eq_true rfl, Nat.le_of_ble_eq_true rfl⟩ hk.2.1.1 rfl rfl rfl (Nat.le_of_ble_eq_true rfl) d_L_law_773 ⟨(show cs + 0 ≤ 601024 by omega), (show ss + 0 ≤ 7293034 by omega)⟩ ?_
  rintro v1 u1 s1 ⟨rfl, ⟨nC1, nB1, hk1⟩, hf1⟩
  have hw1 : mW X ad m M u1 := mW_fr hw fun n p q => hf1 n (by omega)
  show GW Z room_1 8 (EE X) ad u1 s1 (lvL ad b x m o i) (cs + 0) (ss + 0) 776 [.int (a_count M (xs (nI i + 1).toNatClampNeg) (xs (nI i + 2).toNatClampNeg))]
  refine g_aload_n C d_L_law_776 rfl 2 rfl ?_
  refine g_aload_n C d_L_law_777 rfl 4 rfl ?_
  refine g_iload C d_L_law_778 0 rfl ?_
  refine g_iconst (v := 1) C d_L_law_780 (by decide) ?_
  refine g_iadd C d_L_law_781 ?_
  refine g_sld C G.2.1 (lw_in 1 1 rfl (by omega) hL) d_L_law_782 ?_
  refine g_aload_n C d_L_law_783 rfl 4 rfl ?_
  refine g_iload C d_L_law_784 0 rfl ?_
  refine g_iconst (v := 2) C d_L_law_786 (by decide) ?_
  refine g_iadd C d_L_law_787 ?_
  refine g_sld C G.2.1 (lw_in 2 2 rfl (by omega) hL) d_L_law_788 ?_
  refine g_callV 2 C (t_M_count _ X ad u1 s1 m M nC nB (xs (nI i + 1).toNatClampNeg) (xs (nI i + 2).toNatClampNeg) hw1 hk.1) (gmem wd_771 rfl) (gmem wd_772 rfl) (gmem wd_773 rfl) (gmem wd_4 rfl) (gmem wd_774 rfl) ⟨by decide, by decide, by decide +kernel⟩ ⟨Nat.le_of_ble_eq_true rfl, Nat.le_of_ble_eq_true rfl⟩ (mW_0 hw1) rfl rfl rfl (Nat.le_of_ble_eq_true rfl) d_L_law_789 ⟨(show cs + 0 + 0 ≤ 601024 by omega), (show ss + 0 + 0 ≤ 7293034 by omega)⟩ ?_
  rintro v2 u2 s2 ⟨rfl, hw2, hf2⟩
  have hk2 := kD_fr hk1 fun n p q => hf2 n (Or.inl (by omega))
  show GW Z room_1 8 (EE X) ad u2 s2 (lvL ad b x m o i) (cs + 0 + 0) (ss + 0 + 0) 792 [.int (a_count M (xs (nI i + 1).toNatClampNeg) (xs (nI i + 2).toNatClampNeg)), .int (a_count M (xs (nI i + 1).toNatClampNeg) (xs (nI i + 2).toNatClampNeg))]
  refine g_icmp_eq 834 C d_L_law_792 (by decide) (fun _ => ?_) (fun hn => absurd rfl hn)
  refine g_widen (k := cs + 16) (n := ss + 200) (show cs + 0 + 0 ≤ cs + 16 by omega) (show ss + 0 + 0 ≤ ss + 200 by omega) ?_
  exact K ad u2 s2 _ nC1 nB1 ⟨hk2, hw2, f, (hf2 o (Or.inr (by omega))).trans ((hf1 o (by omega)).trans hf)⟩
set_option maxHeartbeats 4000000 in
set_option maxRecDepth 100000 in
theorem lw_c19 {Z : gZ} {b L : Nat} {xs : Nat → Int32} {X : gX} (G : lwG Z b L xs X) {x m o i cs ss : Nat} (hm : x + 512 ≤ m) (ho : m + 26 ≤ o) (hi : i + 5 ≤ L) (hL : L ≤ 2560) (hcs : cs + 16 ≤ 601024) (hss : ss + 200 ≤ 7293034) {ad : Nat → Nat} {u : gW} {sz : Nat} {M : mM} {nC nB : Nat} (h : lwI X ad x m o M u nC nB) (hp : lwP ad x nC nB sz) (K : lwN Z X b x m o i (cs + 16) (ss + 200)) : GW Z room_1 8 (EE X) ad u sz (lvL ad b x m o i) cs ss 797 [] := by
  have C := G.1
  obtain ⟨hk, hw, f, hf⟩ := h
  refine g_aload_n C d_L_law_797 rfl 3 rfl ?_
  refine g_aload_n C d_L_law_798 rfl 4 rfl ?_
  refine g_iload C d_L_law_799 0 rfl ?_
  refine g_iconst (v := 1) C d_L_law_801 (by decide) ?_
  refine g_iadd C d_L_law_802 ?_
  refine g_sld C G.2.1 (lw_in 1 1 rfl (by omega) hL) d_L_law_803 ?_
  refine g_aload_n C d_L_law_804 rfl 4 rfl ?_
  refine g_iload C d_L_law_805 0 rfl ?_
  refine g_iconst (v := 2) C d_L_law_807 (by decide) ?_
  refine g_iadd C d_L_law_808 ?_
  refine g_sld C G.2.1 (lw_in 2 2 rfl (by omega) hL) d_L_law_809 ?_
  refine g_callV 2 C (t_X_groupOf _ X ad u sz x M nC nB (xs (nI i + 1).toNatClampNeg) (xs (nI i + 2).toNatClampNeg) hk) (gmem wd_416 rfl) (gmem wd_417 rfl) (gmem wd_418 rfl) (gmem wd_1 rfl) (gmem wd_419 rfl) ⟨by decide, by decide, by decide +kernel⟩ ⟨Nat.le_of_ble_eq_true rfl, Nat.le_of_ble_eq_true rfl⟩ hk.2.1.1 rfl rfl rfl (Nat.le_of_ble_eq_true rfl) d_L_law_810 ⟨(show cs + 0 ≤ 601024 by omega), (show ss + 0 ≤ 7293034 by omega)⟩ ?_
  rintro v1 u1 s1 ⟨rfl, ⟨nC1, nB1, hk1⟩, hf1⟩
  have hw1 : mW X ad m M u1 := mW_fr hw fun n p q => hf1 n (by omega)
  show GW Z room_1 8 (EE X) ad u1 s1 (lvL ad b x m o i) (cs + 0) (ss + 0) 813 [.int (a_groupOf M (xs (nI i + 1).toNatClampNeg) (xs (nI i + 2).toNatClampNeg))]
  refine g_aload_n C d_L_law_813 rfl 2 rfl ?_
  refine g_aload_n C d_L_law_814 rfl 4 rfl ?_
  refine g_iload C d_L_law_815 0 rfl ?_
  refine g_iconst (v := 1) C d_L_law_817 (by decide) ?_
  refine g_iadd C d_L_law_818 ?_
  refine g_sld C G.2.1 (lw_in 1 1 rfl (by omega) hL) d_L_law_819 ?_
  refine g_aload_n C d_L_law_820 rfl 4 rfl ?_
  refine g_iload C d_L_law_821 0 rfl ?_
  refine g_iconst (v := 2) C d_L_law_823 (by decide) ?_
  refine g_iadd C d_L_law_824 ?_
  refine g_sld C G.2.1 (lw_in 2 2 rfl (by omega) hL) d_L_law_825 ?_
  refine g_callV 2 C (t_M_groupOf _ X ad u1 s1 m M nC nB (xs (nI i + 1).toNatClampNeg) (xs (nI i + 2).toNatClampNeg) hw1 hk.1) (gmem wd_775 rfl) (gmem wd_776 rfl) (gmem wd_777 rfl) (gmem wd_4 rfl) (gmem wd_778 rfl) ⟨by decide, by decide, by decide +kernel⟩ ⟨Nat.le_of_ble_eq_true rfl, Nat.le_of_ble_eq_true rfl⟩ (mW_0 hw1) rfl rfl rfl (Nat.le_of_ble_eq_true rfl) d_L_law_826 ⟨(show cs + 0 + 0 ≤ 601024 by omega), (show ss + 0 + 0 ≤ 7293034 by omega)⟩ ?_
  rintro v2 u2 s2 ⟨rfl, hw2, hf2⟩
  have hk2 := kD_fr hk1 fun n p q => hf2 n (Or.inl (by omega))
  show GW Z room_1 8 (EE X) ad u2 s2 (lvL ad b x m o i) (cs + 0 + 0) (ss + 0 + 0) 829 [.int (a_groupOf M (xs (nI i + 1).toNatClampNeg) (xs (nI i + 2).toNatClampNeg)), .int (a_groupOf M (xs (nI i + 1).toNatClampNeg) (xs (nI i + 2).toNatClampNeg))]
  refine g_icmp_eq 834 C d_L_law_829 (by decide) (fun _ => ?_) (fun hn => absurd rfl hn)
  refine g_widen (k := cs + 16) (n := ss + 200) (show cs + 0 + 0 ≤ cs + 16 by omega) (show ss + 0 + 0 ≤ ss + 200 by omega) ?_
  exact K ad u2 s2 _ nC1 nB1 ⟨hk2, hw2, f, (hf2 o (Or.inr (by omega))).trans ((hf1 o (by omega)).trans hf)⟩
set_option maxHeartbeats 4000000 in
set_option maxRecDepth 100000 in
theorem lw_c14 {Z : gZ} {b L : Nat} {xs : Nat → Int32} {X : gX} (G : lwG Z b L xs X) {x m o i cs ss : Nat} (hm : x + 512 ≤ m) (ho : m + 26 ≤ o) (hi : i + 5 ≤ L) (hL : L ≤ 2560) (hcs : cs + 16 ≤ 601024) (hss : ss + 200 ≤ 7293034) {ad : Nat → Nat} {u : gW} {sz : Nat} {M : mM} {nC nB : Nat} (h : lwI X ad x m o M u nC nB) (hp : lwP ad x nC nB sz) (K : lwN Z X b x m o i (cs + 16) (ss + 200)) : GW Z room_1 8 (EE X) ad u sz (lvL ad b x m o i) cs ss 594 [] := by
  have C := G.1
  obtain ⟨hk, hw, f, hf⟩ := h
  refine g_aload_n C d_L_law_594 rfl 3 rfl ?_
  refine g_aload_n C d_L_law_595 rfl 4 rfl ?_
  refine g_iload C d_L_law_596 0 rfl ?_
  refine g_iconst (v := 1) C d_L_law_598 (by decide) ?_
  refine g_iadd C d_L_law_599 ?_
  refine g_sld C G.2.1 (lw_in 1 1 rfl (by omega) hL) d_L_law_600 ?_
  refine g_aload_n C d_L_law_601 rfl 4 rfl ?_
  refine g_iload C d_L_law_602 0 rfl ?_
  refine g_iconst (v := 2) C d_L_law_604 (by decide) ?_
  refine g_iadd C d_L_law_605 ?_
  refine g_sld C G.2.1 (lw_in 2 2 rfl (by omega) hL) d_L_law_606 ?_
  refine g_aload_n C d_L_law_607 rfl 4 rfl ?_
  refine g_iload C d_L_law_608 0 rfl ?_
  refine g_iconst (v := 3) C d_L_law_610 (by decide) ?_
  refine g_iadd C d_L_law_611 ?_
  refine g_sld C G.2.1 (lw_in 3 3 rfl (by omega) hL) d_L_law_612 ?_
  refine g_aload_n C d_L_law_613 rfl 1 rfl ?_
  refine g_callSW 5 C (t_L_transfer _ X ad u sz x o M nC nB (xs (nI i + 1).toNatClampNeg) (xs (nI i + 2).toNatClampNeg) (xs (nI i + 3).toNatClampNeg) f hk hf (by omega) G.2.2.2) (gmem wd_420 rfl) (gmem wd_421 rfl) (gmem wd_0 rfl) (gmem wd_422 rfl) ⟨by decide, by decide, by decide +kernel⟩ ⟨Nat.le_of_ble_eq_true rfl, Nat.le_of_ble_eq_true rfl⟩ rfl rfl (Nat.le_of_ble_eq_true rfl) d_L_law_614 ⟨(show cs + 1 ≤ 601024 by omega), (show ss + 6 ≤ 7293034 by omega)⟩ G.2.2.1 ?_
  rintro v1 u1 s1 ⟨rfl, ⟨nC1, nB1, hk1⟩, ⟨f1, hf1, ha1⟩, hg1⟩
  have hw1 : mW X ad m M u1 := mW_fr hw fun n p q => hg1 n (by omega) (by omega)
  obtain ⟨th, eth⟩ : ∃ z, z = th_tr M (xs (nI i + 1).toNatClampNeg) (xs (nI i + 2).toNatClampNeg) (xs (nI i + 3).toNatClampNeg) := ⟨_, rfl⟩
  rw [← eth] at hk1 ha1
  show GW Z room_1 8 (EE X) ad u1 s1 (lvL ad b x m o i) (cs + 1) (ss + 6) 617 [.int (th_tr M (xs (nI i + 1).toNatClampNeg) (xs (nI i + 2).toNatClampNeg) (xs (nI i + 3).toNatClampNeg))]
  rw [← eth]
  refine g_istore C d_L_law_617 ((5, .int th) :: lvL ad b x m o i) (by decide) rfl ?_
  refine g_aload_n C d_L_law_619 rfl 3 rfl ?_
  refine g_aload_n C d_L_law_620 rfl 5 rfl ?_
  refine g_iload C d_L_law_621 1 rfl ?_
  refine g_iconst (v := 1) C d_L_law_623 (by decide) ?_
  refine g_iadd C d_L_law_624 ?_
  refine g_sld C G.2.1 (lw_in 1 1 rfl (by omega) hL) d_L_law_625 ?_
  refine g_aload_n C d_L_law_626 rfl 5 rfl ?_
  refine g_iload C d_L_law_627 1 rfl ?_
  refine g_iconst (v := 2) C d_L_law_629 (by decide) ?_
  refine g_iadd C d_L_law_630 ?_
  refine g_sld C G.2.1 (lw_in 2 2 rfl (by omega) hL) d_L_law_631 ?_
  refine g_aload_n C d_L_law_632 rfl 5 rfl ?_
  refine g_iload C d_L_law_633 1 rfl ?_
  refine g_iconst (v := 3) C d_L_law_635 (by decide) ?_
  refine g_iadd C d_L_law_636 ?_
  refine g_sld C G.2.1 (lw_in 3 3 rfl (by omega) hL) d_L_law_637 ?_
  refine g_callV 3 C (t_M_transfer _ X ad u1 s1 m M nC nB (xs (nI i + 1).toNatClampNeg) (xs (nI i + 2).toNatClampNeg) (xs (nI i + 3).toNatClampNeg) hw1 hk.1) (gmem wd_747 rfl) (gmem wd_748 rfl) (gmem wd_749 rfl) (gmem wd_4 rfl) (gmem wd_750 rfl) ⟨by decide, by decide, by decide +kernel⟩ ⟨Nat.le_of_ble_eq_true rfl, Nat.le_of_ble_eq_true rfl⟩ (mW_0 hw1) rfl rfl rfl (Nat.le_of_ble_eq_true rfl) d_L_law_638 ⟨(show cs + 1 + 0 ≤ 601024 by omega), (show ss + 6 + 0 ≤ 7293034 by omega)⟩ ?_
  rintro v2 u2 s2 ⟨rfl, hw2, hf2⟩
  rw [← eth] at hw2
  obtain ⟨tr, etr⟩ : ∃ z, z = a_tr M (xs (nI i + 1).toNatClampNeg) (xs (nI i + 2).toNatClampNeg) (xs (nI i + 3).toNatClampNeg) := ⟨_, rfl⟩
  rw [← etr] at ha1
  show GW Z room_1 8 (EE X) ad u2 s2 ((5, .int th) :: lvL ad b x m o i) (cs + 1 + 0) (ss + 6 + 0) 641 [.long (a_tr M (xs (nI i + 1).toNatClampNeg) (xs (nI i + 2).toNatClampNeg) (xs (nI i + 3).toNatClampNeg))]
  rw [← etr]
  refine g_lstore C d_L_law_641 ((6, .long tr) :: (5, .int th) :: lvL ad b x m o i) (by decide) rfl ?_
  refine g_aload_n C d_L_law_643 rfl 4 rfl ?_
  refine g_callV 0 C (t_M_thrown _ X ad u2 s2 m _ hw2) (gmem wd_618 rfl) (gmem wd_619 rfl) (gmem wd_620 rfl) (gmem wd_4 rfl) (gmem wd_621 rfl) ⟨by decide, by decide, by decide +kernel⟩ ⟨Nat.le_of_ble_eq_true rfl, Nat.le_of_ble_eq_true rfl⟩ (mW_0 hw2) rfl rfl rfl (Nat.le_of_ble_eq_true rfl) d_L_law_644 ⟨(show cs + 1 + 0 + 0 ≤ 601024 by omega), (show ss + 6 + 0 + 0 ≤ 7293034 by omega)⟩ ?_
  rintro v3 u3 s3 ⟨rfl, hw3, hf3⟩
  show GW Z room_1 8 (EE X) ad u3 s3 ((6, .long tr) :: (5, .int th) :: lvL ad b x m o i) (cs + 1 + 0 + 0) (ss + 6 + 0 + 0) 647 [.int th]
  have ho3 : u3 o = some (.inl ((X.2 1), 1, .inr (.inl f1))) := (hf3 o (Or.inr (by omega))).trans ((hf2 o (Or.inr (by omega))).trans hf1)
  have hk3 := kD_fr hk1 (u' := u3) fun n p q => (hf3 n (Or.inl (by omega))).trans (hf2 n (Or.inl (by omega)))
  have E : GW Z room_1 8 (EE X) ad u3 s3 ((6, .long tr) :: (5, .int th) :: lvL ad b x m o i) (cs + 1 + 0 + 0) (ss + 6 + 0 + 0) 670 [] := by
    refine g_goto 834 C d_L_law_670 (by decide) ?_
    refine g_fewer [2, 3, 4, 5, 6] (lv' := lvL ad b x m o i) rfl ?_
    refine g_widen (k := cs + 16) (n := ss + 200) (show cs + 1 + 0 + 0 ≤ cs + 16 by omega) (show ss + 6 + 0 + 0 ≤ ss + 200 by omega) ?_
    exact K ad u3 s3 _ nC1 nB1 ⟨hk3, hw3, f1, ho3⟩
  refine g_iload C d_L_law_647 1 rfl ?_
  refine g_icmp_eq 654 C d_L_law_649 (by decide) (fun _ => ?_) (fun hn => absurd rfl hn)
  refine g_iload C d_L_law_654 1 rfl ?_
  refine g_if_ne 670 C d_L_law_656 (by decide) (fun _ => E) (fun h0 => ?_)
  refine g_aload_n C d_L_law_659 rfl 3 rfl ?_
  refine g_iconst (v := 0) C d_L_law_660 (by decide) ?_
  refine g_lald o 1 C ho3 rfl (vp_in_nI (n := 0) (by decide) (by decide)) d_L_law_661 ?_
  show GW Z room_1 8 (EE X) ad u3 s3 ((6, .long tr) :: (5, .int th) :: lvL ad b x m o i) (cs + 1 + 0 + 0) (ss + 6 + 0 + 0) 662 [.long (f1 0)]
  rw [ha1 h0]
  refine g_lload C d_L_law_662 0 rfl ?_
  refine g_lcmp C d_L_law_664 ?_
  exact g_if_eq 670 C d_L_law_665 (by decide) (fun _ => E) (fun hn => absurd (lg_cmp_self _) hn)
