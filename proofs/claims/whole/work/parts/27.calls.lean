set_option maxRecDepth 100000 in
set_option maxHeartbeats 1000000 in
theorem lw_0_letter {l : Launch} {G : aG} {X : aX} {nm : String} {b L x n i : Nat} {xs : Nat → Int32} {σ : aS} (hX : AOk l G X code R_law nm 4 room_1) (hSX : SX G X b L xs) (hL : L ≤ 320) (hi : i + 5 ≤ L) (hn64 : n < 64) (hJ : Jn G x n σ) (k : ∀ σ' : aS, Jn G x (n + 1) σ' → AA G X (63 + 6 * (n + 1)) (12600 + 18 * (n + 1)) 706 [some (.ref b), some (.ref x), some (.ref (x + 40)), some (.int (nI i))] [] σ') : AA G X (63 + 6 * n) (12600 + 18 * n) 132 [some (.ref b), some (.ref x), some (.ref (x + 40)), some (.int (nI i))] [] σ := by
  obtain ⟨tp, sr, len, cd, nb, B, nt, dy, V, hI, kn, kd, KV, tw, hn, hX0, hM, hPk, hsr, htw, htp, htz⟩ := hJ
  obtain ⟨hV, hu, hz0, hK2, hh⟩ := id hPk
  obtain ⟨hnb, hok, hnt, fs2, o2⟩ := hM.n4
  refine A_aload_n (pc := 132) rfl hX dL_law_132 ?_
  refine A_aload_n (pc := 133) rfl hX dL_law_133 ?_
  refine A_iload_n (pc := 134) rfl hX dL_law_134 ?_
  refine A_iconst (pc := 135) (v := (nI 1)) (by decide) hX dL_law_135 ?_
  refine A_iadd (pc := 136) hX dL_law_136 ?_
  refine A_top (y := nI (i + 1)) (nI_add _ _) ?_
  refine A_sld (pc := 137) hX hSX dL_law_137 (vp_in_nI (by omega) (by omega)) ?_
  refine A_V1i (pc := 138) hX mk_X11_letter lv_L_13 dL_law_138 hX0.1 (ct_letter l G hX0) rfl (Nat.le_of_ble_eq_true rfl) (Nat.le_of_ble_eq_true rfl) (Nat.le_of_ble_eq_true rfl) (by show _ ≤ 600000; omega) (by show _ ≤ 7302249; omega) (fun x138 σ138 h138 => ?_)
  obtain ⟨rfl, X1, F1⟩ := h138
  have hM1 := hM.fr F1 (by omega)
  obtain ⟨_, _, _, fs3, o3⟩ := hM1.n4
  refine A_aload_n (pc := 141) rfl hX dL_law_141 ?_
  refine A_aload_n (pc := 142) rfl hX dL_law_142 ?_
  refine A_iload_n (pc := 143) rfl hX dL_law_143 ?_
  refine A_iconst (pc := 144) (v := (nI 1)) (by decide) hX dL_law_144 ?_
  refine A_iadd (pc := 145) hX dL_law_145 ?_
  refine A_top (y := nI (i + 1)) (nI_add _ _) ?_
  refine A_sld (pc := 146) hX hSX dL_law_146 (vp_in_nI (by omega) (by omega)) ?_
  refine A_V1i (pc := 147) hX mk_X12_letter lv_L_17 dL_law_147 o3 (ct_letterM l G hM1) rfl (Nat.le_of_ble_eq_true rfl) (Nat.le_of_ble_eq_true rfl) (Nat.le_of_ble_eq_true rfl) (by show _ ≤ 600000; omega) (by show _ ≤ 7302249; omega) (fun x147 σ147 h147 => ?_)
  obtain ⟨rfl, M2, F2⟩ := h147
  refine A_icmp_eq (pc := 150) 706 hX dL_law_150 rfl (fun c150 => ?_) (fun c150 => ?_)
  · exact A_wid (by omega) (by omega) (k _ ⟨tp, sr, (stLetter len cd (xs (nI (i + 1)).toNatClampNeg)).2.1, (stLetter len cd (xs (nI (i + 1)).toNatClampNeg)).2.2, nb, B, nt, dy, V, hI, kn, kd, KV, tw, hn, (X1.fr F2 (by omega) (by omega)), M2, hPk, by omega, by omega, htp, by rw [F2.1, F1.1]; exact htz⟩)
  · exact absurd rfl c150
set_option maxRecDepth 100000 in
set_option maxHeartbeats 1000000 in
theorem lw_1_blank {l : Launch} {G : aG} {X : aX} {nm : String} {b L x n i : Nat} {xs : Nat → Int32} {σ : aS} (hX : AOk l G X code R_law nm 4 room_1) (hSX : SX G X b L xs) (hL : L ≤ 320) (hi : i + 5 ≤ L) (hn64 : n < 64) (hJ : Jn G x n σ) (k : ∀ σ' : aS, Jn G x (n + 1) σ' → AA G X (63 + 6 * (n + 1)) (12600 + 18 * (n + 1)) 706 [some (.ref b), some (.ref x), some (.ref (x + 40)), some (.int (nI i))] [] σ') : AA G X (63 + 6 * n) (12600 + 18 * n) 155 [some (.ref b), some (.ref x), some (.ref (x + 40)), some (.int (nI i))] [] σ := by
  obtain ⟨tp, sr, len, cd, nb, B, nt, dy, V, hI, kn, kd, KV, tw, hn, hX0, hM, hPk, hsr, htw, htp, htz⟩ := hJ
  obtain ⟨hV, hu, hz0, hK2, hh⟩ := id hPk
  obtain ⟨hnb, hok, hnt, fs2, o2⟩ := hM.n4
  refine A_aload_n (pc := 155) rfl hX dL_law_155 ?_
  refine A_V0i (pc := 156) hX mk_X11_blank lv_L_18 dL_law_156 hX0.1 (ct_blank l G hX0) rfl (Nat.le_of_ble_eq_true rfl) (Nat.le_of_ble_eq_true rfl) (Nat.le_of_ble_eq_true rfl) (by show _ ≤ 600000; omega) (by show _ ≤ 7302249; omega) (fun x156 σ156 h156 => ?_)
  obtain ⟨rfl, X1, F1⟩ := h156
  have hM1 := hM.fr F1 (by omega)
  obtain ⟨_, _, _, fs3, o3⟩ := hM1.n4
  refine A_aload_n (pc := 159) rfl hX dL_law_159 ?_
  refine A_V0i (pc := 160) hX mk_X12_blank lv_L_22 dL_law_160 o3 (ct_blankM l G hM1) rfl (Nat.le_of_ble_eq_true rfl) (Nat.le_of_ble_eq_true rfl) (Nat.le_of_ble_eq_true rfl) (by show _ ≤ 600000; omega) (by show _ ≤ 7302249; omega) (fun x160 σ160 h160 => ?_)
  obtain ⟨rfl, M2, F2⟩ := h160
  refine A_icmp_eq (pc := 163) 706 hX dL_law_163 rfl (fun c163 => ?_) (fun c163 => ?_)
  · exact A_wid (by omega) (by omega) (k _ ⟨tp, sr, 0, cd, nb, B, nt, dy, V, hI, kn, kd, KV, tw, hn, (X1.fr F2 (by omega) (by omega)), M2, hPk, by omega, by omega, htp, by rw [F2.1, F1.1]; exact htz⟩)
  · exact absurd rfl c163
set_option maxRecDepth 100000 in
set_option maxHeartbeats 1000000 in
theorem lw_2_fault {l : Launch} {G : aG} {X : aX} {nm : String} {b L x n i : Nat} {xs : Nat → Int32} {σ : aS} (hX : AOk l G X code R_law nm 4 room_1) (hSX : SX G X b L xs) (hL : L ≤ 320) (hi : i + 5 ≤ L) (hn64 : n < 64) (hJ : Jn G x n σ) (k : ∀ σ' : aS, Jn G x (n + 1) σ' → AA G X (63 + 6 * (n + 1)) (12600 + 18 * (n + 1)) 706 [some (.ref b), some (.ref x), some (.ref (x + 40)), some (.int (nI i))] [] σ') : AA G X (63 + 6 * n) (12600 + 18 * n) 168 [some (.ref b), some (.ref x), some (.ref (x + 40)), some (.int (nI i))] [] σ := by
  obtain ⟨tp, sr, len, cd, nb, B, nt, dy, V, hI, kn, kd, KV, tw, hn, hX0, hM, hPk, hsr, htw, htp, htz⟩ := hJ
  obtain ⟨hV, hu, hz0, hK2, hh⟩ := id hPk
  obtain ⟨hnb, hok, hnt, fs2, o2⟩ := hM.n4
  have hM1 := hM
  refine A_aload_n (pc := 168) rfl hX dL_law_168 ?_
  refine A_aload_n (pc := 169) rfl hX dL_law_169 ?_
  refine A_iload_n (pc := 170) rfl hX dL_law_170 ?_
  refine A_iconst (pc := 171) (v := (nI 1)) (by decide) hX dL_law_171 ?_
  refine A_iadd (pc := 172) hX dL_law_172 ?_
  refine A_top (y := nI (i + 1)) (nI_add _ _) ?_
  refine A_sld (pc := 173) hX hSX dL_law_173 (vp_in_nI (by omega) (by omega)) ?_
  refine A_V1d (pc := 174) hX mk_X11_fault lv_L_23 dL_law_174 hX0.1 (ct_fault l G hX0) rfl (Nat.le_of_ble_eq_true rfl) (Nat.le_of_ble_eq_true rfl) (Nat.le_of_ble_eq_true rfl) (by show _ ≤ 600000; omega) (by show _ ≤ 7302249; omega) ?_
  refine A_aload_n (pc := 177) rfl hX dL_law_177 ?_
  refine A_aload_n (pc := 178) rfl hX dL_law_178 ?_
  refine A_iload_n (pc := 179) rfl hX dL_law_179 ?_
  refine A_iconst (pc := 180) (v := (nI 1)) (by decide) hX dL_law_180 ?_
  refine A_iadd (pc := 181) hX dL_law_181 ?_
  refine A_top (y := nI (i + 1)) (nI_add _ _) ?_
  refine A_sld (pc := 182) hX hSX dL_law_182 (vp_in_nI (by omega) (by omega)) ?_
  refine A_V1i (pc := 183) hX mk_X12_fault lv_L_26 dL_law_183 o2 (ct_faultM l G hM1) rfl (Nat.le_of_ble_eq_true rfl) (Nat.le_of_ble_eq_true rfl) (Nat.le_of_ble_eq_true rfl) (by show _ ≤ 600000; omega) (by show _ ≤ 7302249; omega) (fun x183 σ183 h183 => ?_)
  obtain ⟨rfl, M2, F2⟩ := h183
  refine A_icmp_eq (pc := 186) 706 hX dL_law_186 rfl (fun c186 => ?_) (fun c186 => ?_)
  · exact A_wid (by omega) (by omega) (k _ ⟨tp, sr, len, cd, nb, B, nt, dy, V, hI, kn, kd, KV, tw, hn, (hX0.fr F2 (by omega) (by omega)), M2, hPk, by omega, by omega, htp, by rw [F2.1]; exact htz⟩)
  · exact absurd rfl c186
set_option maxRecDepth 100000 in
set_option maxHeartbeats 1000000 in
theorem lw_3_town {l : Launch} {G : aG} {X : aX} {nm : String} {b L x n i : Nat} {xs : Nat → Int32} {σ : aS} (hX : AOk l G X code R_law nm 4 room_1) (hSX : SX G X b L xs) (hL : L ≤ 320) (hi : i + 5 ≤ L) (hn64 : n < 64) (hJ : Jn G x n σ) (k : ∀ σ' : aS, Jn G x (n + 1) σ' → AA G X (63 + 6 * (n + 1)) (12600 + 18 * (n + 1)) 706 [some (.ref b), some (.ref x), some (.ref (x + 40)), some (.int (nI i))] [] σ') : AA G X (63 + 6 * n) (12600 + 18 * n) 191 [some (.ref b), some (.ref x), some (.ref (x + 40)), some (.int (nI i))] [] σ := by
  obtain ⟨tp, sr, len, cd, nb, B, nt, dy, V, hI, kn, kd, KV, tw, hn, hX0, hM, hPk, hsr, htw, htp, htz⟩ := hJ
  obtain ⟨hV, hu, hz0, hK2, hh⟩ := id hPk
  obtain ⟨hnb, hok, hnt, fs2, o2⟩ := hM.n4
  refine A_aload_n (pc := 191) rfl hX dL_law_191 ?_
  refine A_V0 (pc := 192) hX mk_X11_town lv_L_27 dL_law_192 hX0.1 (ct_town l G hX0 htz) rfl (Nat.le_of_ble_eq_true rfl) (Nat.le_of_ble_eq_true rfl) (Nat.le_of_ble_eq_true rfl) (by show _ ≤ 600000; omega) (by show _ ≤ 7302249; omega) (fun x192 σ192 h192 => ?_)
  obtain ⟨z, rfl, rfl, X1, hz1, hz2, F1⟩ := h192
  have hM1 := hM.kx (σ' := σ192) (fun a h1 h2 => F1 a (by omega) (by omega))
  obtain ⟨_, _, _, fs3, o3⟩ := hM1.n4
  refine A_aload_n (pc := 195) rfl hX dL_law_195 ?_
  refine A_V0i (pc := 196) hX mk_X12_town lv_L_30 dL_law_196 o3 (ct_townM l G hM1) rfl (Nat.le_of_ble_eq_true rfl) (Nat.le_of_ble_eq_true rfl) (Nat.le_of_ble_eq_true rfl) (by show _ ≤ 600000; omega) (by show _ ≤ 7302249; omega) (fun x196 σ196 h196 => ?_)
  obtain ⟨rfl, M2, F2⟩ := h196
  refine A_icmp_eq (pc := 199) 706 hX dL_law_199 rfl (fun c199 => ?_) (fun c199 => ?_)
  · exact A_wid (by omega) (by omega) (k _ ⟨tp, sr, (stTown len cd nb B nt dy hI tw).2.1, cd, (stTown len cd nb B nt dy hI tw).2.2.1, (stTown len cd nb B nt dy hI tw).2.2.2.1, (stTown len cd nb B nt dy hI tw).2.2.2.2.1, (stTown len cd nb B nt dy hI tw).2.2.2.2.2.1, V, (stTown len cd nb B nt dy hI tw).2.2.2.2.2.2.1, kn, kd, KV, (stTown len cd nb B nt dy hI tw).2.2.2.2.2.2.2, hn, (X1.fr F2 (by omega) (by omega)), M2, hPk.town, by omega, by have := tw_le (len := len) (nb := nb) (nt := nt) (tw := tw) (cd := cd) (B := B) (dy := dy) (hI := hI); omega, htp, by rw [F2.1]; omega⟩)
  · exact absurd rfl c199
set_option maxRecDepth 100000 in
set_option maxHeartbeats 1000000 in
theorem lw_4_about {l : Launch} {G : aG} {X : aX} {nm : String} {b L x n i : Nat} {xs : Nat → Int32} {σ : aS} (hX : AOk l G X code R_law nm 4 room_1) (hSX : SX G X b L xs) (hL : L ≤ 320) (hi : i + 5 ≤ L) (hn64 : n < 64) (hJ : Jn G x n σ) (k : ∀ σ' : aS, Jn G x (n + 1) σ' → AA G X (63 + 6 * (n + 1)) (12600 + 18 * (n + 1)) 706 [some (.ref b), some (.ref x), some (.ref (x + 40)), some (.int (nI i))] [] σ') : AA G X (63 + 6 * n) (12600 + 18 * n) 204 [some (.ref b), some (.ref x), some (.ref (x + 40)), some (.int (nI i))] [] σ := by
  obtain ⟨tp, sr, len, cd, nb, B, nt, dy, V, hI, kn, kd, KV, tw, hn, hX0, hM, hPk, hsr, htw, htp, htz⟩ := hJ
  obtain ⟨hV, hu, hz0, hK2, hh⟩ := id hPk
  obtain ⟨hnb, hok, hnt, fs2, o2⟩ := hM.n4
  obtain ⟨fa, nm1, wh, hk, sn, hd, kt, mo, ma, mt, _⟩ := id hM
  refine A_aload_n (pc := 204) rfl hX dL_law_204 ?_
  refine A_aload_n (pc := 205) rfl hX dL_law_205 ?_
  refine A_iload_n (pc := 206) rfl hX dL_law_206 ?_
  refine A_iconst (pc := 207) (v := (nI 1)) (by decide) hX dL_law_207 ?_
  refine A_iadd (pc := 208) hX dL_law_208 ?_
  refine A_top (y := nI (i + 1)) (nI_add _ _) ?_
  refine A_sld (pc := 209) hX hSX dL_law_209 (vp_in_nI (by omega) (by omega)) ?_
  refine A_aload_n (pc := 210) rfl hX dL_law_210 ?_
  refine A_iload_n (pc := 211) rfl hX dL_law_211 ?_
  refine A_iconst (pc := 212) (v := (nI 2)) (by decide) hX dL_law_212 ?_
  refine A_iadd (pc := 213) hX dL_law_213 ?_
  refine A_top (y := nI (i + 2)) (nI_add _ _) ?_
  refine A_sld (pc := 214) hX hSX dL_law_214 (vp_in_nI (by omega) (by omega)) ?_
  refine A_V2d (pc := 215) hX mk_X11_about lv_L_31 dL_law_215 hX0.1 (ct_about l G hX0) rfl (Nat.le_of_ble_eq_true rfl) (Nat.le_of_ble_eq_true rfl) (Nat.le_of_ble_eq_true rfl) (by show _ ≤ 600000; omega) (by show _ ≤ 7302249; omega) ?_
  refine A_aload_n (pc := 218) rfl hX dL_law_218 ?_
  refine A_aload_n (pc := 219) rfl hX dL_law_219 ?_
  refine A_iload_n (pc := 220) rfl hX dL_law_220 ?_
  refine A_iconst (pc := 221) (v := (nI 1)) (by decide) hX dL_law_221 ?_
  refine A_iadd (pc := 222) hX dL_law_222 ?_
  refine A_top (y := nI (i + 1)) (nI_add _ _) ?_
  refine A_sld (pc := 223) hX hSX dL_law_223 (vp_in_nI (by omega) (by omega)) ?_
  refine A_aload_n (pc := 224) rfl hX dL_law_224 ?_
  refine A_iload_n (pc := 225) rfl hX dL_law_225 ?_
  refine A_iconst (pc := 226) (v := (nI 2)) (by decide) hX dL_law_226 ?_
  refine A_iadd (pc := 227) hX dL_law_227 ?_
  refine A_top (y := nI (i + 2)) (nI_add _ _) ?_
  refine A_sld (pc := 228) hX hSX dL_law_228 (vp_in_nI (by omega) (by omega)) ?_
  refine A_V2d (pc := 229) hX mk_X12_about lv_L_35 dL_law_229 o2 (ct_aboutM l G mo ma mt hu) rfl (Nat.le_of_ble_eq_true rfl) (Nat.le_of_ble_eq_true rfl) (Nat.le_of_ble_eq_true rfl) (by show _ ≤ 600000; omega) (by show _ ≤ 7302249; omega) ?_
  refine A_icmp_eq (pc := 232) 706 hX dL_law_232 rfl (fun c232 => ?_) (fun c232 => ?_)
  · exact A_wid (by omega) (by omega) (k _ ⟨tp, sr, len, cd, nb, B, nt, dy, V, hI, kn, kd, KV, tw, hn, hX0, hM, hPk, by omega, by omega, htp, htz⟩)
  · exact absurd rfl c232
set_option maxRecDepth 100000 in
set_option maxHeartbeats 1000000 in
theorem lw_5_as {l : Launch} {G : aG} {X : aX} {nm : String} {b L x n i : Nat} {xs : Nat → Int32} {σ : aS} (hX : AOk l G X code R_law nm 4 room_1) (hSX : SX G X b L xs) (hL : L ≤ 320) (hi : i + 5 ≤ L) (hn64 : n < 64) (hJ : Jn G x n σ) (k : ∀ σ' : aS, Jn G x (n + 1) σ' → AA G X (63 + 6 * (n + 1)) (12600 + 18 * (n + 1)) 706 [some (.ref b), some (.ref x), some (.ref (x + 40)), some (.int (nI i))] [] σ') : AA G X (63 + 6 * n) (12600 + 18 * n) 237 [some (.ref b), some (.ref x), some (.ref (x + 40)), some (.int (nI i))] [] σ := by
  obtain ⟨tp, sr, len, cd, nb, B, nt, dy, V, hI, kn, kd, KV, tw, hn, hX0, hM, hPk, hsr, htw, htp, htz⟩ := hJ
  obtain ⟨hV, hu, hz0, hK2, hh⟩ := id hPk
  obtain ⟨hnb, hok, hnt, fs2, o2⟩ := hM.n4
  obtain ⟨fa, nm1, wh, hk, sn, hd, kt, mo, ma, mt, _⟩ := id hM
  refine A_aload_n (pc := 237) rfl hX dL_law_237 ?_
  refine A_aload_n (pc := 238) rfl hX dL_law_238 ?_
  refine A_iload_n (pc := 239) rfl hX dL_law_239 ?_
  refine A_iconst (pc := 240) (v := (nI 1)) (by decide) hX dL_law_240 ?_
  refine A_iadd (pc := 241) hX dL_law_241 ?_
  refine A_top (y := nI (i + 1)) (nI_add _ _) ?_
  refine A_sld (pc := 242) hX hSX dL_law_242 (vp_in_nI (by omega) (by omega)) ?_
  refine A_aload_n (pc := 243) rfl hX dL_law_243 ?_
  refine A_iload_n (pc := 244) rfl hX dL_law_244 ?_
  refine A_iconst (pc := 245) (v := (nI 2)) (by decide) hX dL_law_245 ?_
  refine A_iadd (pc := 246) hX dL_law_246 ?_
  refine A_top (y := nI (i + 2)) (nI_add _ _) ?_
  refine A_sld (pc := 247) hX hSX dL_law_247 (vp_in_nI (by omega) (by omega)) ?_
  refine A_V2d (pc := 248) hX mk_X11_as lv_L_36 dL_law_248 hX0.1 (ct_as l G hX0) rfl (Nat.le_of_ble_eq_true rfl) (Nat.le_of_ble_eq_true rfl) (Nat.le_of_ble_eq_true rfl) (by show _ ≤ 600000; omega) (by show _ ≤ 7302249; omega) ?_
  refine A_aload_n (pc := 251) rfl hX dL_law_251 ?_
  refine A_aload_n (pc := 252) rfl hX dL_law_252 ?_
  refine A_iload_n (pc := 253) rfl hX dL_law_253 ?_
  refine A_iconst (pc := 254) (v := (nI 1)) (by decide) hX dL_law_254 ?_
  refine A_iadd (pc := 255) hX dL_law_255 ?_
  refine A_top (y := nI (i + 1)) (nI_add _ _) ?_
  refine A_sld (pc := 256) hX hSX dL_law_256 (vp_in_nI (by omega) (by omega)) ?_
  refine A_aload_n (pc := 257) rfl hX dL_law_257 ?_
  refine A_iload_n (pc := 258) rfl hX dL_law_258 ?_
  refine A_iconst (pc := 259) (v := (nI 2)) (by decide) hX dL_law_259 ?_
  refine A_iadd (pc := 260) hX dL_law_260 ?_
  refine A_top (y := nI (i + 2)) (nI_add _ _) ?_
  refine A_sld (pc := 261) hX hSX dL_law_261 (vp_in_nI (by omega) (by omega)) ?_
  refine A_V2d (pc := 262) hX mk_X12_as lv_L_39 dL_law_262 o2 (ct_asM l G mo ma) rfl (Nat.le_of_ble_eq_true rfl) (Nat.le_of_ble_eq_true rfl) (Nat.le_of_ble_eq_true rfl) (by show _ ≤ 600000; omega) (by show _ ≤ 7302249; omega) ?_
  refine A_icmp_eq (pc := 265) 706 hX dL_law_265 rfl (fun c265 => ?_) (fun c265 => ?_)
  · exact A_wid (by omega) (by omega) (k _ ⟨tp, sr, len, cd, nb, B, nt, dy, V, hI, kn, kd, KV, tw, hn, hX0, hM, hPk, by omega, by omega, htp, htz⟩)
  · exact absurd rfl c265
set_option maxRecDepth 100000 in
set_option maxHeartbeats 1000000 in
theorem lw_6_thing {l : Launch} {G : aG} {X : aX} {nm : String} {b L x n i : Nat} {xs : Nat → Int32} {σ : aS} (hX : AOk l G X code R_law nm 4 room_1) (hSX : SX G X b L xs) (hL : L ≤ 320) (hi : i + 5 ≤ L) (hn64 : n < 64) (hJ : Jn G x n σ) (k : ∀ σ' : aS, Jn G x (n + 1) σ' → AA G X (63 + 6 * (n + 1)) (12600 + 18 * (n + 1)) 706 [some (.ref b), some (.ref x), some (.ref (x + 40)), some (.int (nI i))] [] σ') : AA G X (63 + 6 * n) (12600 + 18 * n) 270 [some (.ref b), some (.ref x), some (.ref (x + 40)), some (.int (nI i))] [] σ := by
  obtain ⟨tp, sr, len, cd, nb, B, nt, dy, V, hI, kn, kd, KV, tw, hn, hX0, hM, hPk, hsr, htw, htp, htz⟩ := hJ
  obtain ⟨hV, hu, hz0, hK2, hh⟩ := id hPk
  obtain ⟨hnb, hok, hnt, fs2, o2⟩ := hM.n4
  refine A_aload_n (pc := 270) rfl hX dL_law_270 ?_
  refine A_aload_n (pc := 271) rfl hX dL_law_271 ?_
  refine A_iload_n (pc := 272) rfl hX dL_law_272 ?_
  refine A_iconst (pc := 273) (v := (nI 1)) (by decide) hX dL_law_273 ?_
  refine A_iadd (pc := 274) hX dL_law_274 ?_
  refine A_top (y := nI (i + 1)) (nI_add _ _) ?_
  refine A_sld (pc := 275) hX hSX dL_law_275 (vp_in_nI (by omega) (by omega)) ?_
  refine A_V1i (pc := 276) hX mk_X11_thing lv_L_40 dL_law_276 hX0.1 (ct_thing l G hX0) rfl (Nat.le_of_ble_eq_true rfl) (Nat.le_of_ble_eq_true rfl) (Nat.le_of_ble_eq_true rfl) (by show _ ≤ 600000; omega) (by show _ ≤ 7302249; omega) (fun x276 σ276 h276 => ?_)
  obtain ⟨rfl, X1, F1⟩ := h276
  have hM1 := hM.fr F1 (by omega)
  obtain ⟨_, _, _, fs3, o3⟩ := hM1.n4
  refine A_aload_n (pc := 279) rfl hX dL_law_279 ?_
  refine A_aload_n (pc := 280) rfl hX dL_law_280 ?_
  refine A_iload_n (pc := 281) rfl hX dL_law_281 ?_
  refine A_iconst (pc := 282) (v := (nI 1)) (by decide) hX dL_law_282 ?_
  refine A_iadd (pc := 283) hX dL_law_283 ?_
  refine A_top (y := nI (i + 1)) (nI_add _ _) ?_
  refine A_sld (pc := 284) hX hSX dL_law_284 (vp_in_nI (by omega) (by omega)) ?_
  refine A_V1i (pc := 285) hX mk_X12_thing lv_L_43 dL_law_285 o3 (ct_thingM l G hM1) rfl (Nat.le_of_ble_eq_true rfl) (Nat.le_of_ble_eq_true rfl) (Nat.le_of_ble_eq_true rfl) (by show _ ≤ 600000; omega) (by show _ ≤ 7302249; omega) (fun x285 σ285 h285 => ?_)
  obtain ⟨rfl, M2, F2⟩ := h285
  refine A_icmp_eq (pc := 288) 706 hX dL_law_288 rfl (fun c288 => ?_) (fun c288 => ?_)
  · exact A_wid (by omega) (by omega) (k _ ⟨tp, sr, len, cd, nb, B, (stThing nb nt V (xs (nI (i + 1)).toNatClampNeg)).2.1, dy, (stThing nb nt V (xs (nI (i + 1)).toNatClampNeg)).2.2, hI, kn, kd, KV, tw, hn, (X1.fr F2 (by omega) (by omega)), M2, (hPk.thing _), by omega, by omega, htp, by rw [F2.1, F1.1]; exact htz⟩)
  · exact absurd rfl c288
set_option maxRecDepth 100000 in
set_option maxHeartbeats 1000000 in
theorem lw_7_thingOf {l : Launch} {G : aG} {X : aX} {nm : String} {b L x n i : Nat} {xs : Nat → Int32} {σ : aS} (hX : AOk l G X code R_law nm 4 room_1) (hSX : SX G X b L xs) (hL : L ≤ 320) (hi : i + 5 ≤ L) (hn64 : n < 64) (hJ : Jn G x n σ) (k : ∀ σ' : aS, Jn G x (n + 1) σ' → AA G X (63 + 6 * (n + 1)) (12600 + 18 * (n + 1)) 706 [some (.ref b), some (.ref x), some (.ref (x + 40)), some (.int (nI i))] [] σ') : AA G X (63 + 6 * n) (12600 + 18 * n) 293 [some (.ref b), some (.ref x), some (.ref (x + 40)), some (.int (nI i))] [] σ := by
  obtain ⟨tp, sr, len, cd, nb, B, nt, dy, V, hI, kn, kd, KV, tw, hn, hX0, hM, hPk, hsr, htw, htp, htz⟩ := hJ
  obtain ⟨hV, hu, hz0, hK2, hh⟩ := id hPk
  obtain ⟨hnb, hok, hnt, fs2, o2⟩ := hM.n4
  obtain ⟨fa, nm1, wh, hk, sn, hd, kt, mo, ma, mt, _⟩ := id hM
  refine A_aload_n (pc := 293) rfl hX dL_law_293 ?_
  refine A_aload_n (pc := 294) rfl hX dL_law_294 ?_
  refine A_iload_n (pc := 295) rfl hX dL_law_295 ?_
  refine A_iconst (pc := 296) (v := (nI 1)) (by decide) hX dL_law_296 ?_
  refine A_iadd (pc := 297) hX dL_law_297 ?_
  refine A_top (y := nI (i + 1)) (nI_add _ _) ?_
  refine A_sld (pc := 298) hX hSX dL_law_298 (vp_in_nI (by omega) (by omega)) ?_
  refine A_aload_n (pc := 299) rfl hX dL_law_299 ?_
  refine A_iload_n (pc := 300) rfl hX dL_law_300 ?_
  refine A_iconst (pc := 301) (v := (nI 2)) (by decide) hX dL_law_301 ?_
  refine A_iadd (pc := 302) hX dL_law_302 ?_
  refine A_top (y := nI (i + 2)) (nI_add _ _) ?_
  refine A_sld (pc := 303) hX hSX dL_law_303 (vp_in_nI (by omega) (by omega)) ?_
  refine A_V2d (pc := 304) hX mk_X11_thingOf lv_L_44 dL_law_304 hX0.1 (ct_thingOf l G hX0 hV) rfl (Nat.le_of_ble_eq_true rfl) (Nat.le_of_ble_eq_true rfl) (Nat.le_of_ble_eq_true rfl) (by show _ ≤ 600000; omega) (by show _ ≤ 7302249; omega) ?_
  refine A_aload_n (pc := 307) rfl hX dL_law_307 ?_
  refine A_aload_n (pc := 308) rfl hX dL_law_308 ?_
  refine A_iload_n (pc := 309) rfl hX dL_law_309 ?_
  refine A_iconst (pc := 310) (v := (nI 1)) (by decide) hX dL_law_310 ?_
  refine A_iadd (pc := 311) hX dL_law_311 ?_
  refine A_top (y := nI (i + 1)) (nI_add _ _) ?_
  refine A_sld (pc := 312) hX hSX dL_law_312 (vp_in_nI (by omega) (by omega)) ?_
  refine A_aload_n (pc := 313) rfl hX dL_law_313 ?_
  refine A_iload_n (pc := 314) rfl hX dL_law_314 ?_
  refine A_iconst (pc := 315) (v := (nI 2)) (by decide) hX dL_law_315 ?_
  refine A_iadd (pc := 316) hX dL_law_316 ?_
  refine A_top (y := nI (i + 2)) (nI_add _ _) ?_
  refine A_sld (pc := 317) hX hSX dL_law_317 (vp_in_nI (by omega) (by omega)) ?_
  refine A_V2d (pc := 318) hX mk_X12_thingOf lv_L_47 dL_law_318 o2 (ct_thingOfM l G mo ma mt hV) rfl (Nat.le_of_ble_eq_true rfl) (Nat.le_of_ble_eq_true rfl) (Nat.le_of_ble_eq_true rfl) (by show _ ≤ 600000; omega) (by show _ ≤ 7302249; omega) ?_
  refine A_icmp_eq (pc := 321) 706 hX dL_law_321 rfl (fun c321 => ?_) (fun c321 => ?_)
  · exact A_wid (by omega) (by omega) (k _ ⟨tp, sr, len, cd, nb, B, nt, dy, V, hI, kn, kd, KV, tw, hn, hX0, hM, hPk, by omega, by omega, htp, htz⟩)
  · exact absurd rfl c321
set_option maxRecDepth 100000 in
set_option maxHeartbeats 1000000 in
theorem lw_8_lend {l : Launch} {G : aG} {X : aX} {nm : String} {b L x n i : Nat} {xs : Nat → Int32} {σ : aS} (hX : AOk l G X code R_law nm 4 room_1) (hSX : SX G X b L xs) (hL : L ≤ 320) (hi : i + 5 ≤ L) (hn64 : n < 64) (hJ : Jn G x n σ) (k : ∀ σ' : aS, Jn G x (n + 1) σ' → AA G X (63 + 6 * (n + 1)) (12600 + 18 * (n + 1)) 706 [some (.ref b), some (.ref x), some (.ref (x + 40)), some (.int (nI i))] [] σ') : AA G X (63 + 6 * n) (12600 + 18 * n) 326 [some (.ref b), some (.ref x), some (.ref (x + 40)), some (.int (nI i))] [] σ := by
  obtain ⟨tp, sr, len, cd, nb, B, nt, dy, V, hI, kn, kd, KV, tw, hn, hX0, hM, hPk, hsr, htw, htp, htz⟩ := hJ
  obtain ⟨hV, hu, hz0, hK2, hh⟩ := id hPk
  obtain ⟨hnb, hok, hnt, fs2, o2⟩ := hM.n4
  refine A_aload_n (pc := 326) rfl hX dL_law_326 ?_
  refine A_aload_n (pc := 327) rfl hX dL_law_327 ?_
  refine A_iload_n (pc := 328) rfl hX dL_law_328 ?_
  refine A_iconst (pc := 329) (v := (nI 1)) (by decide) hX dL_law_329 ?_
  refine A_iadd (pc := 330) hX dL_law_330 ?_
  refine A_top (y := nI (i + 1)) (nI_add _ _) ?_
  refine A_sld (pc := 331) hX hSX dL_law_331 (vp_in_nI (by omega) (by omega)) ?_
  refine A_aload_n (pc := 332) rfl hX dL_law_332 ?_
  refine A_iload_n (pc := 333) rfl hX dL_law_333 ?_
  refine A_iconst (pc := 334) (v := (nI 2)) (by decide) hX dL_law_334 ?_
  refine A_iadd (pc := 335) hX dL_law_335 ?_
  refine A_top (y := nI (i + 2)) (nI_add _ _) ?_
  refine A_sld (pc := 336) hX hSX dL_law_336 (vp_in_nI (by omega) (by omega)) ?_
  refine A_V2i (pc := 337) hX mk_X11_lend lv_L_48 dL_law_337 hX0.1 (ct_lend l G hX0) rfl (Nat.le_of_ble_eq_true rfl) (Nat.le_of_ble_eq_true rfl) (Nat.le_of_ble_eq_true rfl) (by show _ ≤ 600000; omega) (by show _ ≤ 7302249; omega) (fun x337 σ337 h337 => ?_)
  obtain ⟨rfl, X1, F1⟩ := h337
  have hM1 := hM.fr F1 (by omega)
  obtain ⟨_, _, _, fs3, o3⟩ := hM1.n4
  refine A_aload_n (pc := 340) rfl hX dL_law_340 ?_
  refine A_aload_n (pc := 341) rfl hX dL_law_341 ?_
  refine A_iload_n (pc := 342) rfl hX dL_law_342 ?_
  refine A_iconst (pc := 343) (v := (nI 1)) (by decide) hX dL_law_343 ?_
  refine A_iadd (pc := 344) hX dL_law_344 ?_
  refine A_top (y := nI (i + 1)) (nI_add _ _) ?_
  refine A_sld (pc := 345) hX hSX dL_law_345 (vp_in_nI (by omega) (by omega)) ?_
  refine A_aload_n (pc := 346) rfl hX dL_law_346 ?_
  refine A_iload_n (pc := 347) rfl hX dL_law_347 ?_
  refine A_iconst (pc := 348) (v := (nI 2)) (by decide) hX dL_law_348 ?_
  refine A_iadd (pc := 349) hX dL_law_349 ?_
  refine A_top (y := nI (i + 2)) (nI_add _ _) ?_
  refine A_sld (pc := 350) hX hSX dL_law_350 (vp_in_nI (by omega) (by omega)) ?_
  refine A_V2i (pc := 351) hX mk_X12_lend lv_L_51 dL_law_351 o3 (ct_lendM l G hM1 hu) rfl (Nat.le_of_ble_eq_true rfl) (Nat.le_of_ble_eq_true rfl) (Nat.le_of_ble_eq_true rfl) (by show _ ≤ 600000; omega) (by show _ ≤ 7302249; omega) (fun x351 σ351 h351 => ?_)
  obtain ⟨rfl, M2, F2⟩ := h351
  refine A_icmp_eq (pc := 354) 706 hX dL_law_354 rfl (fun c354 => ?_) (fun c354 => ?_)
  · exact A_wid (by omega) (by omega) (k _ ⟨tp, sr, len, cd, nb, B, nt, dy, (stLend nb B nt V (xs (nI (i + 1)).toNatClampNeg) (xs (nI (i + 2)).toNatClampNeg)).2, hI, kn, kd, KV, tw, hn, (X1.fr F2 (by omega) (by omega)), M2, (hPk.lend hnb hnt _ _), by omega, by omega, htp, by rw [F2.1, F1.1]; exact htz⟩)
  · exact absurd rfl c354
set_option maxRecDepth 100000 in
set_option maxHeartbeats 1000000 in
theorem lw_9_day {l : Launch} {G : aG} {X : aX} {nm : String} {b L x n i : Nat} {xs : Nat → Int32} {σ : aS} (hX : AOk l G X code R_law nm 4 room_1) (hSX : SX G X b L xs) (hL : L ≤ 320) (hi : i + 5 ≤ L) (hn64 : n < 64) (hJ : Jn G x n σ) (k : ∀ σ' : aS, Jn G x (n + 1) σ' → AA G X (63 + 6 * (n + 1)) (12600 + 18 * (n + 1)) 706 [some (.ref b), some (.ref x), some (.ref (x + 40)), some (.int (nI i))] [] σ') : AA G X (63 + 6 * n) (12600 + 18 * n) 359 [some (.ref b), some (.ref x), some (.ref (x + 40)), some (.int (nI i))] [] σ := by
  obtain ⟨tp, sr, len, cd, nb, B, nt, dy, V, hI, kn, kd, KV, tw, hn, hX0, hM, hPk, hsr, htw, htp, htz⟩ := hJ
  obtain ⟨hV, hu, hz0, hK2, hh⟩ := id hPk
  obtain ⟨hnb, hok, hnt, fs2, o2⟩ := hM.n4
  refine A_aload_n (pc := 359) rfl hX dL_law_359 ?_
  refine A_V0i (pc := 360) hX mk_X11_day lv_L_52 dL_law_360 hX0.1 (ct_day l G hX0 hV) rfl (Nat.le_of_ble_eq_true rfl) (Nat.le_of_ble_eq_true rfl) (Nat.le_of_ble_eq_true rfl) (by show _ ≤ 600000; omega) (by show _ ≤ 7302249; omega) (fun x360 σ360 h360 => ?_)
  obtain ⟨rfl, X1, F1⟩ := h360
  have hM1 := hM.fr F1 (by omega)
  obtain ⟨_, _, _, fs3, o3⟩ := hM1.n4
  refine A_aload_n (pc := 363) rfl hX dL_law_363 ?_
  refine A_V0i (pc := 364) hX mk_X12_day lv_L_55 dL_law_364 o3 (ct_dayM l G hM1 hV) rfl (Nat.le_of_ble_eq_true rfl) (Nat.le_of_ble_eq_true rfl) (Nat.le_of_ble_eq_true rfl) (by show _ ≤ 600000; omega) (by show _ ≤ 7302249; omega) (fun x364 σ364 h364 => ?_)
  obtain ⟨rfl, M2, F2⟩ := h364
  refine A_icmp_eq (pc := 367) 706 hX dL_law_367 rfl (fun c367 => ?_) (fun c367 => ?_)
  · exact A_wid (by omega) (by omega) (k _ ⟨tp, sr, len, cd, nb, B, nt, (stDay nb B nt dy V).2.1, (stDay nb B nt dy V).2.2, hI, kn, kd, KV, tw, hn, (X1.fr F2 (by omega) (by omega)), M2, (hPk.day hok hnb), by omega, by omega, htp, by rw [F2.1, F1.1]; exact htz⟩)
  · exact absurd rfl c367
set_option maxRecDepth 100000 in
set_option maxHeartbeats 1000000 in
theorem lw_10_by {l : Launch} {G : aG} {X : aX} {nm : String} {b L x n i : Nat} {xs : Nat → Int32} {σ : aS} (hX : AOk l G X code R_law nm 4 room_1) (hSX : SX G X b L xs) (hL : L ≤ 320) (hi : i + 5 ≤ L) (hn64 : n < 64) (hJ : Jn G x n σ) (k : ∀ σ' : aS, Jn G x (n + 1) σ' → AA G X (63 + 6 * (n + 1)) (12600 + 18 * (n + 1)) 706 [some (.ref b), some (.ref x), some (.ref (x + 40)), some (.int (nI i))] [] σ') : AA G X (63 + 6 * n) (12600 + 18 * n) 372 [some (.ref b), some (.ref x), some (.ref (x + 40)), some (.int (nI i))] [] σ := by
  obtain ⟨tp, sr, len, cd, nb, B, nt, dy, V, hI, kn, kd, KV, tw, hn, hX0, hM, hPk, hsr, htw, htp, htz⟩ := hJ
  obtain ⟨hV, hu, hz0, hK2, hh⟩ := id hPk
  obtain ⟨hnb, hok, hnt, fs2, o2⟩ := hM.n4
  obtain ⟨fa, nm1, wh, hk, sn, hd, kt, mo, ma, mt, _⟩ := id hM
  refine A_aload_n (pc := 372) rfl hX dL_law_372 ?_
  refine A_aload_n (pc := 373) rfl hX dL_law_373 ?_
  refine A_iload_n (pc := 374) rfl hX dL_law_374 ?_
  refine A_iconst (pc := 375) (v := (nI 1)) (by decide) hX dL_law_375 ?_
  refine A_iadd (pc := 376) hX dL_law_376 ?_
  refine A_top (y := nI (i + 1)) (nI_add _ _) ?_
  refine A_sld (pc := 377) hX hSX dL_law_377 (vp_in_nI (by omega) (by omega)) ?_
  refine A_aload_n (pc := 378) rfl hX dL_law_378 ?_
  refine A_iload_n (pc := 379) rfl hX dL_law_379 ?_
  refine A_iconst (pc := 380) (v := (nI 2)) (by decide) hX dL_law_380 ?_
  refine A_iadd (pc := 381) hX dL_law_381 ?_
  refine A_top (y := nI (i + 2)) (nI_add _ _) ?_
  refine A_sld (pc := 382) hX hSX dL_law_382 (vp_in_nI (by omega) (by omega)) ?_
  refine A_V2d (pc := 383) hX mk_X11_by lv_L_56 dL_law_383 hX0.1 (ct_by l G hX0) rfl (Nat.le_of_ble_eq_true rfl) (Nat.le_of_ble_eq_true rfl) (Nat.le_of_ble_eq_true rfl) (by show _ ≤ 600000; omega) (by show _ ≤ 7302249; omega) ?_
  refine A_aload_n (pc := 386) rfl hX dL_law_386 ?_
  refine A_aload_n (pc := 387) rfl hX dL_law_387 ?_
  refine A_iload_n (pc := 388) rfl hX dL_law_388 ?_
  refine A_iconst (pc := 389) (v := (nI 1)) (by decide) hX dL_law_389 ?_
  refine A_iadd (pc := 390) hX dL_law_390 ?_
  refine A_top (y := nI (i + 1)) (nI_add _ _) ?_
  refine A_sld (pc := 391) hX hSX dL_law_391 (vp_in_nI (by omega) (by omega)) ?_
  refine A_aload_n (pc := 392) rfl hX dL_law_392 ?_
  refine A_iload_n (pc := 393) rfl hX dL_law_393 ?_
  refine A_iconst (pc := 394) (v := (nI 2)) (by decide) hX dL_law_394 ?_
  refine A_iadd (pc := 395) hX dL_law_395 ?_
  refine A_top (y := nI (i + 2)) (nI_add _ _) ?_
  refine A_sld (pc := 396) hX hSX dL_law_396 (vp_in_nI (by omega) (by omega)) ?_
  refine A_V2d (pc := 397) hX mk_X12_by lv_L_59 dL_law_397 o2 (ct_byM l G mo ma) rfl (Nat.le_of_ble_eq_true rfl) (Nat.le_of_ble_eq_true rfl) (Nat.le_of_ble_eq_true rfl) (by show _ ≤ 600000; omega) (by show _ ≤ 7302249; omega) ?_
  refine A_icmp_eq (pc := 400) 706 hX dL_law_400 rfl (fun c400 => ?_) (fun c400 => ?_)
  · exact A_wid (by omega) (by omega) (k _ ⟨tp, sr, len, cd, nb, B, nt, dy, V, hI, kn, kd, KV, tw, hn, hX0, hM, hPk, by omega, by omega, htp, htz⟩)
  · exact absurd rfl c400
set_option maxRecDepth 100000 in
set_option maxHeartbeats 1000000 in
theorem lw_11_wished {l : Launch} {G : aG} {X : aX} {nm : String} {b L x n i : Nat} {xs : Nat → Int32} {σ : aS} (hX : AOk l G X code R_law nm 4 room_1) (hSX : SX G X b L xs) (hL : L ≤ 320) (hi : i + 5 ≤ L) (hn64 : n < 64) (hJ : Jn G x n σ) (k : ∀ σ' : aS, Jn G x (n + 1) σ' → AA G X (63 + 6 * (n + 1)) (12600 + 18 * (n + 1)) 706 [some (.ref b), some (.ref x), some (.ref (x + 40)), some (.int (nI i))] [] σ') : AA G X (63 + 6 * n) (12600 + 18 * n) 405 [some (.ref b), some (.ref x), some (.ref (x + 40)), some (.int (nI i))] [] σ := by
  obtain ⟨tp, sr, len, cd, nb, B, nt, dy, V, hI, kn, kd, KV, tw, hn, hX0, hM, hPk, hsr, htw, htp, htz⟩ := hJ
  obtain ⟨hV, hu, hz0, hK2, hh⟩ := id hPk
  obtain ⟨hnb, hok, hnt, fs2, o2⟩ := hM.n4
  refine A_aload_n (pc := 405) rfl hX dL_law_405 ?_
  refine A_aload_n (pc := 406) rfl hX dL_law_406 ?_
  refine A_iload_n (pc := 407) rfl hX dL_law_407 ?_
  refine A_iconst (pc := 408) (v := (nI 1)) (by decide) hX dL_law_408 ?_
  refine A_iadd (pc := 409) hX dL_law_409 ?_
  refine A_top (y := nI (i + 1)) (nI_add _ _) ?_
  refine A_sld (pc := 410) hX hSX dL_law_410 (vp_in_nI (by omega) (by omega)) ?_
  refine A_aload_n (pc := 411) rfl hX dL_law_411 ?_
  refine A_iload_n (pc := 412) rfl hX dL_law_412 ?_
  refine A_iconst (pc := 413) (v := (nI 2)) (by decide) hX dL_law_413 ?_
  refine A_iadd (pc := 414) hX dL_law_414 ?_
  refine A_top (y := nI (i + 2)) (nI_add _ _) ?_
  refine A_sld (pc := 415) hX hSX dL_law_415 (vp_in_nI (by omega) (by omega)) ?_
  refine A_aload_n (pc := 416) rfl hX dL_law_416 ?_
  refine A_iload_n (pc := 417) rfl hX dL_law_417 ?_
  refine A_iconst (pc := 418) (v := (nI 3)) (by decide) hX dL_law_418 ?_
  refine A_iadd (pc := 419) hX dL_law_419 ?_
  refine A_top (y := nI (i + 3)) (nI_add _ _) ?_
  refine A_sld (pc := 420) hX hSX dL_law_420 (vp_in_nI (by omega) (by omega)) ?_
  refine A_V3i (pc := 421) hX mk_X11_wished lv_L_60 dL_law_421 hX0.1 (ct_wished l G hX0 hV) rfl (Nat.le_of_ble_eq_true rfl) (Nat.le_of_ble_eq_true rfl) (Nat.le_of_ble_eq_true rfl) (by show _ ≤ 600000; omega) (by show _ ≤ 7302249; omega) (fun x421 σ421 h421 => ?_)
  obtain ⟨rfl, X1, F1⟩ := h421
  have hM1 := hM.fr F1 (by omega)
  obtain ⟨_, _, _, fs3, o3⟩ := hM1.n4
  refine A_aload_n (pc := 424) rfl hX dL_law_424 ?_
  refine A_aload_n (pc := 425) rfl hX dL_law_425 ?_
  refine A_iload_n (pc := 426) rfl hX dL_law_426 ?_
  refine A_iconst (pc := 427) (v := (nI 1)) (by decide) hX dL_law_427 ?_
  refine A_iadd (pc := 428) hX dL_law_428 ?_
  refine A_top (y := nI (i + 1)) (nI_add _ _) ?_
  refine A_sld (pc := 429) hX hSX dL_law_429 (vp_in_nI (by omega) (by omega)) ?_
  refine A_aload_n (pc := 430) rfl hX dL_law_430 ?_
  refine A_iload_n (pc := 431) rfl hX dL_law_431 ?_
  refine A_iconst (pc := 432) (v := (nI 2)) (by decide) hX dL_law_432 ?_
  refine A_iadd (pc := 433) hX dL_law_433 ?_
  refine A_top (y := nI (i + 2)) (nI_add _ _) ?_
  refine A_sld (pc := 434) hX hSX dL_law_434 (vp_in_nI (by omega) (by omega)) ?_
  refine A_aload_n (pc := 435) rfl hX dL_law_435 ?_
  refine A_iload_n (pc := 436) rfl hX dL_law_436 ?_
  refine A_iconst (pc := 437) (v := (nI 3)) (by decide) hX dL_law_437 ?_
  refine A_iadd (pc := 438) hX dL_law_438 ?_
  refine A_top (y := nI (i + 3)) (nI_add _ _) ?_
  refine A_sld (pc := 439) hX hSX dL_law_439 (vp_in_nI (by omega) (by omega)) ?_
  refine A_V3i (pc := 440) hX mk_X12_wished lv_L_64 dL_law_440 o3 (ct_wishedM l G hM1 hV) rfl (Nat.le_of_ble_eq_true rfl) (Nat.le_of_ble_eq_true rfl) (Nat.le_of_ble_eq_true rfl) (by show _ ≤ 600000; omega) (by show _ ≤ 7302249; omega) (fun x440 σ440 h440 => ?_)
  obtain ⟨rfl, M2, F2⟩ := h440
  refine A_icmp_eq (pc := 443) 706 hX dL_law_443 rfl (fun c443 => ?_) (fun c443 => ?_)
  · exact A_wid (by omega) (by omega) (k _ ⟨tp, sr, len, cd, nb, B, nt, dy, V, hI, kn, kd, KV, tw, hn, (X1.fr F2 (by omega) (by omega)), M2, hPk, by omega, by omega, htp, by rw [F2.1, F1.1]; exact htz⟩)
  · exact absurd rfl c443
set_option maxRecDepth 100000 in
set_option maxHeartbeats 1000000 in
theorem lw_12_reach {l : Launch} {G : aG} {X : aX} {nm : String} {b L x n i : Nat} {xs : Nat → Int32} {σ : aS} (hX : AOk l G X code R_law nm 4 room_1) (hSX : SX G X b L xs) (hL : L ≤ 320) (hi : i + 5 ≤ L) (hn64 : n < 64) (hJ : Jn G x n σ) (k : ∀ σ' : aS, Jn G x (n + 1) σ' → AA G X (63 + 6 * (n + 1)) (12600 + 18 * (n + 1)) 706 [some (.ref b), some (.ref x), some (.ref (x + 40)), some (.int (nI i))] [] σ') : AA G X (63 + 6 * n) (12600 + 18 * n) 448 [some (.ref b), some (.ref x), some (.ref (x + 40)), some (.int (nI i))] [] σ := by
  obtain ⟨tp, sr, len, cd, nb, B, nt, dy, V, hI, kn, kd, KV, tw, hn, hX0, hM, hPk, hsr, htw, htp, htz⟩ := hJ
  obtain ⟨hV, hu, hz0, hK2, hh⟩ := id hPk
  obtain ⟨hnb, hok, hnt, fs2, o2⟩ := hM.n4
  refine A_aload_n (pc := 448) rfl hX dL_law_448 ?_
  refine A_aload_n (pc := 449) rfl hX dL_law_449 ?_
  refine A_iload_n (pc := 450) rfl hX dL_law_450 ?_
  refine A_iconst (pc := 451) (v := (nI 1)) (by decide) hX dL_law_451 ?_
  refine A_iadd (pc := 452) hX dL_law_452 ?_
  refine A_top (y := nI (i + 1)) (nI_add _ _) ?_
  refine A_sld (pc := 453) hX hSX dL_law_453 (vp_in_nI (by omega) (by omega)) ?_
  refine A_V1i (pc := 454) hX mk_X11_reach lv_L_65 dL_law_454 hX0.1 (ct_reach l G hX0 hV) rfl (Nat.le_of_ble_eq_true rfl) (Nat.le_of_ble_eq_true rfl) (Nat.le_of_ble_eq_true rfl) (by show _ ≤ 600000; omega) (by show _ ≤ 7302249; omega) (fun x454 σ454 h454 => ?_)
  obtain ⟨rfl, X1, F1⟩ := h454
  have hM1 := hM.fr F1 (by omega)
  obtain ⟨_, _, _, fs3, o3⟩ := hM1.n4
  refine A_aload_n (pc := 457) rfl hX dL_law_457 ?_
  refine A_aload_n (pc := 458) rfl hX dL_law_458 ?_
  refine A_iload_n (pc := 459) rfl hX dL_law_459 ?_
  refine A_iconst (pc := 460) (v := (nI 1)) (by decide) hX dL_law_460 ?_
  refine A_iadd (pc := 461) hX dL_law_461 ?_
  refine A_top (y := nI (i + 1)) (nI_add _ _) ?_
  refine A_sld (pc := 462) hX hSX dL_law_462 (vp_in_nI (by omega) (by omega)) ?_
  refine A_V1i (pc := 463) hX mk_X12_reach lv_L_68 dL_law_463 o3 (ct_reachM l G hM1 hV) rfl (Nat.le_of_ble_eq_true rfl) (Nat.le_of_ble_eq_true rfl) (Nat.le_of_ble_eq_true rfl) (by show _ ≤ 600000; omega) (by show _ ≤ 7302249; omega) (fun x463 σ463 h463 => ?_)
  obtain ⟨rfl, M2, F2⟩ := h463
  refine A_icmp_eq (pc := 466) 706 hX dL_law_466 rfl (fun c466 => ?_) (fun c466 => ?_)
  · exact A_wid (by omega) (by omega) (k _ ⟨tp, sr, len, cd, nb, B, nt, dy, V, hI, kn, kd, KV, tw, hn, (X1.fr F2 (by omega) (by omega)), M2, hPk, by omega, by omega, htp, by rw [F2.1, F1.1]; exact htz⟩)
  · exact absurd rfl c466
set_option maxRecDepth 100000 in
set_option maxHeartbeats 1000000 in
theorem lw_13_spoilers {l : Launch} {G : aG} {X : aX} {nm : String} {b L x n i : Nat} {xs : Nat → Int32} {σ : aS} (hX : AOk l G X code R_law nm 4 room_1) (hSX : SX G X b L xs) (hL : L ≤ 320) (hi : i + 5 ≤ L) (hn64 : n < 64) (hJ : Jn G x n σ) (k : ∀ σ' : aS, Jn G x (n + 1) σ' → AA G X (63 + 6 * (n + 1)) (12600 + 18 * (n + 1)) 706 [some (.ref b), some (.ref x), some (.ref (x + 40)), some (.int (nI i))] [] σ') : AA G X (63 + 6 * n) (12600 + 18 * n) 471 [some (.ref b), some (.ref x), some (.ref (x + 40)), some (.int (nI i))] [] σ := by
  obtain ⟨tp, sr, len, cd, nb, B, nt, dy, V, hI, kn, kd, KV, tw, hn, hX0, hM, hPk, hsr, htw, htp, htz⟩ := hJ
  obtain ⟨hV, hu, hz0, hK2, hh⟩ := id hPk
  obtain ⟨hnb, hok, hnt, fs2, o2⟩ := hM.n4
  refine A_aload_n (pc := 471) rfl hX dL_law_471 ?_
  refine A_aload_n (pc := 472) rfl hX dL_law_472 ?_
  refine A_iload_n (pc := 473) rfl hX dL_law_473 ?_
  refine A_iconst (pc := 474) (v := (nI 1)) (by decide) hX dL_law_474 ?_
  refine A_iadd (pc := 475) hX dL_law_475 ?_
  refine A_top (y := nI (i + 1)) (nI_add _ _) ?_
  refine A_sld (pc := 476) hX hSX dL_law_476 (vp_in_nI (by omega) (by omega)) ?_
  refine A_aload_n (pc := 477) rfl hX dL_law_477 ?_
  refine A_iload_n (pc := 478) rfl hX dL_law_478 ?_
  refine A_iconst (pc := 479) (v := (nI 2)) (by decide) hX dL_law_479 ?_
  refine A_iadd (pc := 480) hX dL_law_480 ?_
  refine A_top (y := nI (i + 2)) (nI_add _ _) ?_
  refine A_sld (pc := 481) hX hSX dL_law_481 (vp_in_nI (by omega) (by omega)) ?_
  refine A_aload_n (pc := 482) rfl hX dL_law_482 ?_
  refine A_iload_n (pc := 483) rfl hX dL_law_483 ?_
  refine A_iconst (pc := 484) (v := (nI 3)) (by decide) hX dL_law_484 ?_
  refine A_iadd (pc := 485) hX dL_law_485 ?_
  refine A_top (y := nI (i + 3)) (nI_add _ _) ?_
  refine A_sld (pc := 486) hX hSX dL_law_486 (vp_in_nI (by omega) (by omega)) ?_
  refine A_V3i (pc := 487) hX mk_X11_spoilers lv_L_69 dL_law_487 hX0.1 (ct_spoilers l G hX0 hV (by omega)) rfl (Nat.le_of_ble_eq_true rfl) (Nat.le_of_ble_eq_true rfl) (Nat.le_of_ble_eq_true rfl) (by show _ ≤ 600000; omega) (by show _ ≤ 7302249; omega) (fun x487 σ487 h487 => ?_)
  obtain ⟨rfl, ⟨kk, hkk, X1⟩, F1⟩ := h487
  have hM1 := hM.fr F1 (by omega)
  obtain ⟨_, _, _, fs3, o3⟩ := hM1.n4
  refine A_aload_n (pc := 490) rfl hX dL_law_490 ?_
  refine A_aload_n (pc := 491) rfl hX dL_law_491 ?_
  refine A_iload_n (pc := 492) rfl hX dL_law_492 ?_
  refine A_iconst (pc := 493) (v := (nI 1)) (by decide) hX dL_law_493 ?_
  refine A_iadd (pc := 494) hX dL_law_494 ?_
  refine A_top (y := nI (i + 1)) (nI_add _ _) ?_
  refine A_sld (pc := 495) hX hSX dL_law_495 (vp_in_nI (by omega) (by omega)) ?_
  refine A_aload_n (pc := 496) rfl hX dL_law_496 ?_
  refine A_iload_n (pc := 497) rfl hX dL_law_497 ?_
  refine A_iconst (pc := 498) (v := (nI 2)) (by decide) hX dL_law_498 ?_
  refine A_iadd (pc := 499) hX dL_law_499 ?_
  refine A_top (y := nI (i + 2)) (nI_add _ _) ?_
  refine A_sld (pc := 500) hX hSX dL_law_500 (vp_in_nI (by omega) (by omega)) ?_
  refine A_aload_n (pc := 501) rfl hX dL_law_501 ?_
  refine A_iload_n (pc := 502) rfl hX dL_law_502 ?_
  refine A_iconst (pc := 503) (v := (nI 3)) (by decide) hX dL_law_503 ?_
  refine A_iadd (pc := 504) hX dL_law_504 ?_
  refine A_top (y := nI (i + 3)) (nI_add _ _) ?_
  refine A_sld (pc := 505) hX hSX dL_law_505 (vp_in_nI (by omega) (by omega)) ?_
  refine A_V3i (pc := 506) hX mk_X12_spoilers lv_L_72 dL_law_506 o3 (ct_spoilersM l G hM1 hV) rfl (Nat.le_of_ble_eq_true rfl) (Nat.le_of_ble_eq_true rfl) (Nat.le_of_ble_eq_true rfl) (by show _ ≤ 600000; omega) (by show _ ≤ 7302249; omega) (fun x506 σ506 h506 => ?_)
  obtain ⟨rfl, M2, F2⟩ := h506
  refine A_icmp_eq (pc := 509) 706 hX dL_law_509 rfl (fun c509 => ?_) (fun c509 => ?_)
  · exact A_wid (by omega) (by omega) (k _ ⟨tp, kk, len, cd, nb, B, nt, dy, V, hI, kn, kd, KV, tw, hn, (X1.fr F2 (by omega) (by omega)), M2, hPk, by omega, by omega, htp, by rw [F2.1, F1.1]; exact htz⟩)
  · exact absurd rfl c509
set_option maxRecDepth 100000 in
set_option maxHeartbeats 1000000 in
theorem lw_14_round {l : Launch} {G : aG} {X : aX} {nm : String} {b L x n i : Nat} {xs : Nat → Int32} {σ : aS} (hX : AOk l G X code R_law nm 4 room_1) (hSX : SX G X b L xs) (hL : L ≤ 320) (hi : i + 5 ≤ L) (hn64 : n < 64) (hJ : Jn G x n σ) (k : ∀ σ' : aS, Jn G x (n + 1) σ' → AA G X (63 + 6 * (n + 1)) (12600 + 18 * (n + 1)) 706 [some (.ref b), some (.ref x), some (.ref (x + 40)), some (.int (nI i))] [] σ') : AA G X (63 + 6 * n) (12600 + 18 * n) 514 [some (.ref b), some (.ref x), some (.ref (x + 40)), some (.int (nI i))] [] σ := by
  obtain ⟨tp, sr, len, cd, nb, B, nt, dy, V, hI, kn, kd, KV, tw, hn, hX0, hM, hPk, hsr, htw, htp, htz⟩ := hJ
  obtain ⟨hV, hu, hz0, hK2, hh⟩ := id hPk
  obtain ⟨hnb, hok, hnt, fs2, o2⟩ := hM.n4
  refine A_aload_n (pc := 514) rfl hX dL_law_514 ?_
  refine A_aload_n (pc := 515) rfl hX dL_law_515 ?_
  refine A_iload_n (pc := 516) rfl hX dL_law_516 ?_
  refine A_iconst (pc := 517) (v := (nI 1)) (by decide) hX dL_law_517 ?_
  refine A_iadd (pc := 518) hX dL_law_518 ?_
  refine A_top (y := nI (i + 1)) (nI_add _ _) ?_
  refine A_sld (pc := 519) hX hSX dL_law_519 (vp_in_nI (by omega) (by omega)) ?_
  refine A_aload_n (pc := 520) rfl hX dL_law_520 ?_
  refine A_iload_n (pc := 521) rfl hX dL_law_521 ?_
  refine A_iconst (pc := 522) (v := (nI 2)) (by decide) hX dL_law_522 ?_
  refine A_iadd (pc := 523) hX dL_law_523 ?_
  refine A_top (y := nI (i + 2)) (nI_add _ _) ?_
  refine A_sld (pc := 524) hX hSX dL_law_524 (vp_in_nI (by omega) (by omega)) ?_
  refine A_V2i (pc := 525) hX mk_X11_round lv_L_73 dL_law_525 hX0.1 (ct_round l G hX0) rfl (Nat.le_of_ble_eq_true rfl) (Nat.le_of_ble_eq_true rfl) (Nat.le_of_ble_eq_true rfl) (by show _ ≤ 600000; omega) (by show _ ≤ 7302249; omega) (fun x525 σ525 h525 => ?_)
  obtain ⟨rfl, X1, F1⟩ := h525
  have hM1 := hM.fr F1 (by omega)
  obtain ⟨_, _, _, fs3, o3⟩ := hM1.n4
  refine A_aload_n (pc := 528) rfl hX dL_law_528 ?_
  refine A_aload_n (pc := 529) rfl hX dL_law_529 ?_
  refine A_iload_n (pc := 530) rfl hX dL_law_530 ?_
  refine A_iconst (pc := 531) (v := (nI 1)) (by decide) hX dL_law_531 ?_
  refine A_iadd (pc := 532) hX dL_law_532 ?_
  refine A_top (y := nI (i + 1)) (nI_add _ _) ?_
  refine A_sld (pc := 533) hX hSX dL_law_533 (vp_in_nI (by omega) (by omega)) ?_
  refine A_aload_n (pc := 534) rfl hX dL_law_534 ?_
  refine A_iload_n (pc := 535) rfl hX dL_law_535 ?_
  refine A_iconst (pc := 536) (v := (nI 2)) (by decide) hX dL_law_536 ?_
  refine A_iadd (pc := 537) hX dL_law_537 ?_
  refine A_top (y := nI (i + 2)) (nI_add _ _) ?_
  refine A_sld (pc := 538) hX hSX dL_law_538 (vp_in_nI (by omega) (by omega)) ?_
  refine A_V2i (pc := 539) hX mk_X12_round lv_L_76 dL_law_539 o3 (ct_roundM l G hM1) rfl (Nat.le_of_ble_eq_true rfl) (Nat.le_of_ble_eq_true rfl) (Nat.le_of_ble_eq_true rfl) (by show _ ≤ 600000; omega) (by show _ ≤ 7302249; omega) (fun x539 σ539 h539 => ?_)
  obtain ⟨rfl, M2, F2⟩ := h539
  refine A_icmp_eq (pc := 542) 706 hX dL_law_542 rfl (fun c542 => ?_) (fun c542 => ?_)
  · exact A_wid (by omega) (by omega) (k _ ⟨tp, sr, len, cd, nb, B, nt, dy, V, hI, kn, kd, KV, tw, hn, (X1.fr F2 (by omega) (by omega)), M2, hPk, by omega, by omega, htp, by rw [F2.1, F1.1]; exact htz⟩)
  · exact absurd rfl c542
set_option maxRecDepth 100000 in
set_option maxHeartbeats 1000000 in
theorem lw_15_hands {l : Launch} {G : aG} {X : aX} {nm : String} {b L x n i : Nat} {xs : Nat → Int32} {σ : aS} (hX : AOk l G X code R_law nm 4 room_1) (hSX : SX G X b L xs) (hL : L ≤ 320) (hi : i + 5 ≤ L) (hn64 : n < 64) (hJ : Jn G x n σ) (k : ∀ σ' : aS, Jn G x (n + 1) σ' → AA G X (63 + 6 * (n + 1)) (12600 + 18 * (n + 1)) 706 [some (.ref b), some (.ref x), some (.ref (x + 40)), some (.int (nI i))] [] σ') : AA G X (63 + 6 * n) (12600 + 18 * n) 547 [some (.ref b), some (.ref x), some (.ref (x + 40)), some (.int (nI i))] [] σ := by
  obtain ⟨tp, sr, len, cd, nb, B, nt, dy, V, hI, kn, kd, KV, tw, hn, hX0, hM, hPk, hsr, htw, htp, htz⟩ := hJ
  obtain ⟨hV, hu, hz0, hK2, hh⟩ := id hPk
  obtain ⟨hnb, hok, hnt, fs2, o2⟩ := hM.n4
  refine A_aload_n (pc := 547) rfl hX dL_law_547 ?_
  refine A_aload_n (pc := 548) rfl hX dL_law_548 ?_
  refine A_iload_n (pc := 549) rfl hX dL_law_549 ?_
  refine A_iconst (pc := 550) (v := (nI 1)) (by decide) hX dL_law_550 ?_
  refine A_iadd (pc := 551) hX dL_law_551 ?_
  refine A_top (y := nI (i + 1)) (nI_add _ _) ?_
  refine A_sld (pc := 552) hX hSX dL_law_552 (vp_in_nI (by omega) (by omega)) ?_
  refine A_aload_n (pc := 553) rfl hX dL_law_553 ?_
  refine A_iload_n (pc := 554) rfl hX dL_law_554 ?_
  refine A_iconst (pc := 555) (v := (nI 2)) (by decide) hX dL_law_555 ?_
  refine A_iadd (pc := 556) hX dL_law_556 ?_
  refine A_top (y := nI (i + 2)) (nI_add _ _) ?_
  refine A_sld (pc := 557) hX hSX dL_law_557 (vp_in_nI (by omega) (by omega)) ?_
  refine A_aload_n (pc := 558) rfl hX dL_law_558 ?_
  refine A_iload_n (pc := 559) rfl hX dL_law_559 ?_
  refine A_iconst (pc := 560) (v := (nI 3)) (by decide) hX dL_law_560 ?_
  refine A_iadd (pc := 561) hX dL_law_561 ?_
  refine A_top (y := nI (i + 3)) (nI_add _ _) ?_
  refine A_sld (pc := 562) hX hSX dL_law_562 (vp_in_nI (by omega) (by omega)) ?_
  refine A_aload_n (pc := 563) rfl hX dL_law_563 ?_
  refine A_iload_n (pc := 564) rfl hX dL_law_564 ?_
  refine A_iconst (pc := 565) (v := (nI 4)) (by decide) hX dL_law_565 ?_
  refine A_iadd (pc := 566) hX dL_law_566 ?_
  refine A_top (y := nI (i + 4)) (nI_add _ _) ?_
  refine A_sld (pc := 567) hX hSX dL_law_567 (vp_in_nI (by omega) (by omega)) ?_
  refine A_V4i (pc := 568) hX mk_X11_hands lv_L_77 dL_law_568 hX0.1 (ct_hands l G hX0 hh) rfl (Nat.le_of_ble_eq_true rfl) (Nat.le_of_ble_eq_true rfl) (Nat.le_of_ble_eq_true rfl) (by show _ ≤ 600000; omega) (by show _ ≤ 7302249; omega) (fun x568 σ568 h568 => ?_)
  obtain ⟨rfl, X1, F1⟩ := h568
  have hM1 := hM.fr F1 (by omega)
  obtain ⟨_, _, _, fs3, o3⟩ := hM1.n4
  refine A_aload_n (pc := 571) rfl hX dL_law_571 ?_
  refine A_aload_n (pc := 572) rfl hX dL_law_572 ?_
  refine A_iload_n (pc := 573) rfl hX dL_law_573 ?_
  refine A_iconst (pc := 574) (v := (nI 1)) (by decide) hX dL_law_574 ?_
  refine A_iadd (pc := 575) hX dL_law_575 ?_
  refine A_top (y := nI (i + 1)) (nI_add _ _) ?_
  refine A_sld (pc := 576) hX hSX dL_law_576 (vp_in_nI (by omega) (by omega)) ?_
  refine A_aload_n (pc := 577) rfl hX dL_law_577 ?_
  refine A_iload_n (pc := 578) rfl hX dL_law_578 ?_
  refine A_iconst (pc := 579) (v := (nI 2)) (by decide) hX dL_law_579 ?_
  refine A_iadd (pc := 580) hX dL_law_580 ?_
  refine A_top (y := nI (i + 2)) (nI_add _ _) ?_
  refine A_sld (pc := 581) hX hSX dL_law_581 (vp_in_nI (by omega) (by omega)) ?_
  refine A_aload_n (pc := 582) rfl hX dL_law_582 ?_
  refine A_iload_n (pc := 583) rfl hX dL_law_583 ?_
  refine A_iconst (pc := 584) (v := (nI 3)) (by decide) hX dL_law_584 ?_
  refine A_iadd (pc := 585) hX dL_law_585 ?_
  refine A_top (y := nI (i + 3)) (nI_add _ _) ?_
  refine A_sld (pc := 586) hX hSX dL_law_586 (vp_in_nI (by omega) (by omega)) ?_
  refine A_aload_n (pc := 587) rfl hX dL_law_587 ?_
  refine A_iload_n (pc := 588) rfl hX dL_law_588 ?_
  refine A_iconst (pc := 589) (v := (nI 4)) (by decide) hX dL_law_589 ?_
  refine A_iadd (pc := 590) hX dL_law_590 ?_
  refine A_top (y := nI (i + 4)) (nI_add _ _) ?_
  refine A_sld (pc := 591) hX hSX dL_law_591 (vp_in_nI (by omega) (by omega)) ?_
  refine A_V4i (pc := 592) hX mk_X12_hands lv_L_81 dL_law_592 o3 (ct_handsM l G hM1 hh) rfl (Nat.le_of_ble_eq_true rfl) (Nat.le_of_ble_eq_true rfl) (Nat.le_of_ble_eq_true rfl) (by show _ ≤ 600000; omega) (by show _ ≤ 7302249; omega) (fun x592 σ592 h592 => ?_)
  obtain ⟨rfl, M2, F2⟩ := h592
  refine A_icmp_eq (pc := 595) 706 hX dL_law_595 rfl (fun c595 => ?_) (fun c595 => ?_)
  · exact A_wid (by omega) (by omega) (k _ ⟨tp, sr, len, cd, nb, B, nt, dy, V, hI, kn, kd, KV, tw, (stHands nb B hn (xs (nI (i + 1)).toNatClampNeg) (xs (nI (i + 2)).toNatClampNeg) (xs (nI (i + 3)).toNatClampNeg) (xs (nI (i + 4)).toNatClampNeg)).2, (X1.fr F2 (by omega) (by omega)), M2, (hPk.hands _ _ _ _), by omega, by omega, htp, by rw [F2.1, F1.1]; exact htz⟩)
  · exact absurd rfl c595
set_option maxRecDepth 100000 in
set_option maxHeartbeats 1000000 in
theorem lw_16_years {l : Launch} {G : aG} {X : aX} {nm : String} {b L x n i : Nat} {xs : Nat → Int32} {σ : aS} (hX : AOk l G X code R_law nm 4 room_1) (hSX : SX G X b L xs) (hL : L ≤ 320) (hi : i + 5 ≤ L) (hn64 : n < 64) (hJ : Jn G x n σ) (k : ∀ σ' : aS, Jn G x (n + 1) σ' → AA G X (63 + 6 * (n + 1)) (12600 + 18 * (n + 1)) 706 [some (.ref b), some (.ref x), some (.ref (x + 40)), some (.int (nI i))] [] σ') : AA G X (63 + 6 * n) (12600 + 18 * n) 600 [some (.ref b), some (.ref x), some (.ref (x + 40)), some (.int (nI i))] [] σ := by
  obtain ⟨tp, sr, len, cd, nb, B, nt, dy, V, hI, kn, kd, KV, tw, hn, hX0, hM, hPk, hsr, htw, htp, htz⟩ := hJ
  obtain ⟨hV, hu, hz0, hK2, hh⟩ := id hPk
  obtain ⟨hnb, hok, hnt, fs2, o2⟩ := hM.n4
  refine A_aload_n (pc := 600) rfl hX dL_law_600 ?_
  refine A_aload_n (pc := 601) rfl hX dL_law_601 ?_
  refine A_iload_n (pc := 602) rfl hX dL_law_602 ?_
  refine A_iconst (pc := 603) (v := (nI 1)) (by decide) hX dL_law_603 ?_
  refine A_iadd (pc := 604) hX dL_law_604 ?_
  refine A_top (y := nI (i + 1)) (nI_add _ _) ?_
  refine A_sld (pc := 605) hX hSX dL_law_605 (vp_in_nI (by omega) (by omega)) ?_
  refine A_aload_n (pc := 606) rfl hX dL_law_606 ?_
  refine A_iload_n (pc := 607) rfl hX dL_law_607 ?_
  refine A_iconst (pc := 608) (v := (nI 2)) (by decide) hX dL_law_608 ?_
  refine A_iadd (pc := 609) hX dL_law_609 ?_
  refine A_top (y := nI (i + 2)) (nI_add _ _) ?_
  refine A_sld (pc := 610) hX hSX dL_law_610 (vp_in_nI (by omega) (by omega)) ?_
  refine A_aload_n (pc := 611) rfl hX dL_law_611 ?_
  refine A_iload_n (pc := 612) rfl hX dL_law_612 ?_
  refine A_iconst (pc := 613) (v := (nI 3)) (by decide) hX dL_law_613 ?_
  refine A_iadd (pc := 614) hX dL_law_614 ?_
  refine A_top (y := nI (i + 3)) (nI_add _ _) ?_
  refine A_sld (pc := 615) hX hSX dL_law_615 (vp_in_nI (by omega) (by omega)) ?_
  refine A_V3i (pc := 616) hX mk_X11_years lv_L_82 dL_law_616 hX0.1 (ct_years l G hX0 hV hz0) rfl (Nat.le_of_ble_eq_true rfl) (Nat.le_of_ble_eq_true rfl) (Nat.le_of_ble_eq_true rfl) (by show _ ≤ 600000; omega) (by show _ ≤ 7302249; omega) (fun x616 σ616 h616 => ?_)
  obtain ⟨rfl, X1, F1⟩ := h616
  have hM1 := hM.fr F1 (by omega)
  obtain ⟨_, _, _, fs3, o3⟩ := hM1.n4
  refine A_aload_n (pc := 619) rfl hX dL_law_619 ?_
  refine A_aload_n (pc := 620) rfl hX dL_law_620 ?_
  refine A_iload_n (pc := 621) rfl hX dL_law_621 ?_
  refine A_iconst (pc := 622) (v := (nI 1)) (by decide) hX dL_law_622 ?_
  refine A_iadd (pc := 623) hX dL_law_623 ?_
  refine A_top (y := nI (i + 1)) (nI_add _ _) ?_
  refine A_sld (pc := 624) hX hSX dL_law_624 (vp_in_nI (by omega) (by omega)) ?_
  refine A_aload_n (pc := 625) rfl hX dL_law_625 ?_
  refine A_iload_n (pc := 626) rfl hX dL_law_626 ?_
  refine A_iconst (pc := 627) (v := (nI 2)) (by decide) hX dL_law_627 ?_
  refine A_iadd (pc := 628) hX dL_law_628 ?_
  refine A_top (y := nI (i + 2)) (nI_add _ _) ?_
  refine A_sld (pc := 629) hX hSX dL_law_629 (vp_in_nI (by omega) (by omega)) ?_
  refine A_aload_n (pc := 630) rfl hX dL_law_630 ?_
  refine A_iload_n (pc := 631) rfl hX dL_law_631 ?_
  refine A_iconst (pc := 632) (v := (nI 3)) (by decide) hX dL_law_632 ?_
  refine A_iadd (pc := 633) hX dL_law_633 ?_
  refine A_top (y := nI (i + 3)) (nI_add _ _) ?_
  refine A_sld (pc := 634) hX hSX dL_law_634 (vp_in_nI (by omega) (by omega)) ?_
  refine A_V3i (pc := 635) hX mk_X12_years lv_L_85 dL_law_635 o3 (ct_yearsM l G hM1 hV hz0) rfl (Nat.le_of_ble_eq_true rfl) (Nat.le_of_ble_eq_true rfl) (Nat.le_of_ble_eq_true rfl) (by show _ ≤ 600000; omega) (by show _ ≤ 7302249; omega) (fun x635 σ635 h635 => ?_)
  obtain ⟨rfl, M2, F2⟩ := h635
  refine A_icmp_eq (pc := 638) 706 hX dL_law_638 rfl (fun c638 => ?_) (fun c638 => ?_)
  · exact A_wid (by omega) (by omega) (k _ ⟨tp, sr, len, cd, nb, B, nt, dy, V, hI, kn, kd, KV, tw, hn, (X1.fr F2 (by omega) (by omega)), M2, hPk, by omega, by omega, htp, by rw [F2.1, F1.1]; exact htz⟩)
  · exact absurd rfl c638
set_option maxRecDepth 100000 in
set_option maxHeartbeats 1000000 in
theorem lw_17_image {l : Launch} {G : aG} {X : aX} {nm : String} {b L x n i : Nat} {xs : Nat → Int32} {σ : aS} (hX : AOk l G X code R_law nm 4 room_1) (hSX : SX G X b L xs) (hL : L ≤ 320) (hi : i + 5 ≤ L) (hn64 : n < 64) (hJ : Jn G x n σ) (k : ∀ σ' : aS, Jn G x (n + 1) σ' → AA G X (63 + 6 * (n + 1)) (12600 + 18 * (n + 1)) 706 [some (.ref b), some (.ref x), some (.ref (x + 40)), some (.int (nI i))] [] σ') : AA G X (63 + 6 * n) (12600 + 18 * n) 643 [some (.ref b), some (.ref x), some (.ref (x + 40)), some (.int (nI i))] [] σ := by
  obtain ⟨tp, sr, len, cd, nb, B, nt, dy, V, hI, kn, kd, KV, tw, hn, hX0, hM, hPk, hsr, htw, htp, htz⟩ := hJ
  obtain ⟨hV, hu, hz0, hK2, hh⟩ := id hPk
  obtain ⟨hnb, hok, hnt, fs2, o2⟩ := hM.n4
  refine A_aload_n (pc := 643) rfl hX dL_law_643 ?_
  refine A_V0i (pc := 644) hX mk_X11_image lv_L_86 dL_law_644 hX0.1 (ct_image l G hX0) rfl (Nat.le_of_ble_eq_true rfl) (Nat.le_of_ble_eq_true rfl) (Nat.le_of_ble_eq_true rfl) (by show _ ≤ 600000; omega) (by show _ ≤ 7302249; omega) (fun x644 σ644 h644 => ?_)
  obtain ⟨rfl, X1, F1⟩ := h644
  have hM1 := hM.fr F1 (by omega)
  obtain ⟨_, _, _, fs3, o3⟩ := hM1.n4
  refine A_aload_n (pc := 647) rfl hX dL_law_647 ?_
  refine A_V0i (pc := 648) hX mk_X12_image lv_L_89 dL_law_648 o3 (ct_imageM l G hM1) rfl (Nat.le_of_ble_eq_true rfl) (Nat.le_of_ble_eq_true rfl) (Nat.le_of_ble_eq_true rfl) (by show _ ≤ 600000; omega) (by show _ ≤ 7302249; omega) (fun x648 σ648 h648 => ?_)
  obtain ⟨rfl, M2, F2⟩ := h648
  refine A_icmp_eq (pc := 651) 706 hX dL_law_651 rfl (fun c651 => ?_) (fun c651 => ?_)
  · exact A_wid (by omega) (by omega) (k _ ⟨tp, sr, len, cd, nb, B, nt, dy, V, (stImage nb nt dy V hI kn kd KV).2.1, (stImage nb nt dy V hI kn kd KV).2.2.1, (stImage nb nt dy V hI kn kd KV).2.2.2.1, (stImage nb nt dy V hI kn kd KV).2.2.2.2, tw, hn, (X1.fr F2 (by omega) (by omega)), M2, hPk.image, by omega, by omega, htp, by rw [F2.1, F1.1]; exact htz⟩)
  · exact absurd rfl c651
set_option maxRecDepth 100000 in
set_option maxHeartbeats 1000000 in
theorem lw_18_restore {l : Launch} {G : aG} {X : aX} {nm : String} {b L x n i : Nat} {xs : Nat → Int32} {σ : aS} (hX : AOk l G X code R_law nm 4 room_1) (hSX : SX G X b L xs) (hL : L ≤ 320) (hi : i + 5 ≤ L) (hn64 : n < 64) (hJ : Jn G x n σ) (k : ∀ σ' : aS, Jn G x (n + 1) σ' → AA G X (63 + 6 * (n + 1)) (12600 + 18 * (n + 1)) 706 [some (.ref b), some (.ref x), some (.ref (x + 40)), some (.int (nI i))] [] σ') : AA G X (63 + 6 * n) (12600 + 18 * n) 656 [some (.ref b), some (.ref x), some (.ref (x + 40)), some (.int (nI i))] [] σ := by
  obtain ⟨tp, sr, len, cd, nb, B, nt, dy, V, hI, kn, kd, KV, tw, hn, hX0, hM, hPk, hsr, htw, htp, htz⟩ := hJ
  obtain ⟨hV, hu, hz0, hK2, hh⟩ := id hPk
  obtain ⟨hnb, hok, hnt, fs2, o2⟩ := hM.n4
  refine A_aload_n (pc := 656) rfl hX dL_law_656 ?_
  refine A_V0i (pc := 657) hX mk_X11_restore lv_L_90 dL_law_657 hX0.1 (ct_restore l G hX0) rfl (Nat.le_of_ble_eq_true rfl) (Nat.le_of_ble_eq_true rfl) (Nat.le_of_ble_eq_true rfl) (by show _ ≤ 600000; omega) (by show _ ≤ 7302249; omega) (fun x657 σ657 h657 => ?_)
  obtain ⟨rfl, X1, F1⟩ := h657
  have hM1 := hM.fr F1 (by omega)
  obtain ⟨_, _, _, fs3, o3⟩ := hM1.n4
  refine A_aload_n (pc := 660) rfl hX dL_law_660 ?_
  refine A_V0i (pc := 661) hX mk_X12_restore lv_L_93 dL_law_661 o3 (ct_restoreM l G hM1 (by omega)) rfl (Nat.le_of_ble_eq_true rfl) (Nat.le_of_ble_eq_true rfl) (Nat.le_of_ble_eq_true rfl) (by show _ ≤ 600000; omega) (by show _ ≤ 7302249; omega) (fun x661 σ661 h661 => ?_)
  obtain ⟨rfl, M2, F2⟩ := h661
  refine A_icmp_eq (pc := 664) 706 hX dL_law_664 rfl (fun c664 => ?_) (fun c664 => ?_)
  · exact A_wid (by omega) (by omega) (k _ ⟨tp, sr, len, cd, nb, B, (stRestore nt dy V hI kn kd KV).2.1, (stRestore nt dy V hI kn kd KV).2.2.1, (stRestore nt dy V hI kn kd KV).2.2.2, hI, kn, kd, KV, tw, hn, (X1.fr F2 (by omega) (by omega)), M2, hPk.restore, by omega, by omega, htp, by rw [F2.1, F1.1]; exact htz⟩)
  · exact absurd rfl c664
set_option maxRecDepth 100000 in
set_option maxHeartbeats 1000000 in
theorem lw_19_count {l : Launch} {G : aG} {X : aX} {nm : String} {b L x n i : Nat} {xs : Nat → Int32} {σ : aS} (hX : AOk l G X code R_law nm 4 room_1) (hSX : SX G X b L xs) (hL : L ≤ 320) (hi : i + 5 ≤ L) (hn64 : n < 64) (hJ : Jn G x n σ) (k : ∀ σ' : aS, Jn G x (n + 1) σ' → AA G X (63 + 6 * (n + 1)) (12600 + 18 * (n + 1)) 706 [some (.ref b), some (.ref x), some (.ref (x + 40)), some (.int (nI i))] [] σ') : AA G X (63 + 6 * n) (12600 + 18 * n) 669 [some (.ref b), some (.ref x), some (.ref (x + 40)), some (.int (nI i))] [] σ := by
  obtain ⟨tp, sr, len, cd, nb, B, nt, dy, V, hI, kn, kd, KV, tw, hn, hX0, hM, hPk, hsr, htw, htp, htz⟩ := hJ
  obtain ⟨hV, hu, hz0, hK2, hh⟩ := id hPk
  obtain ⟨hnb, hok, hnt, fs2, o2⟩ := hM.n4
  obtain ⟨fa, nm1, wh, hk, sn, hd, kt, mo, ma, mt, _⟩ := id hM
  refine A_aload_n (pc := 669) rfl hX dL_law_669 ?_
  refine A_aload_n (pc := 670) rfl hX dL_law_670 ?_
  refine A_iload_n (pc := 671) rfl hX dL_law_671 ?_
  refine A_iconst (pc := 672) (v := (nI 1)) (by decide) hX dL_law_672 ?_
  refine A_iadd (pc := 673) hX dL_law_673 ?_
  refine A_top (y := nI (i + 1)) (nI_add _ _) ?_
  refine A_sld (pc := 674) hX hSX dL_law_674 (vp_in_nI (by omega) (by omega)) ?_
  refine A_V1d (pc := 675) hX mk_X11_count lv_L_94 dL_law_675 hX0.1 (ct_count l G hX0 hV) rfl (Nat.le_of_ble_eq_true rfl) (Nat.le_of_ble_eq_true rfl) (Nat.le_of_ble_eq_true rfl) (by show _ ≤ 600000; omega) (by show _ ≤ 7302249; omega) ?_
  refine A_aload_n (pc := 678) rfl hX dL_law_678 ?_
  refine A_aload_n (pc := 679) rfl hX dL_law_679 ?_
  refine A_iload_n (pc := 680) rfl hX dL_law_680 ?_
  refine A_iconst (pc := 681) (v := (nI 1)) (by decide) hX dL_law_681 ?_
  refine A_iadd (pc := 682) hX dL_law_682 ?_
  refine A_top (y := nI (i + 1)) (nI_add _ _) ?_
  refine A_sld (pc := 683) hX hSX dL_law_683 (vp_in_nI (by omega) (by omega)) ?_
  refine A_V1d (pc := 684) hX mk_X12_count lv_L_97 dL_law_684 o2 (ct_countM l G mo mt hV) rfl (Nat.le_of_ble_eq_true rfl) (Nat.le_of_ble_eq_true rfl) (Nat.le_of_ble_eq_true rfl) (by show _ ≤ 600000; omega) (by show _ ≤ 7302249; omega) ?_
  refine A_icmp_eq (pc := 687) 706 hX dL_law_687 rfl (fun c687 => ?_) (fun c687 => ?_)
  · exact A_wid (by omega) (by omega) (k _ ⟨tp, sr, len, cd, nb, B, nt, dy, V, hI, kn, kd, KV, tw, hn, hX0, hM, hPk, by omega, by omega, htp, htz⟩)
  · exact absurd rfl c687
set_option maxRecDepth 100000 in
set_option maxHeartbeats 1000000 in
theorem lw_20_digest {l : Launch} {G : aG} {X : aX} {nm : String} {b L x n i : Nat} {xs : Nat → Int32} {σ : aS} (hX : AOk l G X code R_law nm 4 room_1) (hSX : SX G X b L xs) (hL : L ≤ 320) (hi : i + 5 ≤ L) (hn64 : n < 64) (hJ : Jn G x n σ) (k : ∀ σ' : aS, Jn G x (n + 1) σ' → AA G X (63 + 6 * (n + 1)) (12600 + 18 * (n + 1)) 706 [some (.ref b), some (.ref x), some (.ref (x + 40)), some (.int (nI i))] [] σ') : AA G X (63 + 6 * n) (12600 + 18 * n) 692 [some (.ref b), some (.ref x), some (.ref (x + 40)), some (.int (nI i))] [] σ := by
  obtain ⟨tp, sr, len, cd, nb, B, nt, dy, V, hI, kn, kd, KV, tw, hn, hX0, hM, hPk, hsr, htw, htp, htz⟩ := hJ
  obtain ⟨hV, hu, hz0, hK2, hh⟩ := id hPk
  obtain ⟨hnb, hok, hnt, fs2, o2⟩ := hM.n4
  refine A_aload_n (pc := 692) rfl hX dL_law_692 ?_
  refine A_V0j (pc := 693) hX mk_X11_digest lv_L_98 dL_law_693 hX0.1 (ct_digest l G hX0 hV) rfl (Nat.le_of_ble_eq_true rfl) (Nat.le_of_ble_eq_true rfl) (Nat.le_of_ble_eq_true rfl) (by show _ ≤ 600000; omega) (by show _ ≤ 7302249; omega) (fun x693 σ693 h693 => ?_)
  obtain ⟨rfl, X1, F1⟩ := h693
  have hM1 := hM.fr F1 (by omega)
  obtain ⟨_, _, _, fs3, o3⟩ := hM1.n4
  refine A_aload_n (pc := 696) rfl hX dL_law_696 ?_
  refine A_V0j (pc := 697) hX mk_X12_digest lv_L_102 dL_law_697 o3 (ct_digestM l G hM1 hV hu) rfl (Nat.le_of_ble_eq_true rfl) (Nat.le_of_ble_eq_true rfl) (Nat.le_of_ble_eq_true rfl) (by show _ ≤ 600000; omega) (by show _ ≤ 7302249; omega) (fun x697 σ697 h697 => ?_)
  obtain ⟨rfl, M2, F2⟩ := h697
  refine A_lcmp (pc := 700) hX dL_law_700 ?_
  refine A_if_eq (pc := 701) 706 hX dL_law_701 rfl (fun c701 => ?_) (fun c701 => ?_)
  · exact A_wid (by omega) (by omega) (k _ ⟨tp, sr, len, cd, nb, B, nt, dy, V, hI, kn, kd, KV, tw, hn, (X1.fr F2 (by omega) (by omega)), M2, hPk, by omega, by omega, htp, by rw [F2.1, F1.1]; exact htz⟩)
  · exact absurd ((lg_cmp_eq _ _).mpr rfl) c701
