set_option maxRecDepth 100000 in
set_option maxHeartbeats 1000000 in
/-- the law's loop: at its head, behind n calls, both sides agree -/
theorem lw_loop {l : Launch} {G : aG} {X : aX} {nm : String} {b L x : Nat} {xs : Nat → Int32} (hX : AOk l G X code R_law nm 4 room_1) (hSX : SX G X b L xs) (hE : EX G X b) (hL : L ≤ 320) : ∀ (q n : Nat) (σ : aS), n + q = 65 → 5 * n ≤ L → Jn G x n σ → AA G X (63 + 6 * n) (12600 + 18 * n) 18 [some (.ref b), some (.ref x), some (.ref (x + 40)), some (.int (nI (5 * n)))] [] σ := by
  intro q
  induction q with
  | zero =>
    intro n σ hq hi hJ
    omega
  | succ q ih =>
    intro n σ hq hi0 hJ
    by_cases hi : 5 * n + 5 ≤ L
    · have hn64 : n < 64 := by omega
      have h706 : ∀ σ' : aS, Jn G x (n + 1) σ' → AA G X (63 + 6 * (n + 1)) (12600 + 18 * (n + 1)) 706 [some (.ref b), some (.ref x), some (.ref (x + 40)), some (.int (nI (5 * n)))] [] σ' := by
        intro σ' hJ'
        refine A_iinc (pc := 706) (v := (nI (5 * (n + 1)))) (lv' := [_, _, _, _]) hX dL_law_706 rfl (by rw [show 5 * (n + 1) = 5 * n + 5 by omega]; exact nI_add _ _) rfl rfl ?_
        refine A_goto (pc := 709) 18 hX dL_law_709 rfl ?_
        exact ih (n + 1) σ' (by omega) (by omega) hJ'
      refine A_iload_n (pc := 18) rfl hX dL_law_18 ?_
      refine A_aload_n (pc := 19) rfl hX dL_law_19 ?_
      refine A_slen (pc := 20) hX hSX dL_law_20 ?_
      refine A_iconst (pc := 21) (v := (nI 5)) (by decide) hX dL_law_21 ?_
      refine A_isub (pc := 22) hX dL_law_22 ?_
      refine A_icmp_gt (pc := 23) 712 hX dL_law_23 rfl (fun c23 => ?_) (fun c23 => ?_)
      · exact absurd ((i_sublt (by omega) (by decide) (by omega)).mp c23) (by omega)
      · refine A_aload_n (pc := 26) rfl hX dL_law_26 ?_
        refine A_iload_n (pc := 27) rfl hX dL_law_27 ?_
        refine A_sld (pc := 28) hX hSX dL_law_28 (vp_in_nI (by omega) (by omega)) ?_
        refine A_bipush (pc := 29) (v := (nI 31)) (by decide) hX dL_law_29 ?_
        refine A_iand (pc := 31) hX dL_law_31 ?_
        obtain ⟨j, hj, hje⟩ := pk_andE (xs (nI (5 * n)).toNatClampNeg) (m := nI 31) 5 (by decide)
        refine A_top hje ?_
        have hj : j < 32 := hj
        rcases Nat.lt_or_ge j 21 with hj2 | hj2
        · rcases (by omega : j = 0 ∨ j = 1 ∨ j = 2 ∨ j = 3 ∨ j = 4 ∨ j = 5 ∨ j = 6 ∨ j = 7 ∨ j = 8 ∨ j = 9 ∨ j = 10 ∨ j = 11 ∨ j = 12 ∨ j = 13 ∨ j = 14 ∨ j = 15 ∨ j = 16 ∨ j = 17 ∨ j = 18 ∨ j = 19 ∨ j = 20) with rfl | rfl | rfl | rfl | rfl | rfl | rfl | rfl | rfl | rfl | rfl | rfl | rfl | rfl | rfl | rfl | rfl | rfl | rfl | rfl | rfl
          · exact A_tabIn (pc := 32) (off := 100) 132 hX dL_law_32 (by decide) (by decide) rfl rfl (lw_0_letter hX hSX hL hi hn64 hJ h706)
          · exact A_tabIn (pc := 32) (off := 123) 155 hX dL_law_32 (by decide) (by decide) rfl rfl (lw_1_blank hX hSX hL hi hn64 hJ h706)
          · exact A_tabIn (pc := 32) (off := 136) 168 hX dL_law_32 (by decide) (by decide) rfl rfl (lw_2_fault hX hSX hL hi hn64 hJ h706)
          · exact A_tabIn (pc := 32) (off := 159) 191 hX dL_law_32 (by decide) (by decide) rfl rfl (lw_3_town hX hSX hL hi hn64 hJ h706)
          · exact A_tabIn (pc := 32) (off := 172) 204 hX dL_law_32 (by decide) (by decide) rfl rfl (lw_4_about hX hSX hL hi hn64 hJ h706)
          · exact A_tabIn (pc := 32) (off := 205) 237 hX dL_law_32 (by decide) (by decide) rfl rfl (lw_5_as hX hSX hL hi hn64 hJ h706)
          · exact A_tabIn (pc := 32) (off := 238) 270 hX dL_law_32 (by decide) (by decide) rfl rfl (lw_6_thing hX hSX hL hi hn64 hJ h706)
          · exact A_tabIn (pc := 32) (off := 261) 293 hX dL_law_32 (by decide) (by decide) rfl rfl (lw_7_thingOf hX hSX hL hi hn64 hJ h706)
          · exact A_tabIn (pc := 32) (off := 294) 326 hX dL_law_32 (by decide) (by decide) rfl rfl (lw_8_lend hX hSX hL hi hn64 hJ h706)
          · exact A_tabIn (pc := 32) (off := 327) 359 hX dL_law_32 (by decide) (by decide) rfl rfl (lw_9_day hX hSX hL hi hn64 hJ h706)
          · exact A_tabIn (pc := 32) (off := 340) 372 hX dL_law_32 (by decide) (by decide) rfl rfl (lw_10_by hX hSX hL hi hn64 hJ h706)
          · exact A_tabIn (pc := 32) (off := 373) 405 hX dL_law_32 (by decide) (by decide) rfl rfl (lw_11_wished hX hSX hL hi hn64 hJ h706)
          · exact A_tabIn (pc := 32) (off := 416) 448 hX dL_law_32 (by decide) (by decide) rfl rfl (lw_12_reach hX hSX hL hi hn64 hJ h706)
          · exact A_tabIn (pc := 32) (off := 439) 471 hX dL_law_32 (by decide) (by decide) rfl rfl (lw_13_spoilers hX hSX hL hi hn64 hJ h706)
          · exact A_tabIn (pc := 32) (off := 482) 514 hX dL_law_32 (by decide) (by decide) rfl rfl (lw_14_round hX hSX hL hi hn64 hJ h706)
          · exact A_tabIn (pc := 32) (off := 515) 547 hX dL_law_32 (by decide) (by decide) rfl rfl (lw_15_hands hX hSX hL hi hn64 hJ h706)
          · exact A_tabIn (pc := 32) (off := 568) 600 hX dL_law_32 (by decide) (by decide) rfl rfl (lw_16_years hX hSX hL hi hn64 hJ h706)
          · exact A_tabIn (pc := 32) (off := 611) 643 hX dL_law_32 (by decide) (by decide) rfl rfl (lw_17_image hX hSX hL hi hn64 hJ h706)
          · exact A_tabIn (pc := 32) (off := 624) 656 hX dL_law_32 (by decide) (by decide) rfl rfl (lw_18_restore hX hSX hL hi hn64 hJ h706)
          · exact A_tabIn (pc := 32) (off := 637) 669 hX dL_law_32 (by decide) (by decide) rfl rfl (lw_19_count hX hSX hL hi hn64 hJ h706)
          · exact A_tabIn (pc := 32) (off := 660) 692 hX dL_law_32 (by decide) (by decide) rfl rfl (lw_20_digest hX hSX hL hi hn64 hJ h706)
        · exact A_tabOut (pc := 32) 706 hX dL_law_32 (.inr (by rw [nI_toInt (by omega)]; omega)) rfl (A_wid (by omega) (by omega) (h706 σ hJ.up))
    · skip
      refine A_iload_n (pc := 18) rfl hX dL_law_18 ?_
      refine A_aload_n (pc := 19) rfl hX dL_law_19 ?_
      refine A_slen (pc := 20) hX hSX dL_law_20 ?_
      refine A_iconst (pc := 21) (v := (nI 5)) (by decide) hX dL_law_21 ?_
      refine A_isub (pc := 22) hX dL_law_22 ?_
      refine A_icmp_gt (pc := 23) 712 hX dL_law_23 rfl (fun c23 => ?_) (fun c23 => ?_)
      · refine A_iconst (pc := 712) (v := (nI 1)) (by decide) hX dL_law_712 ?_
        exact A_end hX hE (by omega) (by omega) dL_law_713
      · exact absurd ((i_sublt (by omega) (by decide) (by omega)).mpr (by omega)) c23
set_option maxRecDepth 100000 in
set_option maxHeartbeats 1000000 in
/-- the law's body, from its entry: the class's object, the model's -/
theorem lw_body {l : Launch} {G : aG} {X : aX} {nm : String} {b L : Nat} {xs : Nat → Int32} {σ : aS} (hX : AOk l G X code R_law nm 4 room_1) (hSX : SX G X b L xs) (hE : EX G X b) (hL : L ≤ 320) : AA G X 0 0 0 [some (.ref b), none, none, none] [] σ := by
  obtain ⟨x, hx⟩ : ∃ x, σ.1 = x := ⟨_, rfl⟩
  refine A_new (pc := 0) (fs := [.null, .null, .null, .null, .null, .null, .null, .null, .int 0, .int 0, .int 0]) hX nw_L_7 dL_law_0 nf_11 (Nat.le_of_ble_eq_true rfl) (Nat.le_of_ble_eq_true rfl) ?_
  rw [hx]
  refine A_dup (pc := 3) rfl hX dL_law_3 ?_
  refine A_I0 (pc := 4) hX mk_X11_init li_L_9 dL_law_4 (ct_Lc_init l G (b := x) (aNew_s' hx.symm) (by show σ.1 + 1 = _; omega)) rfl (Nat.le_of_ble_eq_true rfl) (Nat.le_of_ble_eq_true rfl) (Nat.le_of_ble_eq_true rfl) (Nat.le_of_ble_eq_true rfl) (Nat.le_of_ble_eq_true rfl) (fun x4 σ4 h4 => ?_)
  obtain ⟨rfl, X2, X3, X4⟩ := h4
  refine A_astore_n (pc := 7) (lv' := [_, _, _, _]) hX dL_law_7 (Nat.le_of_ble_eq_true rfl) rfl rfl ?_
  refine A_new (pc := 8) (fs := [.int 0, .int 0, .null, .null, .null, .null, .int 0, .null, .null, .null, .null, .int 0, .int 0, .int 0, .null, .int 0, .int 0, .int 0, .null, .null, .null, .null, .null, .null, .null, .null, .long 0, .null, .int 0, .int 0, .int 0, .int 0, .null, .null, .null, .null, .long 0]) hX nw_L_10 dL_law_8 nf_12 (Nat.le_of_ble_eq_true rfl) (Nat.le_of_ble_eq_true rfl) ?_
  rw [X2]
  refine A_dup (pc := 11) rfl hX dL_law_11 ?_
  refine A_I0 (pc := 12) hX mk_X12_init li_L_12 dL_law_12 (ct_Mo_init l G (m := x + 40) (aNew_s' X2.symm) (by show σ4.1 + 1 = _; omega)) rfl (Nat.le_of_ble_eq_true rfl) (Nat.le_of_ble_eq_true rfl) (Nat.le_of_ble_eq_true rfl) (Nat.le_of_ble_eq_true rfl) (Nat.le_of_ble_eq_true rfl) (fun x12 σ12 h12 => ?_)
  obtain ⟨rfl, M1, M2, M3⟩ := h12
  refine A_astore_n (pc := 15) (lv' := [_, _, _, _]) hX dL_law_15 (Nat.le_of_ble_eq_true rfl) rfl rfl ?_
  refine A_iconst (pc := 16) (v := (nI 0)) (by decide) hX dL_law_16 ?_
  refine A_istore_n (pc := 17) (lv' := [_, _, _, _]) hX dL_law_17 (Nat.le_of_ble_eq_true rfl) rfl rfl ?_
  have hRX : RX G x (x + 63) 0 0 (fun _ => 0) 0 (fun _ => (0, 0, 0, 0)) 0 0 (fun _ => (0, 0, 0, 0)) false 0 0 (fun _ => (0, 0, 0, 0)) 0 0 σ12 := X4.lift0 (fun a h1 h2 => (M2 a (by omega)).trans (aNew_n (by omega))) (by omega)
  refine A_wid (cs' := 63 + 6 * 0) (ss' := 12600 + 18 * 0) (Nat.le_of_ble_eq_true rfl) (Nat.le_of_ble_eq_true rfl) ?_
  exact lw_loop hX hSX hE hL 65 0 σ12 (by omega) (by omega) ⟨x + 63, 0, 0, _, 0, _, 0, 0, _, false, 0, 0, _, 0, 0, hRX, M3, ⟨fun i hi => absurd hi (Nat.not_lt_zero i), fun i j hi => absurd hi (Nat.not_lt_zero i), fun q => absurd q (Nat.lt_irrefl 0), fun q => absurd q (by decide), by omega⟩, by omega, by omega, Nat.le_refl _, by omega⟩
/-- THE LAW, from its entry -/
theorem whole_start {p : Program} {e : Env} {s : State} {m : MethodId} {below : List Frame} {meth : Method} {c : Code} (l : Launch) (hflags : l.flags = flags0) {b L : Nat} {xs : Nat → Int32} (hL : L ≤ 320) (C0 : lw_At p s m meth c b L xs) : W p l e room_1 s m #[Value.ref b] below meth c s.heap [] 0 0 (lw_Z below #[Value.ref b] s) (entryFrame m ([Value.ref b] : List Value).toArray 4) := by
  obtain ⟨hx, hb, hr, hml, hown, hts, hX, hbl, hlocks, hgv⟩ := id C0
  have htu : ∀ w ∈ lw_u, w.before #[Value.ref b] s = true := fun w hw => hts w (List.mem_filter.mp hw).1
  obtain ⟨G, hG, hK⟩ := aG_start htu hgv
  have hl := lEn_has (n := 4) (av := [Value.ref b]) (Nat.le_of_ble_eq_true rfl)
  have h := lw_body (l := l) (G := G) (X := (p, l, e, room_1, s, m, #[.ref b], below, meth, c, lw_Z below #[Value.ref b] s)) (nm := meth.name) (σ := (s.heap.size, fun _ => none)) ⟨hx, hb, hml, hown, htu, hK, by rw [hG]; exact Nat.le_refl _, rfl, rfl, rfl⟩ ⟨hX, hbl, by rw [hG]; exact Nat.not_le.mpr hbl⟩ ⟨hG, rfl, rfl, rfl, hr, hlocks⟩ hL
  rw [lg_entry_eq]
  exact h s.heap [] _ ⟨rfl, fun a e h => by cases h⟩ va_S.rf hl
