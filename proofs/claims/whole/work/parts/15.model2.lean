set_option maxRecDepth 100000 in
set_option maxHeartbeats 1000000 in
theorem ct_townM (l : Launch) (G : aG) {m len nb nt kn tw hn : Nat} {cd : Nat → Nat} {B : BorT} {dy kd : Int32} {V KV : ThT} {hI : Bool} {σ : aS} (hM : RM G m len cd nb B nt dy V hI kn kd KV tw hn σ) : ACt l G yX12_town cX12_town 2 (some .int) 3 0 0 [.ref m] σ (iP (fun v σ' => v = (stTown len cd nb B nt dy hI tw).1 ∧ RM G m (stTown len cd nb B nt dy hI tw).2.1 cd (stTown len cd nb B nt dy hI tw).2.2.1 (stTown len cd nb B nt dy hI tw).2.2.2.1 (stTown len cd nb B nt dy hI tw).2.2.2.2.1 (stTown len cd nb B nt dy hI tw).2.2.2.2.2.1 V (stTown len cd nb B nt dy hI tw).2.2.2.2.2.2.1 kn kd KV (stTown len cd nb B nt dy hI tw).2.2.2.2.2.2.2 hn σ' ∧ Fr m (m + 23) σ σ')) := by
  obtain ⟨fa, nm, wh, hk, sn, hd, kt, ho, ha, ht, hp, hn1, hs1, hkp, hI1, hI2⟩ := id hM
  have hnb := ha.1
  refine ACt.intro (own := RX12) (nm := "town") mk_X12_town rfl rfl [some (.ref m), none] rfl (Nat.le_of_ble_eq_true rfl) (fun X hX hR => ?_)
  refine A_aload_n (pc := 0) rfl hX dX12_town_0 ?_
  refine A_V0v (pc := 1) hX mk_X12_readTown lv_X12_106 dX12_town_1 (by repeat (first | assumption | exact aSet_s | exact aNew_s | refine lk_n ?_ (by omega) | refine lk_f (by assumption) ?_ (by omega) | refine lk_w ?_ (by omega))) (ct_readTown l G ho hp hn1) rfl (Nat.le_of_ble_eq_true rfl) (Nat.le_of_ble_eq_true rfl) (Nat.le_of_ble_eq_true rfl) (Nat.le_of_ble_eq_true rfl) (Nat.le_of_ble_eq_true rfl) (fun σ1 h1 => ?_)
  obtain ⟨nm', h1, ⟨σg1, fa1, fb1⟩, hn1, hv1⟩ := h1
  refine A_aload_n (pc := 4) rfl hX dX12_town_4 ?_
  refine A_getf (pc := 5) hX fl_X12_96_12 dX12_town_5 (by repeat (first | assumption | exact aSet_s | exact aNew_s | refine lk_n ?_ (by omega) | refine lk_f (by assumption) ?_ (by omega) | refine lk_w ?_ (by omega))) (by exact rfl) ?_
  refine A_if_ne (pc := 8) 14 hX dX12_town_8 rfl (fun c8 => ?_) (fun c8 => ?_)
  · have hT := bI_ne c8
    obtain ⟨t1, t2, t3, t4⟩ := twOK hT
    obtain ⟨rfl, na, nb_, nc, nd, n1, n2, n3, n4, nv⟩ := hv1 hT
    obtain ⟨_, _, gk, gt, gm, gd, e1, e2, e3, e4, _⟩ := id ha
    generalize hM : (len + 1) / 5 = M at *
    refine A_aload_n (pc := 14) rfl hX dX12_town_14 ?_
    refine A_aload_n (pc := 15) rfl hX dX12_town_15 ?_
    refine A_getf (pc := 16) hX fl_X12_100_12 dX12_town_16 (by repeat (first | assumption | exact aSet_s | exact aNew_s | refine lk_n ?_ (by omega) | refine lk_f (by assumption) ?_ (by omega) | refine lk_w ?_ (by omega))) (by exact rfl) ?_
    refine A_putf (pc := 19) (fs' := [_, _, _, _, _, _, _, _, _, _, _, _, _, _, _, _, _, _, _, _, _, _, _, _, _, _, _, _, _, _, _, _, _, _, _, _, _]) hX pl_X12_103_12 dX12_town_19 (by repeat (first | assumption | exact aSet_s | exact aNew_s | refine lk_n ?_ (by omega) | refine lk_f (by assumption) ?_ (by omega) | refine lk_w ?_ (by omega))) (by exact Nat.le_of_ble_eq_true rfl) (by exact rfl) rfl rfl ?_
    refine A_gen (fun z => (z.2 m = some (oM m (tw) (M) (nt) (dy) (hn) (len) (nI (faultOf (fitT cd) len)) (isTwB cd len) (nI M) (sn) (hk) (kt) (kn) (kd) (hd))) ∧ Fr (m) (m + 1) σ1 z) ⟨aSet_s, (Fr.rf.set (by omega) (by omega))⟩ (fun σ22 hg => ?_)
    obtain ⟨h22, f22⟩ := hg
    refine A_iconst (pc := 22) (v := (nI 0)) (by decide) hX dX12_town_22 ?_
    refine A_istore_n (pc := 23) (lv' := [_, _]) hX dX12_town_23 (Nat.le_of_ble_eq_true rfl) rfl rfl ?_
    suffices hl : ∀ (q b : Nat) (σ2 : aS) (a1 a2 a3 a4 : Nat → Int32), b ≤ M → M - b = q → Fr (m + 1) (m + 5) σ22 σ2 → σ2.2 (m + 1) = some (aI G 6 a1) → σ2.2 (m + 2) = some (aI G 6 a2) → σ2.2 (m + 3) = some (aI G 6 a3) → σ2.2 (m + 4) = some (aI G 6 a4) → (∀ i, i < b → a1 i = nI (borC cd i).1 ∧ a2 i = nI (borC cd i).2.1 ∧ a3 i = nI (borC cd i).2.2.1 ∧ a4 i = nI (borC cd i).2.2.2) → AA G X 0 0 24 [some (.ref m), some (.int (nI b))] [] σ2 from hl _ 0 σ22 gk gt gm gd (Nat.zero_le _) rfl Fr.rf (lk_f f22 (lk_f fb1 (lk_f fa1 e1 (by omega)) (by omega)) (by omega)) (lk_f f22 (lk_f fb1 (lk_f fa1 e2 (by omega)) (by omega)) (by omega)) (lk_f f22 (lk_f fb1 (lk_f fa1 e3 (by omega)) (by omega)) (by omega)) (lk_f f22 (lk_f fb1 (lk_f fa1 e4 (by omega)) (by omega)) (by omega)) (fun i hi => absurd hi (Nat.not_lt_zero i))
    intro q
    induction q with
    | zero =>
      intro b σ2 a1 a2 a3 a4 hb hq hF x1 x2 x3 x4 hx
      have e : M = b := by omega
      have q0 := lk_f hF h22 (by omega)
      refine A_iload_n (pc := 24) rfl hX dX12_town_24 ?_
      refine A_aload_n (pc := 25) rfl hX dX12_town_25 ?_
      refine A_getf (pc := 26) hX fl_X12_103_12 dX12_town_26 (by repeat (first | assumption | exact aSet_s | exact aNew_s | refine lk_n ?_ (by omega) | refine lk_f (by assumption) ?_ (by omega) | refine lk_w ?_ (by omega))) (by exact rfl) ?_
      refine A_icmp_ge (pc := 29) 86 hX dX12_town_29 rfl (fun c29 => ?_) (fun c29 => ?_)
      · refine A_aload_n (pc := 86) rfl hX dX12_town_86 ?_
        refine A_dup (pc := 87) rfl hX dX12_town_87 ?_
        refine A_getf (pc := 88) hX fl_X12_112_12 dX12_town_88 (by repeat (first | assumption | exact aSet_s | exact aNew_s | refine lk_n ?_ (by omega) | refine lk_f (by assumption) ?_ (by omega) | refine lk_w ?_ (by omega))) (by exact rfl) ?_
        refine A_iconst (pc := 91) (v := (nI 1)) (by decide) hX dX12_town_91 ?_
        refine A_iadd (pc := 92) hX dX12_town_92 ?_
        refine A_top (y := nI (tw + 1)) (nI_add _ _) ?_
        refine A_putf (pc := 93) (fs' := [_, _, _, _, _, _, _, _, _, _, _, _, _, _, _, _, _, _, _, _, _, _, _, _, _, _, _, _, _, _, _, _, _, _, _, _, _]) hX pl_X12_112_12 dX12_town_93 (by repeat (first | assumption | exact aSet_s | exact aNew_s | refine lk_n ?_ (by omega) | refine lk_f (by assumption) ?_ (by omega) | refine lk_w ?_ (by omega))) (by exact Nat.le_of_ble_eq_true rfl) (by exact rfl) rfl rfl ?_
        refine A_aload_n (pc := 96) rfl hX dX12_town_96 ?_
        refine A_iconst (pc := 97) (v := (nI 0)) (by decide) hX dX12_town_97 ?_
        refine A_putf (pc := 98) (fs' := [_, _, _, _, _, _, _, _, _, _, _, _, _, _, _, _, _, _, _, _, _, _, _, _, _, _, _, _, _, _, _, _, _, _, _, _, _]) hX pl_X12_115_12 dX12_town_98 (by repeat (first | assumption | exact aSet_s | exact aNew_s | refine lk_n ?_ (by omega) | refine lk_f (by assumption) ?_ (by omega) | refine lk_w ?_ (by omega))) (by exact Nat.le_of_ble_eq_true rfl) (by exact rfl) rfl rfl ?_
        refine A_aload_n (pc := 101) rfl hX dX12_town_101 ?_
        refine A_iconst (pc := 102) (v := (nI 0)) (by decide) hX dX12_town_102 ?_
        refine A_putf (pc := 103) (fs' := [_, _, _, _, _, _, _, _, _, _, _, _, _, _, _, _, _, _, _, _, _, _, _, _, _, _, _, _, _, _, _, _, _, _, _, _, _]) hX pl_X12_118_12 dX12_town_103 (by repeat (first | assumption | exact aSet_s | exact aNew_s | refine lk_n ?_ (by omega) | refine lk_f (by assumption) ?_ (by omega) | refine lk_w ?_ (by omega))) (by exact Nat.le_of_ble_eq_true rfl) (by exact rfl) rfl rfl ?_
        refine A_aload_n (pc := 106) rfl hX dX12_town_106 ?_
        refine A_iconst (pc := 107) (v := (nI 0)) (by decide) hX dX12_town_107 ?_
        refine A_putf (pc := 108) (fs' := [_, _, _, _, _, _, _, _, _, _, _, _, _, _, _, _, _, _, _, _, _, _, _, _, _, _, _, _, _, _, _, _, _, _, _, _, _]) hX pl_X12_81_12 dX12_town_108 (by repeat (first | assumption | exact aSet_s | exact aNew_s | refine lk_n ?_ (by omega) | refine lk_f (by assumption) ?_ (by omega) | refine lk_w ?_ (by omega))) (by exact Nat.le_of_ble_eq_true rfl) (by exact rfl) rfl rfl ?_
        refine A_gen (fun z => (z.2 m = some (oM m (tw + 1) (M) (0) (0) (hn) (0) (nI (faultOf (fitT cd) len)) (isTwB cd len) (nI M) (sn) (hk) (kt) (kn) (kd) (hd))) ∧ Fr (m) (m + 1) σ2 z) ⟨aSet_s, ((((Fr.rf.set (by omega) (by omega)).set (by omega) (by omega)).set (by omega) (by omega)).set (by omega) (by omega))⟩ (fun σ111 hg => ?_)
        obtain ⟨h111, f111⟩ := hg
        refine A_aload_n (pc := 111) rfl hX dX12_town_111 ?_
        refine A_getf (pc := 112) hX fl_X12_103_12 dX12_town_112 (by repeat (first | assumption | exact aSet_s | exact aNew_s | refine lk_n ?_ (by omega) | refine lk_f (by assumption) ?_ (by omega) | refine lk_w ?_ (by omega))) (by exact rfl) ?_
        refine A_iret (pc := 115) hX hR dX12_town_115 rfl rfl ?_
        rw [show stTown len cd nb B nt dy hI tw = _ from if_pos hT, hM]
        exact ⟨_, rfl, rfl, (show RM G m 0 cd M (borC cd) 0 0 V false kn kd KV (tw + 1) hn _ from ⟨_, _, _, hk, sn, hd, kt, h111, ⟨t2, t3, a1, a2, a3, a4, lk_f f111 x1 (by omega), lk_f f111 x2 (by omega), lk_f f111 x3 (by omega), lk_f f111 x4 (by omega), fun i hi => hx i (by omega)⟩, (by obtain ⟨s1, s2, s3, s4, u1, u2, u3, u4, _, _⟩ := (((((ht.fr fa1 (by omega)).fr fb1 (by omega)).fr f22 (by omega)).fr hF (by omega)).fr f111 (by omega)); exact ⟨s1, s2, s3, s4, u1, u2, u3, u4, by omega, fun i hi => absurd hi (Nat.not_lt_zero i)⟩), (by obtain ⟨s1, u1, u2, u3⟩ := (((((hp.fr fa1 (by omega)).fr fb1 (by omega)).fr f22 (by omega)).fr hF (by omega)).fr f111 (by omega)); exact ⟨s1, u1, by omega, fun i hi => absurd hi (Nat.not_lt_zero i)⟩), (((hn1.fr f22 (by omega)).fr hF (by omega)).fr f111 (by omega)), (((((hs1.fr fa1 (by omega)).fr fb1 (by omega)).fr f22 (by omega)).fr hF (by omega)).fr f111 (by omega)), (((((hkp.fr fa1 (by omega)).fr fb1 (by omega)).fr f22 (by omega)).fr hF (by omega)).fr f111 (by omega)), ⟨fun q => absurd q (by decide), fun q => absurd q.2 (by omega)⟩, by omega⟩), (by repeat (first | exact Fr.rf | refine Fr.set ?_ (by omega) (by omega) | refine Fr.tr ?_ (Fr.wd (by assumption) (by omega) (by omega))))⟩
      · exact absurd (nI_le (by omega) (by omega)) c29
    | succ q ih =>
      intro b σ2 a1 a2 a3 a4 hb hq hF x1 x2 x3 x4 hx
      have hbl : b < M := by omega
      have hbc := nI_clamp (n := b) (by omega)
      obtain ⟨z1, z2, z3, z4⟩ := nv b hbl
      have q0 := lk_f hF h22 (by omega)
      have y1 := lk_f hF (lk_f f22 n1 (by omega)) (by omega)
      have y2 := lk_f hF (lk_f f22 n2 (by omega)) (by omega)
      have y3 := lk_f hF (lk_f f22 n3 (by omega)) (by omega)
      have y4 := lk_f hF (lk_f f22 n4 (by omega)) (by omega)
      refine A_iload_n (pc := 24) rfl hX dX12_town_24 ?_
      refine A_aload_n (pc := 25) rfl hX dX12_town_25 ?_
      refine A_getf (pc := 26) hX fl_X12_103_12 dX12_town_26 (by repeat (first | assumption | exact aSet_s | exact aNew_s | refine lk_n ?_ (by omega) | refine lk_f (by assumption) ?_ (by omega) | refine lk_w ?_ (by omega))) (by exact rfl) ?_
      refine A_icmp_ge (pc := 29) 86 hX dX12_town_29 rfl (fun c29 => ?_) (fun c29 => ?_)
      · exact absurd c29 (nI_ge hbl (by omega))
      · refine A_aload_n (pc := 32) rfl hX dX12_town_32 ?_
        refine A_getf (pc := 33) hX fl_X12_7_12 dX12_town_33 (by repeat (first | assumption | exact aSet_s | exact aNew_s | refine lk_n ?_ (by omega) | refine lk_f (by assumption) ?_ (by omega) | refine lk_w ?_ (by omega))) (by exact rfl) ?_
        refine A_iload_n (pc := 36) rfl hX dX12_town_36 ?_
        refine A_aload_n (pc := 37) rfl hX dX12_town_37 ?_
        refine A_getf (pc := 38) hX fl_X12_38_12 dX12_town_38 (by repeat (first | assumption | exact aSet_s | exact aNew_s | refine lk_n ?_ (by omega) | refine lk_f (by assumption) ?_ (by omega) | refine lk_w ?_ (by omega))) (by exact rfl) ?_
        refine A_iload_n (pc := 41) rfl hX dX12_town_41 ?_
        refine A_iald (pc := 42) hX dX12_town_42 (by repeat (first | assumption | exact aSet_s | exact aNew_s | refine lk_n ?_ (by omega) | refine lk_f (by assumption) ?_ (by omega) | refine lk_w ?_ (by omega))) (vp_in_nI (by omega) (by decide)) ?_
        refine A_top (y := nI (borC cd b).1) (by rw [hbc]; exact z1) ?_
        refine A_iast (pc := 43) hX dX12_town_43 (by repeat (first | assumption | exact aSet_s | exact aNew_s | refine lk_n ?_ (by omega) | refine lk_f (by assumption) ?_ (by omega) | refine lk_w ?_ (by omega))) (vp_in_nI (by omega) (by decide)) ?_
        refine A_aload_n (pc := 44) rfl hX dX12_town_44 ?_
        refine A_getf (pc := 45) hX fl_X12_13_12 dX12_town_45 (by repeat (first | assumption | exact aSet_s | exact aNew_s | refine lk_n ?_ (by omega) | refine lk_f (by assumption) ?_ (by omega) | refine lk_w ?_ (by omega))) (by exact rfl) ?_
        refine A_iload_n (pc := 48) rfl hX dX12_town_48 ?_
        refine A_aload_n (pc := 49) rfl hX dX12_town_49 ?_
        refine A_getf (pc := 50) hX fl_X12_41_12 dX12_town_50 (by repeat (first | assumption | exact aSet_s | exact aNew_s | refine lk_n ?_ (by omega) | refine lk_f (by assumption) ?_ (by omega) | refine lk_w ?_ (by omega))) (by exact rfl) ?_
        refine A_iload_n (pc := 53) rfl hX dX12_town_53 ?_
        refine A_iald (pc := 54) hX dX12_town_54 (by repeat (first | assumption | exact aSet_s | exact aNew_s | refine lk_n ?_ (by omega) | refine lk_f (by assumption) ?_ (by omega) | refine lk_w ?_ (by omega))) (vp_in_nI (by omega) (by decide)) ?_
        refine A_top (y := nI (borC cd b).2.1) (by rw [hbc]; exact z2) ?_
        refine A_iast (pc := 55) hX dX12_town_55 (by repeat (first | assumption | exact aSet_s | exact aNew_s | refine lk_n ?_ (by omega) | refine lk_f (by assumption) ?_ (by omega) | refine lk_w ?_ (by omega))) (vp_in_nI (by omega) (by decide)) ?_
        refine A_aload_n (pc := 56) rfl hX dX12_town_56 ?_
        refine A_getf (pc := 57) hX fl_X12_16_12 dX12_town_57 (by repeat (first | assumption | exact aSet_s | exact aNew_s | refine lk_n ?_ (by omega) | refine lk_f (by assumption) ?_ (by omega) | refine lk_w ?_ (by omega))) (by exact rfl) ?_
        refine A_iload_n (pc := 60) rfl hX dX12_town_60 ?_
        refine A_aload_n (pc := 61) rfl hX dX12_town_61 ?_
        refine A_getf (pc := 62) hX fl_X12_44_12 dX12_town_62 (by repeat (first | assumption | exact aSet_s | exact aNew_s | refine lk_n ?_ (by omega) | refine lk_f (by assumption) ?_ (by omega) | refine lk_w ?_ (by omega))) (by exact rfl) ?_
        refine A_iload_n (pc := 65) rfl hX dX12_town_65 ?_
        refine A_iald (pc := 66) hX dX12_town_66 (by repeat (first | assumption | exact aSet_s | exact aNew_s | refine lk_n ?_ (by omega) | refine lk_f (by assumption) ?_ (by omega) | refine lk_w ?_ (by omega))) (vp_in_nI (by omega) (by decide)) ?_
        refine A_top (y := nI (borC cd b).2.2.1) (by rw [hbc]; exact z3) ?_
        refine A_iast (pc := 67) hX dX12_town_67 (by repeat (first | assumption | exact aSet_s | exact aNew_s | refine lk_n ?_ (by omega) | refine lk_f (by assumption) ?_ (by omega) | refine lk_w ?_ (by omega))) (vp_in_nI (by omega) (by decide)) ?_
        refine A_aload_n (pc := 68) rfl hX dX12_town_68 ?_
        refine A_getf (pc := 69) hX fl_X12_19_12 dX12_town_69 (by repeat (first | assumption | exact aSet_s | exact aNew_s | refine lk_n ?_ (by omega) | refine lk_f (by assumption) ?_ (by omega) | refine lk_w ?_ (by omega))) (by exact rfl) ?_
        refine A_iload_n (pc := 72) rfl hX dX12_town_72 ?_
        refine A_aload_n (pc := 73) rfl hX dX12_town_73 ?_
        refine A_getf (pc := 74) hX fl_X12_47_12 dX12_town_74 (by repeat (first | assumption | exact aSet_s | exact aNew_s | refine lk_n ?_ (by omega) | refine lk_f (by assumption) ?_ (by omega) | refine lk_w ?_ (by omega))) (by exact rfl) ?_
        refine A_iload_n (pc := 77) rfl hX dX12_town_77 ?_
        refine A_iald (pc := 78) hX dX12_town_78 (by repeat (first | assumption | exact aSet_s | exact aNew_s | refine lk_n ?_ (by omega) | refine lk_f (by assumption) ?_ (by omega) | refine lk_w ?_ (by omega))) (vp_in_nI (by omega) (by decide)) ?_
        refine A_top (y := nI (borC cd b).2.2.2) (by rw [hbc]; exact z4) ?_
        refine A_iast (pc := 79) hX dX12_town_79 (by repeat (first | assumption | exact aSet_s | exact aNew_s | refine lk_n ?_ (by omega) | refine lk_f (by assumption) ?_ (by omega) | refine lk_w ?_ (by omega))) (vp_in_nI (by omega) (by decide)) ?_
        refine A_iinc (pc := 80) (v := (nI (b + 1))) (lv' := [_, _]) hX dX12_town_80 rfl (nI_succ b).symm rfl rfl ?_
        refine A_goto (pc := 83) 24 hX dX12_town_83 rfl ?_
        rw [hbc]
        refine ih (b + 1) _ _ _ _ _ (by omega) (by omega) (by repeat (first | exact Fr.rf | refine Fr.set ?_ (by omega) (by omega) | refine Fr.tr ?_ (Fr.wd (by assumption) (by omega) (by omega)))) (by repeat (first | assumption | exact aSet_s | exact aNew_s | refine lk_n ?_ (by omega) | refine lk_f (by assumption) ?_ (by omega) | refine lk_w ?_ (by omega))) (by repeat (first | assumption | exact aSet_s | exact aNew_s | refine lk_n ?_ (by omega) | refine lk_f (by assumption) ?_ (by omega) | refine lk_w ?_ (by omega))) (by repeat (first | assumption | exact aSet_s | exact aNew_s | refine lk_n ?_ (by omega) | refine lk_f (by assumption) ?_ (by omega) | refine lk_w ?_ (by omega))) (by repeat (first | assumption | exact aSet_s | exact aNew_s | refine lk_n ?_ (by omega) | refine lk_f (by assumption) ?_ (by omega) | refine lk_w ?_ (by omega))) (fun i hi => ?_)
        by_cases e : i = b
        · subst e
          simp only [upd, if_pos]
          refine ⟨?_, ?_, ?_, ?_⟩ <;> first | rfl | trivial
        · simp only [upd, if_neg e]; exact hx i (by omega)
  · have hT := bI_f c8
    refine A_bipush (pc := 11) (v := (-103)) (by decide) hX dX12_town_11 ?_
    refine A_iret (pc := 13) hX hR dX12_town_13 rfl rfl ?_
    rw [show stTown len cd nb B nt dy hI tw = _ from if_neg hT]
    exact ⟨_, rfl, rfl, ⟨_, _, _, hk, sn, hd, kt, h1, ((ha.fr fa1 (by omega)).fr fb1 (by omega)), ((ht.fr fa1 (by omega)).fr fb1 (by omega)), ((hp.fr fa1 (by omega)).fr fb1 (by omega)), hn1, ((hs1.fr fa1 (by omega)).fr fb1 (by omega)), ((hkp.fr fa1 (by omega)).fr fb1 (by omega)), hI1, hI2⟩, (by repeat (first | exact Fr.rf | refine Fr.set ?_ (by omega) (by omega) | refine Fr.tr ?_ (Fr.wd (by assumption) (by omega) (by omega))))⟩
set_option maxRecDepth 100000 in
set_option maxHeartbeats 1000000 in
theorem ct_imageM (l : Launch) (G : aG) {m len nb nt kn tw hn : Nat} {cd : Nat → Nat} {B : BorT} {dy kd : Int32} {V KV : ThT} {hI : Bool} {σ : aS} (hM : RM G m len cd nb B nt dy V hI kn kd KV tw hn σ) : ACt l G yX12_image cX12_image 2 (some .int) 0 0 0 [.ref m] σ (iP (fun v σ' => v = (stImage nb nt dy V hI kn kd KV).1 ∧ RM G m len cd nb B nt dy V (stImage nb nt dy V hI kn kd KV).2.1 (stImage nb nt dy V hI kn kd KV).2.2.1 (stImage nb nt dy V hI kn kd KV).2.2.2.1 (stImage nb nt dy V hI kn kd KV).2.2.2.2 tw hn σ' ∧ Fr m (m + 23) σ σ')) := by
  obtain ⟨fa, nm, wh, hk, sn, hd, kt, ho, ha, ht, hp, hn1, hs1, hkp, hI1, hI2⟩ := id hM
  have hnb := ha.1
  obtain ⟨gs, gw, gl, gr, t1, t2, t3, t4, hnt, hv⟩ := id ht
  obtain ⟨ks, kw, kl, kr, k1, k2, k3, k4, hkn, hkv⟩ := id hkp
  refine ACt.intro (own := RX12) (nm := "image") mk_X12_image rfl rfl [some (.ref m), none] rfl (Nat.le_of_ble_eq_true rfl) (fun X hX hR => ?_)
  refine A_aload_n (pc := 0) rfl hX dX12_image_0 ?_
  refine A_getf (pc := 1) hX fl_X12_103_12 dX12_image_1 (by repeat (first | assumption | exact aSet_s | exact aNew_s | refine lk_n ?_ (by omega) | refine lk_f (by assumption) ?_ (by omega) | refine lk_w ?_ (by omega))) (by exact rfl) ?_
  refine A_if_ne (pc := 4) 10 hX dX12_image_4 rfl (fun c4 => ?_) (fun c4 => ?_)
  · have hz : ¬ nb = 0 := fun q => c4 (by rw [q]; rfl)
    refine A_aload_n (pc := 10) rfl hX dX12_image_10 ?_
    refine A_iconst (pc := 11) (v := (nI 1)) (by decide) hX dX12_image_11 ?_
    refine A_putf (pc := 12) (fs' := [_, _, _, _, _, _, _, _, _, _, _, _, _, _, _, _, _, _, _, _, _, _, _, _, _, _, _, _, _, _, _, _, _, _, _, _, _]) hX pl_X12_216_12 dX12_image_12 (by repeat (first | assumption | exact aSet_s | exact aNew_s | refine lk_n ?_ (by omega) | refine lk_f (by assumption) ?_ (by omega) | refine lk_w ?_ (by omega))) (by exact Nat.le_of_ble_eq_true rfl) (by exact rfl) (bI_z true) (bI_fit true) ?_
    refine A_aload_n (pc := 15) rfl hX dX12_image_15 ?_
    refine A_aload_n (pc := 16) rfl hX dX12_image_16 ?_
    refine A_getf (pc := 17) hX fl_X12_112_12 dX12_image_17 (by repeat (first | assumption | exact aSet_s | exact aNew_s | refine lk_n ?_ (by omega) | refine lk_f (by assumption) ?_ (by omega) | refine lk_w ?_ (by omega))) (by exact rfl) ?_
    refine A_putf (pc := 20) (fs' := [_, _, _, _, _, _, _, _, _, _, _, _, _, _, _, _, _, _, _, _, _, _, _, _, _, _, _, _, _, _, _, _, _, _, _, _, _]) hX pl_X12_219_12 dX12_image_20 (by repeat (first | assumption | exact aSet_s | exact aNew_s | refine lk_n ?_ (by omega) | refine lk_f (by assumption) ?_ (by omega) | refine lk_w ?_ (by omega))) (by exact Nat.le_of_ble_eq_true rfl) (by exact rfl) rfl rfl ?_
    refine A_aload_n (pc := 23) rfl hX dX12_image_23 ?_
    refine A_aload_n (pc := 24) rfl hX dX12_image_24 ?_
    refine A_getf (pc := 25) hX fl_X12_115_12 dX12_image_25 (by repeat (first | assumption | exact aSet_s | exact aNew_s | refine lk_n ?_ (by omega) | refine lk_f (by assumption) ?_ (by omega) | refine lk_w ?_ (by omega))) (by exact rfl) ?_
    refine A_putf (pc := 28) (fs' := [_, _, _, _, _, _, _, _, _, _, _, _, _, _, _, _, _, _, _, _, _, _, _, _, _, _, _, _, _, _, _, _, _, _, _, _, _]) hX pl_X12_222_12 dX12_image_28 (by repeat (first | assumption | exact aSet_s | exact aNew_s | refine lk_n ?_ (by omega) | refine lk_f (by assumption) ?_ (by omega) | refine lk_w ?_ (by omega))) (by exact Nat.le_of_ble_eq_true rfl) (by exact rfl) rfl rfl ?_
    refine A_aload_n (pc := 31) rfl hX dX12_image_31 ?_
    refine A_aload_n (pc := 32) rfl hX dX12_image_32 ?_
    refine A_getf (pc := 33) hX fl_X12_118_12 dX12_image_33 (by repeat (first | assumption | exact aSet_s | exact aNew_s | refine lk_n ?_ (by omega) | refine lk_f (by assumption) ?_ (by omega) | refine lk_w ?_ (by omega))) (by exact rfl) ?_
    refine A_putf (pc := 36) (fs' := [_, _, _, _, _, _, _, _, _, _, _, _, _, _, _, _, _, _, _, _, _, _, _, _, _, _, _, _, _, _, _, _, _, _, _, _, _]) hX pl_X12_225_12 dX12_image_36 (by repeat (first | assumption | exact aSet_s | exact aNew_s | refine lk_n ?_ (by omega) | refine lk_f (by assumption) ?_ (by omega) | refine lk_w ?_ (by omega))) (by exact Nat.le_of_ble_eq_true rfl) (by exact rfl) rfl rfl ?_
    refine A_gen (fun z => (z.2 m = some (oM m (tw) (nb) (nt) (dy) (hn) (len) (fa) (wh) (nm) (sn) (true) (tw) (nt) (dy) (hd))) ∧ Fr (m) (m + 1) σ z) ⟨aSet_s, ((((Fr.rf.set (by omega) (by omega)).set (by omega) (by omega)).set (by omega) (by omega)).set (by omega) (by omega))⟩ (fun σ39 hg => ?_)
    obtain ⟨h39, f39⟩ := hg
    refine A_iconst (pc := 39) (v := (nI 0)) (by decide) hX dX12_image_39 ?_
    refine A_istore_n (pc := 40) (lv' := [_, _]) hX dX12_image_40 (Nat.le_of_ble_eq_true rfl) rfl rfl ?_
    suffices hl : ∀ (q i : Nat) (σ2 : aS) (a1 a2 a3 a4 : Nat → Int32), i ≤ 4 → 4 - i = q → Fr (m + 19) (m + 23) σ39 σ2 → σ2.2 (m + 19) = some (aI G 4 a1) → σ2.2 (m + 20) = some (aI G 4 a2) → σ2.2 (m + 21) = some (aI G 4 a3) → σ2.2 (m + 22) = some (aI G 4 a4) → (∀ j, j < i → a1 j = gs j ∧ a2 j = gw j ∧ a3 j = gl j ∧ a4 j = gr j) → AA G X 0 0 41 [some (.ref m), some (.int (nI i))] [] σ2 from hl 4 0 σ39 ks kw kl kr (Nat.zero_le _) rfl Fr.rf (lk_f f39 k1 (by omega)) (lk_f f39 k2 (by omega)) (lk_f f39 k3 (by omega)) (lk_f f39 k4 (by omega)) (fun j hj => absurd hj (Nat.not_lt_zero j))
    intro q
    induction q with
    | zero =>
      intro i σ2 a1 a2 a3 a4 hi hq hF x1 x2 x3 x4 hx
      have e : 4 = i := by omega
      subst e
      have q0 := lk_f hF h39 (by omega)
      refine A_iload_n (pc := 41) rfl hX dX12_image_41 ?_
      refine A_iconst (pc := 42) (v := (nI 4)) (by decide) hX dX12_image_42 ?_
      refine A_icmp_ge (pc := 43) 100 hX dX12_image_43 rfl (fun c43 => ?_) (fun c43 => ?_)
      · refine A_aload_n (pc := 100) rfl hX dX12_image_100 ?_
        refine A_getf (pc := 101) hX fl_X12_118_12 dX12_image_101 (by repeat (first | assumption | exact aSet_s | exact aNew_s | refine lk_n ?_ (by omega) | refine lk_f (by assumption) ?_ (by omega) | refine lk_w ?_ (by omega))) (by exact rfl) ?_
        refine A_iret (pc := 104) hX hR dX12_image_104 rfl rfl ?_
        rw [show stImage nb nt dy V hI kn kd KV = _ from if_neg hz]
        exact ⟨_, rfl, rfl, (show RM G m len cd nb B nt dy V true nt dy V tw hn _ from ⟨fa, nm, wh, true, sn, hd, tw, q0, ((ha.fr f39 (by omega)).fr hF (by omega)), ((ht.fr f39 (by omega)).fr hF (by omega)), ((hp.fr f39 (by omega)).fr hF (by omega)), ((hn1.fr f39 (by omega)).fr hF (by omega)), ((hs1.fr f39 (by omega)).fr hF (by omega)), ⟨a1, a2, a3, a4, x1, x2, x3, x4, hnt, fun j hj => by
          obtain ⟨u1, u2, u3, u4⟩ := hx j (by omega)
          rw [u1, u2, u3, u4]; exact hv j hj⟩, ⟨fun _ => ⟨rfl, rfl⟩, fun _ => rfl⟩, Nat.le_refl _⟩), (by repeat (first | exact Fr.rf | refine Fr.set ?_ (by omega) (by omega) | refine Fr.tr ?_ (Fr.wd (by assumption) (by omega) (by omega))))⟩
      · exact absurd (by decide) c43
    | succ q ih =>
      intro i σ2 a1 a2 a3 a4 hi hq hF x1 x2 x3 x4 hx
      have hil : i < 4 := by omega
      have hic := nI_clamp (n := i) (by omega)
      have q0 := lk_f hF h39 (by omega)
      have y1 := lk_f hF (lk_f f39 t1 (by omega)) (by omega)
      have y2 := lk_f hF (lk_f f39 t2 (by omega)) (by omega)
      have y3 := lk_f hF (lk_f f39 t3 (by omega)) (by omega)
      have y4 := lk_f hF (lk_f f39 t4 (by omega)) (by omega)
      refine A_iload_n (pc := 41) rfl hX dX12_image_41 ?_
      refine A_iconst (pc := 42) (v := (nI 4)) (by decide) hX dX12_image_42 ?_
      refine A_icmp_ge (pc := 43) 100 hX dX12_image_43 rfl (fun c43 => ?_) (fun c43 => ?_)
      · exact absurd c43 (nI_ge hil (by decide))
      · refine A_aload_n (pc := 46) rfl hX dX12_image_46 ?_
        refine A_getf (pc := 47) hX fl_X12_65_12 dX12_image_47 (by repeat (first | assumption | exact aSet_s | exact aNew_s | refine lk_n ?_ (by omega) | refine lk_f (by assumption) ?_ (by omega) | refine lk_w ?_ (by omega))) (by exact rfl) ?_
        refine A_iload_n (pc := 50) rfl hX dX12_image_50 ?_
        refine A_aload_n (pc := 51) rfl hX dX12_image_51 ?_
        refine A_getf (pc := 52) hX fl_X12_22_12 dX12_image_52 (by repeat (first | assumption | exact aSet_s | exact aNew_s | refine lk_n ?_ (by omega) | refine lk_f (by assumption) ?_ (by omega) | refine lk_w ?_ (by omega))) (by exact rfl) ?_
        refine A_iload_n (pc := 55) rfl hX dX12_image_55 ?_
        refine A_iald (pc := 56) hX dX12_image_56 (by repeat (first | assumption | exact aSet_s | exact aNew_s | refine lk_n ?_ (by omega) | refine lk_f (by assumption) ?_ (by omega) | refine lk_w ?_ (by omega))) (vp_in_nI (by omega) (by decide)) ?_
        refine A_top (y := gs i) (by rw [hic]) ?_
        refine A_iast (pc := 57) hX dX12_image_57 (by repeat (first | assumption | exact aSet_s | exact aNew_s | refine lk_n ?_ (by omega) | refine lk_f (by assumption) ?_ (by omega) | refine lk_w ?_ (by omega))) (vp_in_nI (by omega) (by decide)) ?_
        refine A_aload_n (pc := 58) rfl hX dX12_image_58 ?_
        refine A_getf (pc := 59) hX fl_X12_68_12 dX12_image_59 (by repeat (first | assumption | exact aSet_s | exact aNew_s | refine lk_n ?_ (by omega) | refine lk_f (by assumption) ?_ (by omega) | refine lk_w ?_ (by omega))) (by exact rfl) ?_
        refine A_iload_n (pc := 62) rfl hX dX12_image_62 ?_
        refine A_aload_n (pc := 63) rfl hX dX12_image_63 ?_
        refine A_getf (pc := 64) hX fl_X12_25_12 dX12_image_64 (by repeat (first | assumption | exact aSet_s | exact aNew_s | refine lk_n ?_ (by omega) | refine lk_f (by assumption) ?_ (by omega) | refine lk_w ?_ (by omega))) (by exact rfl) ?_
        refine A_iload_n (pc := 67) rfl hX dX12_image_67 ?_
        refine A_iald (pc := 68) hX dX12_image_68 (by repeat (first | assumption | exact aSet_s | exact aNew_s | refine lk_n ?_ (by omega) | refine lk_f (by assumption) ?_ (by omega) | refine lk_w ?_ (by omega))) (vp_in_nI (by omega) (by decide)) ?_
        refine A_top (y := gw i) (by rw [hic]) ?_
        refine A_iast (pc := 69) hX dX12_image_69 (by repeat (first | assumption | exact aSet_s | exact aNew_s | refine lk_n ?_ (by omega) | refine lk_f (by assumption) ?_ (by omega) | refine lk_w ?_ (by omega))) (vp_in_nI (by omega) (by decide)) ?_
        refine A_aload_n (pc := 70) rfl hX dX12_image_70 ?_
        refine A_getf (pc := 71) hX fl_X12_71_12 dX12_image_71 (by repeat (first | assumption | exact aSet_s | exact aNew_s | refine lk_n ?_ (by omega) | refine lk_f (by assumption) ?_ (by omega) | refine lk_w ?_ (by omega))) (by exact rfl) ?_
        refine A_iload_n (pc := 74) rfl hX dX12_image_74 ?_
        refine A_aload_n (pc := 75) rfl hX dX12_image_75 ?_
        refine A_getf (pc := 76) hX fl_X12_28_12 dX12_image_76 (by repeat (first | assumption | exact aSet_s | exact aNew_s | refine lk_n ?_ (by omega) | refine lk_f (by assumption) ?_ (by omega) | refine lk_w ?_ (by omega))) (by exact rfl) ?_
        refine A_iload_n (pc := 79) rfl hX dX12_image_79 ?_
        refine A_iald (pc := 80) hX dX12_image_80 (by repeat (first | assumption | exact aSet_s | exact aNew_s | refine lk_n ?_ (by omega) | refine lk_f (by assumption) ?_ (by omega) | refine lk_w ?_ (by omega))) (vp_in_nI (by omega) (by decide)) ?_
        refine A_top (y := gl i) (by rw [hic]) ?_
        refine A_iast (pc := 81) hX dX12_image_81 (by repeat (first | assumption | exact aSet_s | exact aNew_s | refine lk_n ?_ (by omega) | refine lk_f (by assumption) ?_ (by omega) | refine lk_w ?_ (by omega))) (vp_in_nI (by omega) (by decide)) ?_
        refine A_aload_n (pc := 82) rfl hX dX12_image_82 ?_
        refine A_getf (pc := 83) hX fl_X12_74_12 dX12_image_83 (by repeat (first | assumption | exact aSet_s | exact aNew_s | refine lk_n ?_ (by omega) | refine lk_f (by assumption) ?_ (by omega) | refine lk_w ?_ (by omega))) (by exact rfl) ?_
        refine A_iload_n (pc := 86) rfl hX dX12_image_86 ?_
        refine A_aload_n (pc := 87) rfl hX dX12_image_87 ?_
        refine A_getf (pc := 88) hX fl_X12_31_12 dX12_image_88 (by repeat (first | assumption | exact aSet_s | exact aNew_s | refine lk_n ?_ (by omega) | refine lk_f (by assumption) ?_ (by omega) | refine lk_w ?_ (by omega))) (by exact rfl) ?_
        refine A_iload_n (pc := 91) rfl hX dX12_image_91 ?_
        refine A_iald (pc := 92) hX dX12_image_92 (by repeat (first | assumption | exact aSet_s | exact aNew_s | refine lk_n ?_ (by omega) | refine lk_f (by assumption) ?_ (by omega) | refine lk_w ?_ (by omega))) (vp_in_nI (by omega) (by decide)) ?_
        refine A_top (y := gr i) (by rw [hic]) ?_
        refine A_iast (pc := 93) hX dX12_image_93 (by repeat (first | assumption | exact aSet_s | exact aNew_s | refine lk_n ?_ (by omega) | refine lk_f (by assumption) ?_ (by omega) | refine lk_w ?_ (by omega))) (vp_in_nI (by omega) (by decide)) ?_
        refine A_iinc (pc := 94) (v := (nI (i + 1))) (lv' := [_, _]) hX dX12_image_94 rfl (nI_succ i).symm rfl rfl ?_
        refine A_goto (pc := 97) 41 hX dX12_image_97 rfl ?_
        rw [hic]
        refine ih (i + 1) _ _ _ _ _ (by omega) (by omega) (by repeat (first | exact Fr.rf | refine Fr.set ?_ (by omega) (by omega) | refine Fr.tr ?_ (Fr.wd (by assumption) (by omega) (by omega)))) (by repeat (first | assumption | exact aSet_s | exact aNew_s | refine lk_n ?_ (by omega) | refine lk_f (by assumption) ?_ (by omega) | refine lk_w ?_ (by omega))) (by repeat (first | assumption | exact aSet_s | exact aNew_s | refine lk_n ?_ (by omega) | refine lk_f (by assumption) ?_ (by omega) | refine lk_w ?_ (by omega))) (by repeat (first | assumption | exact aSet_s | exact aNew_s | refine lk_n ?_ (by omega) | refine lk_f (by assumption) ?_ (by omega) | refine lk_w ?_ (by omega))) (by repeat (first | assumption | exact aSet_s | exact aNew_s | refine lk_n ?_ (by omega) | refine lk_f (by assumption) ?_ (by omega) | refine lk_w ?_ (by omega))) (fun j hj => ?_)
        by_cases e : j = i
        · subst e
          simp only [upd, if_pos]
          refine ⟨?_, ?_, ?_, ?_⟩ <;> first | rfl | trivial
        · simp only [upd, if_neg e]; exact hx j (by omega)
  · have hz := (nI_eq (b := 0) (by omega) (by decide)).mp c4
    refine A_bipush (pc := 7) (v := (-103)) (by decide) hX dX12_image_7 ?_
    refine A_iret (pc := 9) hX hR dX12_image_9 rfl rfl ?_
    rw [show stImage nb nt dy V hI kn kd KV = _ from if_pos hz]
    exact ⟨_, rfl, rfl, hM, Fr.rf⟩
set_option maxRecDepth 100000 in
set_option maxHeartbeats 1000000 in
theorem ct_restoreM (l : Launch) (G : aG) {m len nb nt kn tw hn : Nat} {cd : Nat → Nat} {B : BorT} {dy kd : Int32} {V KV : ThT} {hI : Bool} {σ : aS} (hM : RM G m len cd nb B nt dy V hI kn kd KV tw hn σ) (htw : tw < 2 ^ 31) : ACt l G yX12_restore cX12_restore 2 (some .int) 0 0 0 [.ref m] σ (iP (fun v σ' => v = (stRestore nt dy V hI kn kd KV).1 ∧ RM G m len cd nb B (stRestore nt dy V hI kn kd KV).2.1 (stRestore nt dy V hI kn kd KV).2.2.1 (stRestore nt dy V hI kn kd KV).2.2.2 hI kn kd KV tw hn σ' ∧ Fr m (m + 23) σ σ')) := by
  obtain ⟨fa, nm, wh, hk, sn, hd, kt, ho, ha, ht, hp, hn1, hs1, hkp, hI1, hI2⟩ := id hM
  have hnb := ha.1
  obtain ⟨gs, gw, gl, gr, t1, t2, t3, t4, hnt, hv⟩ := id ht
  obtain ⟨ks, kw, kl, kr, k1, k2, k3, k4, hkn, hkv⟩ := id hkp
  refine ACt.intro (own := RX12) (nm := "restore") mk_X12_restore rfl rfl [some (.ref m), none] rfl (Nat.le_of_ble_eq_true rfl) (fun X hX hR => ?_)
  refine A_aload_n (pc := 0) rfl hX dX12_restore_0 ?_
  refine A_getf (pc := 1) hX fl_X12_216_12 dX12_restore_1 (by repeat (first | assumption | exact aSet_s | exact aNew_s | refine lk_n ?_ (by omega) | refine lk_f (by assumption) ?_ (by omega) | refine lk_w ?_ (by omega))) (by exact rfl) ?_
  refine A_if_eq (pc := 4) 18 hX dX12_restore_4 rfl (fun c4 => ?_) (fun c4 => ?_)
  · refine A_bipush (pc := 18) (v := (-103)) (by decide) hX dX12_restore_18 ?_
    refine A_iret (pc := 20) hX hR dX12_restore_20 rfl rfl ?_
    rw [show stRestore nt dy V hI kn kd KV = _ from if_neg (fun q => bI_f c4 (hI1.mp q).1)]
    exact ⟨_, rfl, rfl, hM, Fr.rf⟩
  · refine A_aload_n (pc := 7) rfl hX dX12_restore_7 ?_
    refine A_getf (pc := 8) hX fl_X12_219_12 dX12_restore_8 (by repeat (first | assumption | exact aSet_s | exact aNew_s | refine lk_n ?_ (by omega) | refine lk_f (by assumption) ?_ (by omega) | refine lk_w ?_ (by omega))) (by exact rfl) ?_
    refine A_aload_n (pc := 11) rfl hX dX12_restore_11 ?_
    refine A_getf (pc := 12) hX fl_X12_112_12 dX12_restore_12 (by repeat (first | assumption | exact aSet_s | exact aNew_s | refine lk_n ?_ (by omega) | refine lk_f (by assumption) ?_ (by omega) | refine lk_w ?_ (by omega))) (by exact rfl) ?_
    refine A_icmp_eq (pc := 15) 21 hX dX12_restore_15 rfl (fun c15 => ?_) (fun c15 => ?_)
    · have hI3 : hI = true := hI1.mpr ⟨bI_ne c4, (nI_eq (by omega) htw).mp c15⟩
      refine A_aload_n (pc := 21) rfl hX dX12_restore_21 ?_
      refine A_aload_n (pc := 22) rfl hX dX12_restore_22 ?_
      refine A_getf (pc := 23) hX fl_X12_222_12 dX12_restore_23 (by repeat (first | assumption | exact aSet_s | exact aNew_s | refine lk_n ?_ (by omega) | refine lk_f (by assumption) ?_ (by omega) | refine lk_w ?_ (by omega))) (by exact rfl) ?_
      refine A_putf (pc := 26) (fs' := [_, _, _, _, _, _, _, _, _, _, _, _, _, _, _, _, _, _, _, _, _, _, _, _, _, _, _, _, _, _, _, _, _, _, _, _, _]) hX pl_X12_115_12 dX12_restore_26 (by repeat (first | assumption | exact aSet_s | exact aNew_s | refine lk_n ?_ (by omega) | refine lk_f (by assumption) ?_ (by omega) | refine lk_w ?_ (by omega))) (by exact Nat.le_of_ble_eq_true rfl) (by exact rfl) rfl rfl ?_
      refine A_aload_n (pc := 29) rfl hX dX12_restore_29 ?_
      refine A_aload_n (pc := 30) rfl hX dX12_restore_30 ?_
      refine A_getf (pc := 31) hX fl_X12_225_12 dX12_restore_31 (by repeat (first | assumption | exact aSet_s | exact aNew_s | refine lk_n ?_ (by omega) | refine lk_f (by assumption) ?_ (by omega) | refine lk_w ?_ (by omega))) (by exact rfl) ?_
      refine A_putf (pc := 34) (fs' := [_, _, _, _, _, _, _, _, _, _, _, _, _, _, _, _, _, _, _, _, _, _, _, _, _, _, _, _, _, _, _, _, _, _, _, _, _]) hX pl_X12_118_12 dX12_restore_34 (by repeat (first | assumption | exact aSet_s | exact aNew_s | refine lk_n ?_ (by omega) | refine lk_f (by assumption) ?_ (by omega) | refine lk_w ?_ (by omega))) (by exact Nat.le_of_ble_eq_true rfl) (by exact rfl) rfl rfl ?_
      refine A_gen (fun z => (z.2 m = some (oM m (tw) (nb) (kn) (kd) (hn) (len) (fa) (wh) (nm) (sn) (hk) (kt) (kn) (kd) (hd))) ∧ Fr (m) (m + 1) σ z) ⟨aSet_s, ((Fr.rf.set (by omega) (by omega)).set (by omega) (by omega))⟩ (fun σ37 hg => ?_)
      obtain ⟨h37, f37⟩ := hg
      refine A_iconst (pc := 37) (v := (nI 0)) (by decide) hX dX12_restore_37 ?_
      refine A_istore_n (pc := 38) (lv' := [_, _]) hX dX12_restore_38 (Nat.le_of_ble_eq_true rfl) rfl rfl ?_
      suffices hl : ∀ (q i : Nat) (σ2 : aS) (a1 a2 a3 a4 : Nat → Int32), i ≤ 4 → 4 - i = q → Fr (m + 5) (m + 9) σ37 σ2 → σ2.2 (m + 5) = some (aI G 4 a1) → σ2.2 (m + 5 + 1) = some (aI G 4 a2) → σ2.2 (m + 5 + 2) = some (aI G 4 a3) → σ2.2 (m + 5 + 3) = some (aI G 4 a4) → (∀ j, j < i → a1 j = ks j ∧ a2 j = kw j ∧ a3 j = kl j ∧ a4 j = kr j) → AA G X 0 0 39 [some (.ref m), some (.int (nI i))] [] σ2 from hl 4 0 σ37 gs gw gl gr (Nat.zero_le _) rfl Fr.rf (lk_f f37 t1 (by omega)) (lk_f f37 t2 (by omega)) (lk_f f37 t3 (by omega)) (lk_f f37 t4 (by omega)) (fun j hj => absurd hj (Nat.not_lt_zero j))
      intro q
      induction q with
      | zero =>
        intro i σ2 a1 a2 a3 a4 hi hq hF x1 x2 x3 x4 hx
        have e : 4 = i := by omega
        subst e
        have q0 := lk_f hF h37 (by omega)
        refine A_iload_n (pc := 39) rfl hX dX12_restore_39 ?_
        refine A_iconst (pc := 40) (v := (nI 4)) (by decide) hX dX12_restore_40 ?_
        refine A_icmp_ge (pc := 41) 98 hX dX12_restore_41 rfl (fun c41 => ?_) (fun c41 => ?_)
        · refine A_aload_n (pc := 98) rfl hX dX12_restore_98 ?_
          refine A_getf (pc := 99) hX fl_X12_118_12 dX12_restore_99 (by repeat (first | assumption | exact aSet_s | exact aNew_s | refine lk_n ?_ (by omega) | refine lk_f (by assumption) ?_ (by omega) | refine lk_w ?_ (by omega))) (by exact rfl) ?_
          refine A_iret (pc := 102) hX hR dX12_restore_102 rfl rfl ?_
          rw [show stRestore nt dy V hI kn kd KV = _ from if_pos hI3]
          exact ⟨_, rfl, rfl, (show RM G m len cd nb B kn kd KV hI kn kd KV tw hn _ from ⟨fa, nm, wh, hk, sn, hd, kt, q0, ((ha.fr f37 (by omega)).fr hF (by omega)), ⟨a1, a2, a3, a4, x1, x2, x3, x4, hkn, fun j hj => by
            obtain ⟨u1, u2, u3, u4⟩ := hx j (by omega)
            rw [u1, u2, u3, u4]; exact hkv j hj⟩, ((hp.fr f37 (by omega)).fr hF (by omega)), ((hn1.fr f37 (by omega)).fr hF (by omega)), ((hs1.fr f37 (by omega)).fr hF (by omega)), ((hkp.fr f37 (by omega)).fr hF (by omega)), hI1, hI2⟩), (by repeat (first | exact Fr.rf | refine Fr.set ?_ (by omega) (by omega) | refine Fr.tr ?_ (Fr.wd (by assumption) (by omega) (by omega))))⟩
        · exact absurd (by decide) c41
      | succ q ih =>
        intro i σ2 a1 a2 a3 a4 hi hq hF x1 x2 x3 x4 hx
        have hil : i < 4 := by omega
        have hic := nI_clamp (n := i) (by omega)
        have q0 := lk_f hF h37 (by omega)
        have y1 := lk_f hF (lk_f f37 k1 (by omega)) (by omega)
        have y2 := lk_f hF (lk_f f37 k2 (by omega)) (by omega)
        have y3 := lk_f hF (lk_f f37 k3 (by omega)) (by omega)
        have y4 := lk_f hF (lk_f f37 k4 (by omega)) (by omega)
        refine A_iload_n (pc := 39) rfl hX dX12_restore_39 ?_
        refine A_iconst (pc := 40) (v := (nI 4)) (by decide) hX dX12_restore_40 ?_
        refine A_icmp_ge (pc := 41) 98 hX dX12_restore_41 rfl (fun c41 => ?_) (fun c41 => ?_)
        · exact absurd c41 (nI_ge hil (by decide))
        · refine A_aload_n (pc := 44) rfl hX dX12_restore_44 ?_
          refine A_getf (pc := 45) hX fl_X12_22_12 dX12_restore_45 (by repeat (first | assumption | exact aSet_s | exact aNew_s | refine lk_n ?_ (by omega) | refine lk_f (by assumption) ?_ (by omega) | refine lk_w ?_ (by omega))) (by exact rfl) ?_
          refine A_iload_n (pc := 48) rfl hX dX12_restore_48 ?_
          refine A_aload_n (pc := 49) rfl hX dX12_restore_49 ?_
          refine A_getf (pc := 50) hX fl_X12_65_12 dX12_restore_50 (by repeat (first | assumption | exact aSet_s | exact aNew_s | refine lk_n ?_ (by omega) | refine lk_f (by assumption) ?_ (by omega) | refine lk_w ?_ (by omega))) (by exact rfl) ?_
          refine A_iload_n (pc := 53) rfl hX dX12_restore_53 ?_
          refine A_iald (pc := 54) hX dX12_restore_54 (by repeat (first | assumption | exact aSet_s | exact aNew_s | refine lk_n ?_ (by omega) | refine lk_f (by assumption) ?_ (by omega) | refine lk_w ?_ (by omega))) (vp_in_nI (by omega) (by decide)) ?_
          refine A_top (y := ks i) (by rw [hic]) ?_
          refine A_iast (pc := 55) hX dX12_restore_55 (by repeat (first | assumption | exact aSet_s | exact aNew_s | refine lk_n ?_ (by omega) | refine lk_f (by assumption) ?_ (by omega) | refine lk_w ?_ (by omega))) (vp_in_nI (by omega) (by decide)) ?_
          refine A_aload_n (pc := 56) rfl hX dX12_restore_56 ?_
          refine A_getf (pc := 57) hX fl_X12_25_12 dX12_restore_57 (by repeat (first | assumption | exact aSet_s | exact aNew_s | refine lk_n ?_ (by omega) | refine lk_f (by assumption) ?_ (by omega) | refine lk_w ?_ (by omega))) (by exact rfl) ?_
          refine A_iload_n (pc := 60) rfl hX dX12_restore_60 ?_
          refine A_aload_n (pc := 61) rfl hX dX12_restore_61 ?_
          refine A_getf (pc := 62) hX fl_X12_68_12 dX12_restore_62 (by repeat (first | assumption | exact aSet_s | exact aNew_s | refine lk_n ?_ (by omega) | refine lk_f (by assumption) ?_ (by omega) | refine lk_w ?_ (by omega))) (by exact rfl) ?_
          refine A_iload_n (pc := 65) rfl hX dX12_restore_65 ?_
          refine A_iald (pc := 66) hX dX12_restore_66 (by repeat (first | assumption | exact aSet_s | exact aNew_s | refine lk_n ?_ (by omega) | refine lk_f (by assumption) ?_ (by omega) | refine lk_w ?_ (by omega))) (vp_in_nI (by omega) (by decide)) ?_
          refine A_top (y := kw i) (by rw [hic]) ?_
          refine A_iast (pc := 67) hX dX12_restore_67 (by repeat (first | assumption | exact aSet_s | exact aNew_s | refine lk_n ?_ (by omega) | refine lk_f (by assumption) ?_ (by omega) | refine lk_w ?_ (by omega))) (vp_in_nI (by omega) (by decide)) ?_
          refine A_aload_n (pc := 68) rfl hX dX12_restore_68 ?_
          refine A_getf (pc := 69) hX fl_X12_28_12 dX12_restore_69 (by repeat (first | assumption | exact aSet_s | exact aNew_s | refine lk_n ?_ (by omega) | refine lk_f (by assumption) ?_ (by omega) | refine lk_w ?_ (by omega))) (by exact rfl) ?_
          refine A_iload_n (pc := 72) rfl hX dX12_restore_72 ?_
          refine A_aload_n (pc := 73) rfl hX dX12_restore_73 ?_
          refine A_getf (pc := 74) hX fl_X12_71_12 dX12_restore_74 (by repeat (first | assumption | exact aSet_s | exact aNew_s | refine lk_n ?_ (by omega) | refine lk_f (by assumption) ?_ (by omega) | refine lk_w ?_ (by omega))) (by exact rfl) ?_
          refine A_iload_n (pc := 77) rfl hX dX12_restore_77 ?_
          refine A_iald (pc := 78) hX dX12_restore_78 (by repeat (first | assumption | exact aSet_s | exact aNew_s | refine lk_n ?_ (by omega) | refine lk_f (by assumption) ?_ (by omega) | refine lk_w ?_ (by omega))) (vp_in_nI (by omega) (by decide)) ?_
          refine A_top (y := kl i) (by rw [hic]) ?_
          refine A_iast (pc := 79) hX dX12_restore_79 (by repeat (first | assumption | exact aSet_s | exact aNew_s | refine lk_n ?_ (by omega) | refine lk_f (by assumption) ?_ (by omega) | refine lk_w ?_ (by omega))) (vp_in_nI (by omega) (by decide)) ?_
          refine A_aload_n (pc := 80) rfl hX dX12_restore_80 ?_
          refine A_getf (pc := 81) hX fl_X12_31_12 dX12_restore_81 (by repeat (first | assumption | exact aSet_s | exact aNew_s | refine lk_n ?_ (by omega) | refine lk_f (by assumption) ?_ (by omega) | refine lk_w ?_ (by omega))) (by exact rfl) ?_
          refine A_iload_n (pc := 84) rfl hX dX12_restore_84 ?_
          refine A_aload_n (pc := 85) rfl hX dX12_restore_85 ?_
          refine A_getf (pc := 86) hX fl_X12_74_12 dX12_restore_86 (by repeat (first | assumption | exact aSet_s | exact aNew_s | refine lk_n ?_ (by omega) | refine lk_f (by assumption) ?_ (by omega) | refine lk_w ?_ (by omega))) (by exact rfl) ?_
          refine A_iload_n (pc := 89) rfl hX dX12_restore_89 ?_
          refine A_iald (pc := 90) hX dX12_restore_90 (by repeat (first | assumption | exact aSet_s | exact aNew_s | refine lk_n ?_ (by omega) | refine lk_f (by assumption) ?_ (by omega) | refine lk_w ?_ (by omega))) (vp_in_nI (by omega) (by decide)) ?_
          refine A_top (y := kr i) (by rw [hic]) ?_
          refine A_iast (pc := 91) hX dX12_restore_91 (by repeat (first | assumption | exact aSet_s | exact aNew_s | refine lk_n ?_ (by omega) | refine lk_f (by assumption) ?_ (by omega) | refine lk_w ?_ (by omega))) (vp_in_nI (by omega) (by decide)) ?_
          refine A_iinc (pc := 92) (v := (nI (i + 1))) (lv' := [_, _]) hX dX12_restore_92 rfl (nI_succ i).symm rfl rfl ?_
          refine A_goto (pc := 95) 39 hX dX12_restore_95 rfl ?_
          rw [hic]
          refine ih (i + 1) _ _ _ _ _ (by omega) (by omega) (by repeat (first | exact Fr.rf | refine Fr.set ?_ (by omega) (by omega) | refine Fr.tr ?_ (Fr.wd (by assumption) (by omega) (by omega)))) (by repeat (first | assumption | exact aSet_s | exact aNew_s | refine lk_n ?_ (by omega) | refine lk_f (by assumption) ?_ (by omega) | refine lk_w ?_ (by omega))) (by repeat (first | assumption | exact aSet_s | exact aNew_s | refine lk_n ?_ (by omega) | refine lk_f (by assumption) ?_ (by omega) | refine lk_w ?_ (by omega))) (by repeat (first | assumption | exact aSet_s | exact aNew_s | refine lk_n ?_ (by omega) | refine lk_f (by assumption) ?_ (by omega) | refine lk_w ?_ (by omega))) (by repeat (first | assumption | exact aSet_s | exact aNew_s | refine lk_n ?_ (by omega) | refine lk_f (by assumption) ?_ (by omega) | refine lk_w ?_ (by omega))) (fun j hj => ?_)
          by_cases e : j = i
          · subst e
            simp only [upd, if_pos]
            refine ⟨?_, ?_, ?_, ?_⟩ <;> first | rfl | trivial
          · simp only [upd, if_neg e]; exact hx j (by omega)
    · refine A_bipush (pc := 18) (v := (-103)) (by decide) hX dX12_restore_18 ?_
      refine A_iret (pc := 20) hX hR dX12_restore_20 rfl rfl ?_
      rw [show stRestore nt dy V hI kn kd KV = _ from if_neg (fun q => c15 (by rw [(hI1.mp q).2]))]
      exact ⟨_, rfl, rfl, hM, Fr.rf⟩
