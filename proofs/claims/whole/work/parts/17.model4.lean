set_option maxRecDepth 100000 in
set_option maxHeartbeats 1000000 in
theorem ct_dayM (l : Launch) (G : aG) {m len nb nt kn tw hn : Nat} {cd : Nat → Nat} {B : BorT} {dy kd : Int32} {V KV : ThT} {hI : Bool} {σ : aS} (hM : RM G m len cd nb B nt dy V hI kn kd KV tw hn σ) (hV : okV nb nt V) : ACt l G yX12_day cX12_day 3 (some .int) 3 0 0 [.ref m] σ (iP (fun v σ' => v = (stDay nb B nt dy V).1 ∧ RM G m len cd nb B nt (stDay nb B nt dy V).2.1 (stDay nb B nt dy V).2.2 hI kn kd KV tw hn σ' ∧ Fr m (m + 23) σ σ')) := by
  obtain ⟨fa, nm, wh, hk, sn, hd, kt, ho, ha, ht, hp, hn1, hs1, hkp, hI1, hI2⟩ := id hM
  obtain ⟨hnb, hok, _⟩ := id ha
  have hnt : nt ≤ 4 := by obtain ⟨_, _, _, _, _, _, _, _, q, _⟩ := id ht; exact q
  refine ACt.intro (own := RX12) (nm := "day") mk_X12_day rfl rfl [some (.ref m), none, none] rfl (Nat.le_of_ble_eq_true rfl) (fun X hX hR => ?_)
  refine A_aload_n (pc := 0) rfl hX dX12_day_0 ?_
  refine A_getf (pc := 1) hX fl_X12_103_12 dX12_day_1 (by repeat (first | assumption | exact aSet_s | exact aNew_s | refine lk_n ?_ (by omega) | refine lk_f (by assumption) ?_ (by omega) | refine lk_w ?_ (by omega))) (by exact rfl) ?_
  refine A_if_ne (pc := 4) 10 hX dX12_day_4 rfl (fun c4 => ?_) (fun c4 => ?_)
  · have hz : ¬ nb = 0 := fun q => c4 (by rw [q]; rfl)
    refine A_iconst (pc := 10) (v := (nI 0)) (by decide) hX dX12_day_10 ?_
    refine A_istore_n (pc := 11) (lv' := [_, _, _]) hX dX12_day_11 (Nat.le_of_ble_eq_true rfl) rfl rfl ?_
    refine A_iconst (pc := 12) (v := (nI 0)) (by decide) hX dX12_day_12 ?_
    refine A_istore_n (pc := 13) (lv' := [_, _, _]) hX dX12_day_13 (Nat.le_of_ble_eq_true rfl) rfl rfl ?_
    suffices hl : ∀ (q i : Nat) (σ1 : aS), i ≤ nt → nt - i = q → Fr (m + 5) (m + 9) σ σ1 → RMt G (m + 5) nt (fun k => if k < i then stepV B (V k) else V k) σ1 → AA G X 0 0 14 [some (.ref m), some (.int (nI (cntN (fun j => backV (V j)) i))), some (.int (nI i))] [] σ1 from by
      refine hl nt 0 σ (Nat.zero_le _) rfl Fr.rf ?_
      obtain ⟨gs, gw, gl, gr, t1, t2, t3, t4, _, hv⟩ := id ht
      exact ⟨gs, gw, gl, gr, t1, t2, t3, t4, hnt, fun k hk => by simp only [if_neg (Nat.not_lt_zero k)]; exact hv k hk⟩
    intro q
    induction q with
    | zero =>
      intro i σ1 hi hq hF hT
      have e : nt = i := by omega
      subst e
      have o1 := lk_f hF ho (by omega)
      refine A_iload_n (pc := 14) rfl hX dX12_day_14 ?_
      refine A_aload_n (pc := 15) rfl hX dX12_day_15 ?_
      refine A_getf (pc := 16) hX fl_X12_115_12 dX12_day_16 (by repeat (first | assumption | exact aSet_s | exact aNew_s | refine lk_n ?_ (by omega) | refine lk_f (by assumption) ?_ (by omega) | refine lk_w ?_ (by omega))) (by exact rfl) ?_
      refine A_icmp_ge (pc := 19) 102 hX dX12_day_19 rfl (fun c19 => ?_) (fun c19 => ?_)
      · refine A_aload_n (pc := 102) rfl hX dX12_day_102 ?_
        refine A_dup (pc := 103) rfl hX dX12_day_103 ?_
        refine A_getf (pc := 104) hX fl_X12_118_12 dX12_day_104 (by repeat (first | assumption | exact aSet_s | exact aNew_s | refine lk_n ?_ (by omega) | refine lk_f (by assumption) ?_ (by omega) | refine lk_w ?_ (by omega))) (by exact rfl) ?_
        refine A_iconst (pc := 107) (v := (nI 1)) (by decide) hX dX12_day_107 ?_
        refine A_iadd (pc := 108) hX dX12_day_108 ?_
        refine A_top (y := dy + 1) rfl ?_
        refine A_putf (pc := 109) (fs' := [_, _, _, _, _, _, _, _, _, _, _, _, _, _, _, _, _, _, _, _, _, _, _, _, _, _, _, _, _, _, _, _, _, _, _, _, _]) hX pl_X12_118_12 dX12_day_109 (by repeat (first | assumption | exact aSet_s | exact aNew_s | refine lk_n ?_ (by omega) | refine lk_f (by assumption) ?_ (by omega) | refine lk_w ?_ (by omega))) (by exact Nat.le_of_ble_eq_true rfl) (by exact rfl) rfl rfl ?_
        refine A_gen (fun z => (z.2 m = some (oM m (tw) (nb) (nt) (dy + 1) (hn) (len) (fa) (wh) (nm) (sn) (hk) (kt) (kn) (kd) (hd))) ∧ Fr (m) (m + 1) σ1 z) ⟨aSet_s, (Fr.rf.set (by omega) (by omega))⟩ (fun σ112 hg => ?_)
        obtain ⟨h112, f112⟩ := hg
        refine A_iload_n (pc := 112) rfl hX dX12_day_112 ?_
        refine A_iret (pc := 113) hX hR dX12_day_113 rfl rfl ?_
        rw [show stDay nb B nt dy V = _ from if_neg hz]
        exact ⟨_, rfl, rfl, (show RM G m len cd nb B nt (dy + 1) (fun i => stepV B (V i)) hI kn kd KV tw hn _ from ⟨fa, nm, wh, hk, sn, hd, kt, h112, ((ha.fr hF (by omega)).fr f112 (by omega)), (by obtain ⟨s1, s2, s3, s4, u1, u2, u3, u4, _, hv⟩ := hT.fr f112 (by omega); exact ⟨s1, s2, s3, s4, u1, u2, u3, u4, hnt, fun k hk => by have := hv k hk; simp only [if_pos hk] at this; exact this⟩), ((hp.fr hF (by omega)).fr f112 (by omega)), ((hn1.fr hF (by omega)).fr f112 (by omega)), ((hs1.fr hF (by omega)).fr f112 (by omega)), ((hkp.fr hF (by omega)).fr f112 (by omega)), hI1, hI2⟩), (by repeat (first | exact Fr.rf | refine Fr.set ?_ (by omega) (by omega) | refine Fr.tr ?_ (Fr.wd (by assumption) (by omega) (by omega))))⟩
      · exact absurd (nI_le (Nat.le_refl _) (by omega)) c19
    | succ q ih =>
      intro i σ1 hi hq hF hT
      have hil : i < nt := by omega
      have hic := nI_clamp (n := i) (by omega)
      have o1 := lk_f hF ho (by omega)
      obtain ⟨gs, gw, gl, gr, t1, t2, t3, t4, _, hv2⟩ := id hT
      have hvi := hv2 i hil
      simp only [if_neg (Nat.lt_irrefl i)] at hvi
      obtain ⟨w1, w2, w3, w4⟩ := hvi
      by_cases hL : (V i).2.1 = -1
      · have hst : stepV B (V i) = V i := by rw [stepV, if_pos hL]
        have hbk : backV (V i) = false := decide_eq_false (fun q => q.1 hL)
        have hcn : cntN (fun j => backV (V j)) (i + 1) = cntN (fun j => backV (V j)) i := by rw [cntN, if_neg (by rw [hbk]; decide)]; rfl
        refine A_iload_n (pc := 14) rfl hX dX12_day_14 ?_
        refine A_aload_n (pc := 15) rfl hX dX12_day_15 ?_
        refine A_getf (pc := 16) hX fl_X12_115_12 dX12_day_16 (by repeat (first | assumption | exact aSet_s | exact aNew_s | refine lk_n ?_ (by omega) | refine lk_f (by assumption) ?_ (by omega) | refine lk_w ?_ (by omega))) (by exact rfl) ?_
        refine A_icmp_ge (pc := 19) 102 hX dX12_day_19 rfl (fun c19 => ?_) (fun c19 => ?_)
        · exact absurd c19 (nI_ge hil (by omega))
        · refine A_aload_n (pc := 22) rfl hX dX12_day_22 ?_
          refine A_getf (pc := 23) hX fl_X12_28_12 dX12_day_23 (by repeat (first | assumption | exact aSet_s | exact aNew_s | refine lk_n ?_ (by omega) | refine lk_f (by assumption) ?_ (by omega) | refine lk_w ?_ (by omega))) (by exact rfl) ?_
          refine A_iload_n (pc := 26) rfl hX dX12_day_26 ?_
          refine A_dup2 (pc := 27) rfl rfl hX dX12_day_27 ?_
          refine A_iald (pc := 28) hX dX12_day_28 (by repeat (first | assumption | exact aSet_s | exact aNew_s | refine lk_n ?_ (by omega) | refine lk_f (by assumption) ?_ (by omega) | refine lk_w ?_ (by omega))) (vp_in_nI (by omega) (by decide)) ?_
          refine A_top (y := (V i).2.2.1) (by rw [hic]; exact w3) ?_
          refine A_aload_n (pc := 29) rfl hX dX12_day_29 ?_
          refine A_getf (pc := 30) hX fl_X12_25_12 dX12_day_30 (by repeat (first | assumption | exact aSet_s | exact aNew_s | refine lk_n ?_ (by omega) | refine lk_f (by assumption) ?_ (by omega) | refine lk_w ?_ (by omega))) (by exact rfl) ?_
          refine A_iload_n (pc := 33) rfl hX dX12_day_33 ?_
          refine A_iald (pc := 34) hX dX12_day_34 (by repeat (first | assumption | exact aSet_s | exact aNew_s | refine lk_n ?_ (by omega) | refine lk_f (by assumption) ?_ (by omega) | refine lk_w ?_ (by omega))) (vp_in_nI (by omega) (by decide)) ?_
          refine A_top (y := (V i).2.1) (by rw [hic]; exact w2) ?_
          refine A_iconst (pc := 35) (v := (-1)) (by decide) hX dX12_day_35 ?_
          refine A_icmp_ne (pc := 36) 43 hX dX12_day_36 rfl (fun c36 => ?_) (fun c36 => ?_)
          · exact absurd hL c36
          · refine A_iconst (pc := 39) (v := (nI 0)) (by decide) hX dX12_day_39 ?_
            refine A_goto (pc := 40) 44 hX dX12_day_40 rfl ?_
            refine A_isub (pc := 44) hX dX12_day_44 ?_
            refine A_top (y := (V i).2.2.1) (by rw [nI_0, Int32.sub_zero]) ?_
            refine A_iast (pc := 45) hX dX12_day_45 (by repeat (first | assumption | exact aSet_s | exact aNew_s | refine lk_n ?_ (by omega) | refine lk_f (by assumption) ?_ (by omega) | refine lk_w ?_ (by omega))) (vp_in_nI (by omega) (by decide)) ?_
            refine A_gen (fun z => (RMt G (m + 5) nt (fun k => if k < (i + 1) then stepV B (V k) else V k) z) ∧ Fr (m + 5) (m + 9) σ1 z) ⟨⟨_, _, _, _, (by repeat (first | assumption | exact aSet_s | exact aNew_s | refine lk_n ?_ (by omega) | refine lk_f (by assumption) ?_ (by omega) | refine lk_w ?_ (by omega))), (by repeat (first | assumption | exact aSet_s | exact aNew_s | refine lk_n ?_ (by omega) | refine lk_f (by assumption) ?_ (by omega) | refine lk_w ?_ (by omega))), (by repeat (first | assumption | exact aSet_s | exact aNew_s | refine lk_n ?_ (by omega) | refine lk_f (by assumption) ?_ (by omega) | refine lk_w ?_ (by omega))), (by repeat (first | assumption | exact aSet_s | exact aNew_s | refine lk_n ?_ (by omega) | refine lk_f (by assumption) ?_ (by omega) | refine lk_w ?_ (by omega))), hnt, fun k hk => by
              have hvk := hv2 k hk
              simp only [hic]
              by_cases e : k = i
              · subst e
                rw [if_pos (Nat.lt_succ_self k), hst]
                simp only [upd, if_pos]
                refine ⟨?_, ?_, ?_, ?_⟩ <;> first | rfl | trivial | exact w1 | exact w2 | exact w4
              · simp only [upd, if_neg e] at hvk ⊢
                by_cases e2 : k < i
                · rw [if_pos e2] at hvk; rw [if_pos (show k < i + 1 by omega)]; exact hvk
                · rw [if_neg e2] at hvk; rw [if_neg (show ¬ k < i + 1 by omega)]; exact hvk⟩, (Fr.rf.set (by omega) (by omega))⟩ (fun σ46 hg => ?_)
            obtain ⟨h46, f46⟩ := hg
            have o46 := lk_f f46 o1 (by omega)
            obtain ⟨ys, yw, yl, yr, s1, s2, s3, s4, _, yv⟩ := id h46
            have y2 := (yv i hil).2.1
            simp only [if_pos (Nat.lt_succ_self i), hst] at y2
            refine A_aload_n (pc := 46) rfl hX dX12_day_46 ?_
            refine A_getf (pc := 47) hX fl_X12_25_12 dX12_day_47 (by repeat (first | assumption | exact aSet_s | exact aNew_s | refine lk_n ?_ (by omega) | refine lk_f (by assumption) ?_ (by omega) | refine lk_w ?_ (by omega))) (by exact rfl) ?_
            refine A_iload_n (pc := 50) rfl hX dX12_day_50 ?_
            refine A_iald (pc := 51) hX dX12_day_51 (by repeat (first | assumption | exact aSet_s | exact aNew_s | refine lk_n ?_ (by omega) | refine lk_f (by assumption) ?_ (by omega) | refine lk_w ?_ (by omega))) (vp_in_nI (by omega) (by decide)) ?_
            refine A_top (y := (V i).2.1) (by rw [hic]; exact y2) ?_
            refine A_iconst (pc := 52) (v := (-1)) (by decide) hX dX12_day_52 ?_
            refine A_icmp_eq (pc := 53) 96 hX dX12_day_53 rfl (fun c53 => ?_) (fun c53 => ?_)
            · refine A_iinc (pc := 96) (v := (nI (i + 1))) (lv' := [_, _, _]) hX dX12_day_96 rfl (nI_succ i).symm rfl rfl ?_
              refine A_goto (pc := 99) 14 hX dX12_day_99 rfl ?_
              rw [← hcn]
              exact ih (i + 1) σ46 (by omega) (by omega) (hF.tr f46) h46
            · exact absurd hL c53
      · have hok2 : okV nb nt (fun k => if k = i then ((V i).1, (V i).2.1, (V i).2.2.1 - 1, (V i).2.2.2) else if k < i then stepV B (V k) else V k) := by
          intro k hk
          by_cases e : k = i
          · subst e; simp only [if_pos]; exact hV k hk
          · simp only [if_neg e]
            by_cases e2 : k < i
            · rw [if_pos e2]; exact stepV_ok hok hnb hV hk
            · rw [if_neg e2]; exact hV k hk
        refine A_iload_n (pc := 14) rfl hX dX12_day_14 ?_
        refine A_aload_n (pc := 15) rfl hX dX12_day_15 ?_
        refine A_getf (pc := 16) hX fl_X12_115_12 dX12_day_16 (by repeat (first | assumption | exact aSet_s | exact aNew_s | refine lk_n ?_ (by omega) | refine lk_f (by assumption) ?_ (by omega) | refine lk_w ?_ (by omega))) (by exact rfl) ?_
        refine A_icmp_ge (pc := 19) 102 hX dX12_day_19 rfl (fun c19 => ?_) (fun c19 => ?_)
        · exact absurd c19 (nI_ge hil (by omega))
        · refine A_aload_n (pc := 22) rfl hX dX12_day_22 ?_
          refine A_getf (pc := 23) hX fl_X12_28_12 dX12_day_23 (by repeat (first | assumption | exact aSet_s | exact aNew_s | refine lk_n ?_ (by omega) | refine lk_f (by assumption) ?_ (by omega) | refine lk_w ?_ (by omega))) (by exact rfl) ?_
          refine A_iload_n (pc := 26) rfl hX dX12_day_26 ?_
          refine A_dup2 (pc := 27) rfl rfl hX dX12_day_27 ?_
          refine A_iald (pc := 28) hX dX12_day_28 (by repeat (first | assumption | exact aSet_s | exact aNew_s | refine lk_n ?_ (by omega) | refine lk_f (by assumption) ?_ (by omega) | refine lk_w ?_ (by omega))) (vp_in_nI (by omega) (by decide)) ?_
          refine A_top (y := (V i).2.2.1) (by rw [hic]; exact w3) ?_
          refine A_aload_n (pc := 29) rfl hX dX12_day_29 ?_
          refine A_getf (pc := 30) hX fl_X12_25_12 dX12_day_30 (by repeat (first | assumption | exact aSet_s | exact aNew_s | refine lk_n ?_ (by omega) | refine lk_f (by assumption) ?_ (by omega) | refine lk_w ?_ (by omega))) (by exact rfl) ?_
          refine A_iload_n (pc := 33) rfl hX dX12_day_33 ?_
          refine A_iald (pc := 34) hX dX12_day_34 (by repeat (first | assumption | exact aSet_s | exact aNew_s | refine lk_n ?_ (by omega) | refine lk_f (by assumption) ?_ (by omega) | refine lk_w ?_ (by omega))) (vp_in_nI (by omega) (by decide)) ?_
          refine A_top (y := (V i).2.1) (by rw [hic]; exact w2) ?_
          refine A_iconst (pc := 35) (v := (-1)) (by decide) hX dX12_day_35 ?_
          refine A_icmp_ne (pc := 36) 43 hX dX12_day_36 rfl (fun c36 => ?_) (fun c36 => ?_)
          · refine A_iconst (pc := 43) (v := (nI 1)) (by decide) hX dX12_day_43 ?_
            refine A_isub (pc := 44) hX dX12_day_44 ?_
            refine A_top (y := (V i).2.2.1 - 1) rfl ?_
            refine A_iast (pc := 45) hX dX12_day_45 (by repeat (first | assumption | exact aSet_s | exact aNew_s | refine lk_n ?_ (by omega) | refine lk_f (by assumption) ?_ (by omega) | refine lk_w ?_ (by omega))) (vp_in_nI (by omega) (by decide)) ?_
            refine A_gen (fun z => (RMt G (m + 5) nt (fun k => if k = i then ((V i).1, (V i).2.1, (V i).2.2.1 - 1, (V i).2.2.2) else if k < i then stepV B (V k) else V k) z) ∧ Fr (m + 5) (m + 9) σ1 z) ⟨⟨_, _, _, _, (by repeat (first | assumption | exact aSet_s | exact aNew_s | refine lk_n ?_ (by omega) | refine lk_f (by assumption) ?_ (by omega) | refine lk_w ?_ (by omega))), (by repeat (first | assumption | exact aSet_s | exact aNew_s | refine lk_n ?_ (by omega) | refine lk_f (by assumption) ?_ (by omega) | refine lk_w ?_ (by omega))), (by repeat (first | assumption | exact aSet_s | exact aNew_s | refine lk_n ?_ (by omega) | refine lk_f (by assumption) ?_ (by omega) | refine lk_w ?_ (by omega))), (by repeat (first | assumption | exact aSet_s | exact aNew_s | refine lk_n ?_ (by omega) | refine lk_f (by assumption) ?_ (by omega) | refine lk_w ?_ (by omega))), hnt, fun k hk => by
              have hvk := hv2 k hk
              simp only [hic]
              by_cases e : k = i
              · subst e
                simp only [upd, if_pos]
                refine ⟨?_, ?_, ?_, ?_⟩ <;> first | rfl | trivial | exact w1 | exact w2 | exact w4
              · simp only [upd, if_neg e] at hvk ⊢
                exact hvk⟩, (Fr.rf.set (by omega) (by omega))⟩ (fun σ46 hg => ?_)
            obtain ⟨h46, f46⟩ := hg
            have o46 := lk_f f46 o1 (by omega)
            obtain ⟨ys, yw, yl, yr, s1, s2, s3, s4, _, yv⟩ := id h46
            have y0 := yv i hil
            simp only [if_pos] at y0
            obtain ⟨y1, y2, y3, y4⟩ := y0
            refine A_aload_n (pc := 46) rfl hX dX12_day_46 ?_
            refine A_getf (pc := 47) hX fl_X12_25_12 dX12_day_47 (by repeat (first | assumption | exact aSet_s | exact aNew_s | refine lk_n ?_ (by omega) | refine lk_f (by assumption) ?_ (by omega) | refine lk_w ?_ (by omega))) (by exact rfl) ?_
            refine A_iload_n (pc := 50) rfl hX dX12_day_50 ?_
            refine A_iald (pc := 51) hX dX12_day_51 (by repeat (first | assumption | exact aSet_s | exact aNew_s | refine lk_n ?_ (by omega) | refine lk_f (by assumption) ?_ (by omega) | refine lk_w ?_ (by omega))) (vp_in_nI (by omega) (by decide)) ?_
            refine A_top (y := (V i).2.1) (by rw [hic]; exact y2) ?_
            refine A_iconst (pc := 52) (v := (-1)) (by decide) hX dX12_day_52 ?_
            refine A_icmp_eq (pc := 53) 96 hX dX12_day_53 rfl (fun c53 => ?_) (fun c53 => ?_)
            · exact absurd c53 hL
            · refine A_aload_n (pc := 56) rfl hX dX12_day_56 ?_
              refine A_getf (pc := 57) hX fl_X12_28_12 dX12_day_57 (by repeat (first | assumption | exact aSet_s | exact aNew_s | refine lk_n ?_ (by omega) | refine lk_f (by assumption) ?_ (by omega) | refine lk_w ?_ (by omega))) (by exact rfl) ?_
              refine A_iload_n (pc := 60) rfl hX dX12_day_60 ?_
              refine A_iald (pc := 61) hX dX12_day_61 (by repeat (first | assumption | exact aSet_s | exact aNew_s | refine lk_n ?_ (by omega) | refine lk_f (by assumption) ?_ (by omega) | refine lk_w ?_ (by omega))) (vp_in_nI (by omega) (by decide)) ?_
              refine A_top (y := (V i).2.2.1 - 1) (by rw [hic]; exact y3) ?_
              refine A_if_ne (pc := 62) 96 hX dX12_day_62 rfl (fun c62 => ?_) (fun c62 => ?_)
              · have hst : stepV B (V i) = ((V i).1, (V i).2.1, (V i).2.2.1 - 1, (V i).2.2.2) := by rw [stepV, if_neg hL, if_neg c62]
                have hbk : backV (V i) = false := decide_eq_false (fun q => c62 q.2)
                have hcn : cntN (fun j => backV (V j)) (i + 1) = cntN (fun j => backV (V j)) i := by rw [cntN, if_neg (by rw [hbk]; decide)]; rfl
                refine A_iinc (pc := 96) (v := (nI (i + 1))) (lv' := [_, _, _]) hX dX12_day_96 rfl (nI_succ i).symm rfl rfl ?_
                refine A_goto (pc := 99) 14 hX dX12_day_99 rfl ?_
                rw [← hcn]
                refine ih (i + 1) σ46 (by omega) (by omega) (hF.tr f46) ⟨ys, yw, yl, yr, s1, s2, s3, s4, hnt, fun k hk => ?_⟩
                have hvk := yv k hk
                dsimp only at hvk ⊢
                by_cases e : k = i
                · subst e
                  rw [if_pos (Nat.lt_succ_self k), hst]
                  simp only [if_pos] at hvk
                  exact hvk
                · rw [if_neg e] at hvk
                  by_cases e2 : k < i
                  · rw [if_pos e2] at hvk; rw [if_pos (show k < i + 1 by omega)]; exact hvk
                  · rw [if_neg e2] at hvk; rw [if_neg (show ¬ k < i + 1 by omega)]; exact hvk
              · have hst : stepV B (V i) = (homeV B (V i), -1, (V i).2.2.1 - 1, (V i).2.2.2 + 1) := by rw [stepV, if_neg hL, if_pos c62]
                have hbk : backV (V i) = true := decide_eq_true ⟨hL, c62⟩
                have hcn : cntN (fun j => backV (V j)) (i + 1) = cntN (fun j => backV (V j)) i + 1 := by rw [cntN, if_pos hbk]
                have hho : homeV B ((fun k => if k = i then ((V i).1, (V i).2.1, (V i).2.2.1 - 1, (V i).2.2.2) else if k < i then stepV B (V k) else V k) i) = homeV B (V i) := by simp only [if_pos]; rfl
                have ha46 := (ha.fr hF (by omega)).fr f46 (by omega)
                refine A_aload_n (pc := 65) rfl hX dX12_day_65 ?_
                refine A_getf (pc := 66) hX fl_X12_22_12 dX12_day_66 (by repeat (first | assumption | exact aSet_s | exact aNew_s | refine lk_n ?_ (by omega) | refine lk_f (by assumption) ?_ (by omega) | refine lk_w ?_ (by omega))) (by exact rfl) ?_
                refine A_iload_n (pc := 69) rfl hX dX12_day_69 ?_
                refine A_aload_n (pc := 70) rfl hX dX12_day_70 ?_
                refine A_iload_n (pc := 71) rfl hX dX12_day_71 ?_
                refine A_V1d (pc := 72) hX mk_X12_homeState lv_X12_144 dX12_day_72 (by repeat (first | assumption | exact aSet_s | exact aNew_s | refine lk_n ?_ (by omega) | refine lk_f (by assumption) ?_ (by omega) | refine lk_w ?_ (by omega))) (ct_homeState l G o46 ha46 h46 hok2 hil) rfl (Nat.le_of_ble_eq_true rfl) (Nat.le_of_ble_eq_true rfl) (Nat.le_of_ble_eq_true rfl) (Nat.le_of_ble_eq_true rfl) (Nat.le_of_ble_eq_true rfl) ?_
                refine A_top (y := nI (homeV B (V i))) (by rw [hho]) ?_
                refine A_iast (pc := 75) hX dX12_day_75 (by repeat (first | assumption | exact aSet_s | exact aNew_s | refine lk_n ?_ (by omega) | refine lk_f (by assumption) ?_ (by omega) | refine lk_w ?_ (by omega))) (vp_in_nI (by omega) (by decide)) ?_
                refine A_aload_n (pc := 76) rfl hX dX12_day_76 ?_
                refine A_getf (pc := 77) hX fl_X12_25_12 dX12_day_77 (by repeat (first | assumption | exact aSet_s | exact aNew_s | refine lk_n ?_ (by omega) | refine lk_f (by assumption) ?_ (by omega) | refine lk_w ?_ (by omega))) (by exact rfl) ?_
                refine A_iload_n (pc := 80) rfl hX dX12_day_80 ?_
                refine A_iconst (pc := 81) (v := (-1)) (by decide) hX dX12_day_81 ?_
                refine A_iast (pc := 82) hX dX12_day_82 (by repeat (first | assumption | exact aSet_s | exact aNew_s | refine lk_n ?_ (by omega) | refine lk_f (by assumption) ?_ (by omega) | refine lk_w ?_ (by omega))) (vp_in_nI (by omega) (by decide)) ?_
                refine A_aload_n (pc := 83) rfl hX dX12_day_83 ?_
                refine A_getf (pc := 84) hX fl_X12_31_12 dX12_day_84 (by repeat (first | assumption | exact aSet_s | exact aNew_s | refine lk_n ?_ (by omega) | refine lk_f (by assumption) ?_ (by omega) | refine lk_w ?_ (by omega))) (by exact rfl) ?_
                refine A_iload_n (pc := 87) rfl hX dX12_day_87 ?_
                refine A_dup2 (pc := 88) rfl rfl hX dX12_day_88 ?_
                refine A_iald (pc := 89) hX dX12_day_89 (by repeat (first | assumption | exact aSet_s | exact aNew_s | refine lk_n ?_ (by omega) | refine lk_f (by assumption) ?_ (by omega) | refine lk_w ?_ (by omega))) (vp_in_nI (by omega) (by decide)) ?_
                refine A_top (y := (V i).2.2.2) (by rw [hic]; exact y4) ?_
                refine A_iconst (pc := 90) (v := (nI 1)) (by decide) hX dX12_day_90 ?_
                refine A_iadd (pc := 91) hX dX12_day_91 ?_
                refine A_top (y := (V i).2.2.2 + 1) rfl ?_
                refine A_iast (pc := 92) hX dX12_day_92 (by repeat (first | assumption | exact aSet_s | exact aNew_s | refine lk_n ?_ (by omega) | refine lk_f (by assumption) ?_ (by omega) | refine lk_w ?_ (by omega))) (vp_in_nI (by omega) (by decide)) ?_
                refine A_gen (fun z => (RMt G (m + 5) nt (fun k => if k < (i + 1) then stepV B (V k) else V k) z) ∧ Fr (m + 5) (m + 9) σ46 z) ⟨⟨_, _, _, _, (by repeat (first | assumption | exact aSet_s | exact aNew_s | refine lk_n ?_ (by omega) | refine lk_f (by assumption) ?_ (by omega) | refine lk_w ?_ (by omega))), (by repeat (first | assumption | exact aSet_s | exact aNew_s | refine lk_n ?_ (by omega) | refine lk_f (by assumption) ?_ (by omega) | refine lk_w ?_ (by omega))), (by repeat (first | assumption | exact aSet_s | exact aNew_s | refine lk_n ?_ (by omega) | refine lk_f (by assumption) ?_ (by omega) | refine lk_w ?_ (by omega))), (by repeat (first | assumption | exact aSet_s | exact aNew_s | refine lk_n ?_ (by omega) | refine lk_f (by assumption) ?_ (by omega) | refine lk_w ?_ (by omega))), hnt, fun k hk => by
                  have hvk := yv k hk
                  simp only [hic]
                  by_cases e : k = i
                  · subst e
                    simp only [if_pos] at hvk
                    rw [if_pos (Nat.lt_succ_self k), hst]
                    simp only [upd, if_pos]
                    refine ⟨?_, ?_, ?_, ?_⟩ <;> first | rfl | trivial | exact hvk.2.2.1
                  · simp only [upd, if_neg e] at hvk ⊢
                    by_cases e2 : k < i
                    · rw [if_pos e2] at hvk; rw [if_pos (show k < i + 1 by omega)]; exact hvk
                    · rw [if_neg e2] at hvk; rw [if_neg (show ¬ k < i + 1 by omega)]; exact hvk⟩, (((Fr.rf.set (by omega) (by omega)).set (by omega) (by omega)).set (by omega) (by omega))⟩ (fun σ93 hg => ?_)
                obtain ⟨h93, f93⟩ := hg
                refine A_iinc (pc := 93) (v := (nI (cntN (fun j => backV (V j)) i + 1))) (lv' := [_, _, _]) hX dX12_day_93 rfl (nI_succ _).symm rfl rfl ?_
                refine A_iinc (pc := 96) (v := (nI (i + 1))) (lv' := [_, _, _]) hX dX12_day_96 rfl (nI_succ i).symm rfl rfl ?_
                refine A_goto (pc := 99) 14 hX dX12_day_99 rfl ?_
                rw [← hcn]
                exact ih (i + 1) σ93 (by omega) (by omega) (hF.tr (f46.tr f93)) h93
          · exact absurd c36 hL
  · have hz := (nI_eq (b := 0) (by omega) (by decide)).mp c4
    refine A_bipush (pc := 7) (v := (-103)) (by decide) hX dX12_day_7 ?_
    refine A_iret (pc := 9) hX hR dX12_day_9 rfl rfl ?_
    rw [show stDay nb B nt dy V = _ from if_pos hz]
    exact ⟨_, rfl, rfl, hM, Fr.rf⟩
