theorem allN_s {f : Nat → Nat} {n : Nat} : allN f (n + 1) = (allN f n && decide (f n = n)) := by rw [allN]
theorem bk_s {once : Nat → Nat} {n k : Nat} {now : Nat → Nat} : bk once (n + 1) k now = if allN (fun s => once (now s)) 512 = true then nI k else bk once n (k + 1) (fun s => once (now s)) := by rw [bk, allB]
set_option maxRecDepth 100000 in
set_option maxHeartbeats 1000000 in
theorem ct_backNow (l : Launch) (G : aG) {m tw nb nt hn len kt kn : Nat} {dy fa nm kd : Int32} {wh hk : Bool} {sn hd : Int64} {σ : aS} (ho : σ.2 m = some (oM m tw nb nt dy hn len fa wh nm sn hk kt kn kd hd)) {B : BorT} (ha : RMa G m nb B σ) {cd : Nat → Nat} (hp : RMp G m len cd σ) (hr : okR nb cd len) (hs1 : RMs G m σ) : ACt l G yX12_backNow cX12_backNow 4 (some .int) 3 0 0 [.ref m] σ (iP (fun v σ' => v = backOf (fun s => endF B cd len 0 s) ∧ RMs G m σ' ∧ Fr (m + 14) (m + 15) σ σ')) := by
  obtain ⟨hnb, hok, gk, gt, gm, gd, e1, e2, e3, e4, e5⟩ := id ha
  obtain ⟨sa, sb, sc, sd, se, s1, s2, s3, s4, s5⟩ := id hs1
  have hE : ∀ s, s < 512 → endF B cd len 0 s < 512 := fun s h => endF_lt hok hr len 0 s (by omega) h
  refine ACt.intro (own := RX12) (nm := "backNow") mk_X12_backNow rfl rfl [some (.ref m), none, none, none] rfl (Nat.le_of_ble_eq_true rfl) (fun X hX hR => ?_)
  refine A_iconst (pc := 0) (v := (nI 0)) (by decide) hX dX12_backNow_0 ?_
  refine A_istore_n (pc := 1) (lv' := [_, _, _, _]) hX dX12_backNow_1 (Nat.le_of_ble_eq_true rfl) rfl rfl ?_
  suffices hl : ∀ (q i : Nat) (σ1 : aS) (g : Nat → Int32), i ≤ 512 → 512 - i = q → Fr (m + 14) (m + 15) σ σ1 → σ1.2 (m + 14) = some (aI G 512 g) → (∀ s, s < i → g s = nI s) → AA G X 0 0 2 [some (.ref m), some (.int (nI i)), none, none] [] σ1 from hl 512 0 σ sa (Nat.zero_le _) rfl Fr.rf s1 (fun s h => absurd h (Nat.not_lt_zero s))
  intro q
  induction q with
  | zero =>
    intro i σ1 g hi hq hF x1 hx
    have e : 512 = i := by omega
    subst e
    refine A_iload_n (pc := 2) rfl hX dX12_backNow_2 ?_
    refine A_sipush (pc := 3) (v := (nI 512)) (by decide) hX dX12_backNow_3 ?_
    refine A_icmp_ge (pc := 6) 22 hX dX12_backNow_6 rfl (fun c6 => ?_) (fun c6 => ?_)
    · refine A_iconst (pc := 22) (v := (nI 1)) (by decide) hX dX12_backNow_22 ?_
      refine A_istore_n (pc := 23) (lv' := [_, _, _, _]) hX dX12_backNow_23 (Nat.le_of_ble_eq_true rfl) rfl rfl ?_
      suffices ho2 : ∀ (n k : Nat) (now : Nat → Nat) (σ2 : aS) (g : Nat → Int32) (v2 v3 : Option Value), k + n = 61 → Fr (m + 14) (m + 15) σ σ2 → σ2.2 (m + 14) = some (aI G 512 g) → (∀ s, s < 512 → g s = nI (now s) ∧ now s < 512) → backOf (fun s => endF B cd len 0 s) = bk (fun s => endF B cd len 0 s) n k now → AA G X 0 0 24 [some (.ref m), some (.int (nI k)), v2, v3] [] σ2 from ho2 60 1 (fun s => s) σ1 g none none rfl hF x1 (fun s h => ⟨hx s h, h⟩) rfl
      intro n
      induction n with
      | zero =>
        intro k now σ2 g v2 v3 hk hF2 y1 hy hb
        have e : k = 61 := by omega
        subst e
        refine A_iload_n (pc := 24) rfl hX dX12_backNow_24 ?_
        refine A_bipush (pc := 25) (v := (nI 60)) (by decide) hX dX12_backNow_25 ?_
        refine A_icmp_gt (pc := 27) 95 hX dX12_backNow_27 rfl (fun c27 => ?_) (fun c27 => ?_)
        · refine A_iconst (pc := 95) (v := (-1)) (by decide) hX dX12_backNow_95 ?_
          refine A_iret (pc := 96) hX hR dX12_backNow_96 rfl rfl ?_
          exact ⟨_, rfl, by rw [hb, bk], ⟨g, sb, sc, sd, se, y1, lk_f hF2 s2 (by omega), lk_f hF2 s3 (by omega), lk_f hF2 s4 (by omega), lk_f hF2 s5 (by omega)⟩, hF2⟩
        · exact absurd (by decide) c27
      | succ n ih =>
        intro k now σ2 g v2 v3 hk hF2 y1 hy hb
        have hkl : k ≤ 60 := by omega
        rw [bk_s] at hb
        refine A_iload_n (pc := 24) rfl hX dX12_backNow_24 ?_
        refine A_bipush (pc := 25) (v := (nI 60)) (by decide) hX dX12_backNow_25 ?_
        refine A_icmp_gt (pc := 27) 95 hX dX12_backNow_27 rfl (fun c27 => ?_) (fun c27 => ?_)
        · exact absurd c27 (nI_nlt (by omega) (by decide))
        · refine A_iconst (pc := 30) (v := (nI 1)) (by decide) hX dX12_backNow_30 ?_
          refine A_istore_n (pc := 31) (lv' := [_, _, _, _]) hX dX12_backNow_31 (Nat.le_of_ble_eq_true rfl) rfl rfl ?_
          refine A_iconst (pc := 32) (v := (nI 0)) (by decide) hX dX12_backNow_32 ?_
          refine A_istore_n (pc := 33) (lv' := [_, _, _, _]) hX dX12_backNow_33 (Nat.le_of_ble_eq_true rfl) rfl rfl ?_
          suffices hi : ∀ (q i : Nat) (σ3 : aS) (g : Nat → Int32), i ≤ 512 → 512 - i = q → Fr (m + 14) (m + 15) σ σ3 → σ3.2 (m + 14) = some (aI G 512 g) → (∀ s, s < i → g s = nI (endF B cd len 0 (now s))) → (∀ s, i ≤ s → s < 512 → g s = nI (now s)) → AA G X 0 0 34 [some (.ref m), some (.int (nI k)), some (.int (bI (allN (fun s => endF B cd len 0 (now s)) i))), some (.int (nI i))] [] σ3 from hi 512 0 σ2 g (Nat.zero_le _) rfl hF2 y1 (fun s h => absurd h (Nat.not_lt_zero s)) (fun s _ h => (hy s h).1)
          intro q
          induction q with
          | zero =>
            intro i σ3 g hi hq hF3 z1 hz1 hz2
            have e : 512 = i := by omega
            subst e
            refine A_iload_n (pc := 34) rfl hX dX12_backNow_34 ?_
            refine A_sipush (pc := 35) (v := (nI 512)) (by decide) hX dX12_backNow_35 ?_
            refine A_icmp_ge (pc := 38) 83 hX dX12_backNow_38 rfl (fun c38 => ?_) (fun c38 => ?_)
            · refine A_iload_n (pc := 83) rfl hX dX12_backNow_83 ?_
              refine A_if_eq (pc := 84) 89 hX dX12_backNow_84 rfl (fun c84 => ?_) (fun c84 => ?_)
              · rw [if_neg (bI_f c84)] at hb
                refine A_iinc (pc := 89) (v := (nI (k + 1))) (lv' := [_, _, _, _]) hX dX12_backNow_89 rfl (nI_succ k).symm rfl rfl ?_
                refine A_goto (pc := 92) 24 hX dX12_backNow_92 rfl ?_
                exact ih (k + 1) _ σ3 g _ _ (by omega) hF3 z1 (fun s h => ⟨hz1 s h, hE _ (hy s h).2⟩) hb
              · rw [if_pos (bI_ne c84)] at hb
                refine A_iload_n (pc := 87) rfl hX dX12_backNow_87 ?_
                refine A_iret (pc := 88) hX hR dX12_backNow_88 rfl rfl ?_
                exact ⟨_, rfl, hb.symm, ⟨g, sb, sc, sd, se, z1, lk_f hF3 s2 (by omega), lk_f hF3 s3 (by omega), lk_f hF3 s4 (by omega), lk_f hF3 s5 (by omega)⟩, hF3⟩
            · exact absurd (nI_le (Nat.le_refl 512) (by decide)) c38
          | succ q ihq =>
            intro i σ3 g hi hq hF3 z1 hz1 hz2
            have hil : i < 512 := by omega
            have hic := nI_clamp (n := i) (by omega)
            have o3 := lk_f hF3 ho (by omega)
            have ha3 := ha.fr hF3 (by omega)
            have hp3 := hp.fr hF3 (by omega)
            have hni := hE _ (hy i hil).2
            have hgo : ∀ (σ4 : aS) (z : Int32), σ4.2 (m + 14) = some (aI G 512 (upd g i (nI (endF B cd len 0 (now i))))) → Fr (m + 14) (m + 15) σ σ4 → z = bI (allN (fun s => endF B cd len 0 (now s)) (i + 1)) → AA G X 0 0 76 [some (.ref m), some (.int (nI k)), some (.int (bI (allN (fun s => endF B cd len 0 (now s)) i))), some (.int (nI i))] [.int z] σ4 := by
              intro σ4 z j1 j2 j3
              subst j3
              refine A_istore_n (pc := 76) (lv' := [_, _, _, _]) hX dX12_backNow_76 (Nat.le_of_ble_eq_true rfl) rfl rfl ?_
              refine A_iinc (pc := 77) (v := (nI (i + 1))) (lv' := [_, _, _, _]) hX dX12_backNow_77 rfl (nI_succ i).symm rfl rfl ?_
              refine A_goto (pc := 80) 34 hX dX12_backNow_80 rfl ?_
              exact ihq (i + 1) σ4 _ (by omega) (by omega) j2 j1 (fun s h => by
                by_cases e : s = i
                · subst e; simp only [upd, if_pos]
                · simp only [upd, if_neg e]; exact hz1 s (by omega)) (fun s h h2 => by simp only [upd, if_neg (show ¬ s = i by omega)]; exact hz2 s (by omega) h2)
            refine A_iload_n (pc := 34) rfl hX dX12_backNow_34 ?_
            refine A_sipush (pc := 35) (v := (nI 512)) (by decide) hX dX12_backNow_35 ?_
            refine A_icmp_ge (pc := 38) 83 hX dX12_backNow_38 rfl (fun c38 => ?_) (fun c38 => ?_)
            · exact absurd c38 (nI_ge hil (by decide))
            · refine A_aload_n (pc := 41) rfl hX dX12_backNow_41 ?_
              refine A_getf (pc := 42) hX fl_X12_50_12 dX12_backNow_42 (by repeat (first | assumption | exact aSet_s | exact aNew_s | refine lk_n ?_ (by omega) | refine lk_f (by assumption) ?_ (by omega) | refine lk_w ?_ (by omega))) (by exact rfl) ?_
              refine A_iload_n (pc := 45) rfl hX dX12_backNow_45 ?_
              refine A_aload_n (pc := 46) rfl hX dX12_backNow_46 ?_
              refine A_aload_n (pc := 47) rfl hX dX12_backNow_47 ?_
              refine A_getf (pc := 48) hX fl_X12_50_12 dX12_backNow_48 (by repeat (first | assumption | exact aSet_s | exact aNew_s | refine lk_n ?_ (by omega) | refine lk_f (by assumption) ?_ (by omega) | refine lk_w ?_ (by omega))) (by exact rfl) ?_
              refine A_iload_n (pc := 51) rfl hX dX12_backNow_51 ?_
              refine A_iald (pc := 52) hX dX12_backNow_52 (by repeat (first | assumption | exact aSet_s | exact aNew_s | refine lk_n ?_ (by omega) | refine lk_f (by assumption) ?_ (by omega) | refine lk_w ?_ (by omega))) (vp_in_nI (by omega) (by decide)) ?_
              refine A_top (y := nI (now i)) (by rw [hic]; exact hz2 i (Nat.le_refl _) hil) ?_
              refine A_V1d (pc := 53) hX mk_X12_endsOf lv_X12_178 dX12_backNow_53 (by repeat (first | assumption | exact aSet_s | exact aNew_s | refine lk_n ?_ (by omega) | refine lk_f (by assumption) ?_ (by omega) | refine lk_w ?_ (by omega))) (ct_endsOf l G o3 ha3 hp3 hr (hy i hil).2) rfl (Nat.le_of_ble_eq_true rfl) (Nat.le_of_ble_eq_true rfl) (Nat.le_of_ble_eq_true rfl) (Nat.le_of_ble_eq_true rfl) (Nat.le_of_ble_eq_true rfl) ?_
              refine A_iast (pc := 56) hX dX12_backNow_56 (by repeat (first | assumption | exact aSet_s | exact aNew_s | refine lk_n ?_ (by omega) | refine lk_f (by assumption) ?_ (by omega) | refine lk_w ?_ (by omega))) (vp_in_nI (by omega) (by decide)) ?_
              refine A_gen (fun z => z.2 (m + 14) = some (aI G 512 (upd g i (nI (endF B cd len 0 (now i))))) ∧ Fr (m + 14) (m + 15) σ z) ⟨aSet_s.trans (by rw [hic]), hF3.set (by omega) (by omega)⟩ (fun σ57 hg => ?_)
              obtain ⟨h57, f57⟩ := hg
              have o57 := lk_f f57 ho (by omega)
              refine A_iload_n (pc := 57) rfl hX dX12_backNow_57 ?_
              refine A_if_eq (pc := 58) 75 hX dX12_backNow_58 rfl (fun c58 => ?_) (fun c58 => ?_)
              · refine A_iconst (pc := 75) (v := (nI 0)) (by decide) hX dX12_backNow_75 ?_
                exact hgo σ57 _ h57 f57 (by rw [allN_s, bI_eq c58]; rfl)
              · refine A_aload_n (pc := 61) rfl hX dX12_backNow_61 ?_
                refine A_getf (pc := 62) hX fl_X12_50_12 dX12_backNow_62 (by repeat (first | assumption | exact aSet_s | exact aNew_s | refine lk_n ?_ (by omega) | refine lk_f (by assumption) ?_ (by omega) | refine lk_w ?_ (by omega))) (by exact rfl) ?_
                refine A_iload_n (pc := 65) rfl hX dX12_backNow_65 ?_
                refine A_iald (pc := 66) hX dX12_backNow_66 (by repeat (first | assumption | exact aSet_s | exact aNew_s | refine lk_n ?_ (by omega) | refine lk_f (by assumption) ?_ (by omega) | refine lk_w ?_ (by omega))) (vp_in_nI (by omega) (by decide)) ?_
                refine A_top (y := nI (endF B cd len 0 (now i))) (by rw [hic]; simp only [upd, if_pos]) ?_
                refine A_iload_n (pc := 67) rfl hX dX12_backNow_67 ?_
                refine A_icmp_ne (pc := 68) 75 hX dX12_backNow_68 rfl (fun c68 => ?_) (fun c68 => ?_)
                · refine A_iconst (pc := 75) (v := (nI 0)) (by decide) hX dX12_backNow_75 ?_
                  exact hgo σ57 _ h57 f57 (by rw [allN_s, decide_eq_false (fun q => c68 (by rw [q])), Bool.and_false]; rfl)
                · refine A_iconst (pc := 71) (v := (nI 1)) (by decide) hX dX12_backNow_71 ?_
                  refine A_goto (pc := 72) 76 hX dX12_backNow_72 rfl ?_
                  exact hgo σ57 _ h57 f57 (by rw [allN_s, bI_ne c58, decide_eq_true ((nI_eq (by omega) (by omega)).mp c68)]; rfl)
    · exact absurd (nI_le (Nat.le_refl 512) (by decide)) c6
  | succ q ih =>
    intro i σ1 g hi hq hF x1 hx
    have hil : i < 512 := by omega
    have hic := nI_clamp (n := i) (by omega)
    have o1 := lk_f hF ho (by omega)
    refine A_iload_n (pc := 2) rfl hX dX12_backNow_2 ?_
    refine A_sipush (pc := 3) (v := (nI 512)) (by decide) hX dX12_backNow_3 ?_
    refine A_icmp_ge (pc := 6) 22 hX dX12_backNow_6 rfl (fun c6 => ?_) (fun c6 => ?_)
    · exact absurd c6 (nI_ge hil (by decide))
    · refine A_aload_n (pc := 9) rfl hX dX12_backNow_9 ?_
      refine A_getf (pc := 10) hX fl_X12_50_12 dX12_backNow_10 (by repeat (first | assumption | exact aSet_s | exact aNew_s | refine lk_n ?_ (by omega) | refine lk_f (by assumption) ?_ (by omega) | refine lk_w ?_ (by omega))) (by exact rfl) ?_
      refine A_iload_n (pc := 13) rfl hX dX12_backNow_13 ?_
      refine A_iload_n (pc := 14) rfl hX dX12_backNow_14 ?_
      refine A_iast (pc := 15) hX dX12_backNow_15 (by repeat (first | assumption | exact aSet_s | exact aNew_s | refine lk_n ?_ (by omega) | refine lk_f (by assumption) ?_ (by omega) | refine lk_w ?_ (by omega))) (vp_in_nI (by omega) (by decide)) ?_
      refine A_iinc (pc := 16) (v := (nI (i + 1))) (lv' := [_, _, _, _]) hX dX12_backNow_16 rfl (nI_succ i).symm rfl rfl ?_
      refine A_goto (pc := 19) 2 hX dX12_backNow_19 rfl ?_
      rw [hic]
      exact ih (i + 1) _ _ (by omega) (by omega) (by repeat (first | exact Fr.rf | refine Fr.set ?_ (by omega) (by omega) | refine Fr.tr ?_ (Fr.wd (by assumption) (by omega) (by omega)))) aSet_s (fun s h => by
        by_cases e : s = i
        · subst e; simp only [upd, if_pos]
        · simp only [upd, if_neg e]; exact hx s (by omega))
set_option maxRecDepth 100000 in
set_option maxHeartbeats 1000000 in
theorem ct_roundM (l : Launch) (G : aG) {m len nb nt kn tw hn : Nat} {cd : Nat → Nat} {B : BorT} {dy kd : Int32} {V KV : ThT} {hI : Bool} {σ : aS} (hM : RM G m len cd nb B nt dy V hI kn kd KV tw hn σ) {s w : Int32} : ACt l G yX12_round cX12_round 3 (some .int) 4 0 0 [.ref m, .int s, .int w] σ (iP (fun v σ' => v = anRound len cd nb B s w ∧ RM G m len cd nb B nt dy V hI kn kd KV tw hn σ' ∧ Fr m (m + 23) σ σ')) := by
  obtain ⟨fa, nm, wh, hk, sn, hd, kt, ho, ha, ht, hp, hn1, hs1, hkp, hI1, hI2⟩ := id hM
  have hnb := ha.1
  refine ACt.intro (own := RX12) (nm := "round") mk_X12_round rfl rfl [some (.ref m), some (.int s), some (.int w)] rfl (Nat.le_of_ble_eq_true rfl) (fun X hX hR => ?_)
  refine A_iload_n (pc := 0) rfl hX dX12_round_0 ?_
  refine A_S1d (pc := 1) hX mk_X12_isState ls_X12_138 dX12_round_1 (ct_isStateM l G) rfl (Nat.le_of_ble_eq_true rfl) (Nat.le_of_ble_eq_true rfl) (Nat.le_of_ble_eq_true rfl) (Nat.le_of_ble_eq_true rfl) (Nat.le_of_ble_eq_true rfl) ?_
  refine A_if_eq (pc := 4) 16 hX dX12_round_4 rfl (fun c4 => ?_) (fun c4 => ?_)
  · have hx := bI_f c4
    refine A_bipush (pc := 16) (v := (-102)) (by decide) hX dX12_round_16 ?_
    refine A_iret (pc := 18) hX hR dX12_round_18 rfl rfl ?_
    rw [show anRound len cd nb B s w = _ from if_neg (fun q => hx q.1)]
    exact ⟨_, rfl, rfl, hM, Fr.rf⟩
  · have hx := bI_ne c4
    refine A_iload_n (pc := 7) rfl hX dX12_round_7 ?_
    refine A_iconst (pc := 8) (v := (nI 0)) (by decide) hX dX12_round_8 ?_
    refine A_iconst (pc := 9) (v := (nI 1)) (by decide) hX dX12_round_9 ?_
    refine A_S3d (pc := 10) hX mk_X12_within ls_X12_77 dX12_round_10 (ct_within l G ) rfl (Nat.le_of_ble_eq_true rfl) (Nat.le_of_ble_eq_true rfl) (Nat.le_of_ble_eq_true rfl) (Nat.le_of_ble_eq_true rfl) (Nat.le_of_ble_eq_true rfl) ?_
    refine A_top (y := bI (inN 2 w)) (by rw [winB_in (by decide)]) ?_
    refine A_if_ne (pc := 13) 19 hX dX12_round_13 rfl (fun c13 => ?_) (fun c13 => ?_)
    · have hw := bI_ne c13
      have hall := And.intro hx hw
      obtain ⟨s, hs1_, rfl⟩ := inN_t (by decide) hx
      obtain ⟨w, hw1, rfl⟩ := inN_t (by decide) hw
      refine A_aload_n (pc := 19) rfl hX dX12_round_19 ?_
      refine A_V0v (pc := 20) hX mk_X12_readRound lv_X12_109 dX12_round_20 (by repeat (first | assumption | exact aSet_s | exact aNew_s | refine lk_n ?_ (by omega) | refine lk_f (by assumption) ?_ (by omega) | refine lk_w ?_ (by omega))) (ct_readRound l G ho hp hnb) rfl (Nat.le_of_ble_eq_true rfl) (Nat.le_of_ble_eq_true rfl) (Nat.le_of_ble_eq_true rfl) (Nat.le_of_ble_eq_true rfl) (Nat.le_of_ble_eq_true rfl) (fun σ20 h20 => ?_)
      obtain ⟨h20, hf20⟩ := h20
      refine A_aload_n (pc := 23) rfl hX dX12_round_23 ?_
      refine A_getf (pc := 24) hX fl_X12_96_12 dX12_round_24 (by repeat (first | assumption | exact aSet_s | exact aNew_s | refine lk_n ?_ (by omega) | refine lk_f (by assumption) ?_ (by omega) | refine lk_w ?_ (by omega))) (by exact rfl) ?_
      refine A_if_ne (pc := 27) 33 hX dX12_round_27 rfl (fun c27 => ?_) (fun c27 => ?_)
      · have hr := bI_ne c27
        have hrok := isRnB_ok hr
        refine A_iload_n (pc := 33) rfl hX dX12_round_33 ?_
        refine A_if_ne (pc := 34) 44 hX dX12_round_34 rfl (fun c34 => ?_) (fun c34 => ?_)
        · have hw0 : ¬ w = 0 := fun q => c34 (by rw [q]; rfl)
          refine A_aload_n (pc := 44) rfl hX dX12_round_44 ?_
          refine A_iload_n (pc := 45) rfl hX dX12_round_45 ?_
          refine A_V1d (pc := 46) hX mk_X12_endsOf lv_X12_178 dX12_round_46 (by repeat (first | assumption | exact aSet_s | exact aNew_s | refine lk_n ?_ (by omega) | refine lk_f (by assumption) ?_ (by omega) | refine lk_w ?_ (by omega))) (ct_endsOf l G h20 (ha.fr hf20 (by omega)) (hp.fr hf20 (by omega)) hrok hs1_) rfl (Nat.le_of_ble_eq_true rfl) (Nat.le_of_ble_eq_true rfl) (Nat.le_of_ble_eq_true rfl) (Nat.le_of_ble_eq_true rfl) (Nat.le_of_ble_eq_true rfl) ?_
          refine A_iret (pc := 49) hX hR dX12_round_49 rfl rfl ?_
          rw [show anRound len cd nb B (nI s) (nI w) = _ from (by rw [anRound, if_pos hall, if_pos hr, nI_clamp (by omega), if_neg hw0, nI_clamp (by omega)])]
          exact ⟨_, rfl, rfl, ⟨_, nm, _, hk, sn, hd, kt, h20, (ha.fr hf20 (by omega)), (ht.fr hf20 (by omega)), (hp.fr hf20 (by omega)), (hn1.fr hf20 (by omega)), (hs1.fr hf20 (by omega)), (hkp.fr hf20 (by omega)), hI1, hI2⟩, (by repeat (first | exact Fr.rf | refine Fr.set ?_ (by omega) (by omega) | refine Fr.tr ?_ (Fr.wd (by assumption) (by omega) (by omega))))⟩
        · have hw0 := (nI_eq (b := 0) (by omega) (by decide)).mp c34
          refine A_aload_n (pc := 37) rfl hX dX12_round_37 ?_
          refine A_V0i (pc := 38) hX mk_X12_backNow lv_X12_181 dX12_round_38 (by repeat (first | assumption | exact aSet_s | exact aNew_s | refine lk_n ?_ (by omega) | refine lk_f (by assumption) ?_ (by omega) | refine lk_w ?_ (by omega))) (ct_backNow l G h20 (ha.fr hf20 (by omega)) (hp.fr hf20 (by omega)) hrok (hs1.fr hf20 (by omega))) rfl (Nat.le_of_ble_eq_true rfl) (Nat.le_of_ble_eq_true rfl) (Nat.le_of_ble_eq_true rfl) (Nat.le_of_ble_eq_true rfl) (Nat.le_of_ble_eq_true rfl) (fun x38 σ38 h38 => ?_)
          obtain ⟨rfl, hs38, hf38⟩ := h38
          refine A_goto (pc := 41) 49 hX dX12_round_41 rfl ?_
          refine A_iret (pc := 49) hX hR dX12_round_49 rfl rfl ?_
          rw [show anRound len cd nb B (nI s) (nI w) = _ from (by rw [anRound, if_pos hall, if_pos hr, nI_clamp (by omega), if_pos hw0])]
          exact ⟨_, rfl, rfl, ⟨_, nm, _, hk, sn, hd, kt, (lk_f hf38 h20 (by omega)), ((ha.fr hf20 (by omega)).fr hf38 (by omega)), ((ht.fr hf20 (by omega)).fr hf38 (by omega)), ((hp.fr hf20 (by omega)).fr hf38 (by omega)), ((hn1.fr hf20 (by omega)).fr hf38 (by omega)), hs38, ((hkp.fr hf20 (by omega)).fr hf38 (by omega)), hI1, hI2⟩, (by repeat (first | exact Fr.rf | refine Fr.set ?_ (by omega) (by omega) | refine Fr.tr ?_ (Fr.wd (by assumption) (by omega) (by omega))))⟩
      · have hr := bI_f c27
        refine A_bipush (pc := 30) (v := (-103)) (by decide) hX dX12_round_30 ?_
        refine A_iret (pc := 32) hX hR dX12_round_32 rfl rfl ?_
        rw [show anRound len cd nb B (nI s) (nI w) = _ from (by rw [anRound, if_pos hall, if_neg hr])]
        exact ⟨_, rfl, rfl, ⟨_, nm, _, hk, sn, hd, kt, h20, (ha.fr hf20 (by omega)), (ht.fr hf20 (by omega)), (hp.fr hf20 (by omega)), (hn1.fr hf20 (by omega)), (hs1.fr hf20 (by omega)), (hkp.fr hf20 (by omega)), hI1, hI2⟩, (by repeat (first | exact Fr.rf | refine Fr.set ?_ (by omega) (by omega) | refine Fr.tr ?_ (Fr.wd (by assumption) (by omega) (by omega))))⟩
    · have hw := bI_f c13
      refine A_bipush (pc := 16) (v := (-102)) (by decide) hX dX12_round_16 ?_
      refine A_iret (pc := 18) hX hR dX12_round_18 rfl rfl ?_
      rw [show anRound len cd nb B s w = _ from if_neg (fun q => hw q.2)]
      exact ⟨_, rfl, rfl, hM, Fr.rf⟩
theorem addB_s {mB : Nat → Nat → Nat} {w s c b t : Nat} {A : Nat → Nat} : addB mB w s c A (b + 1) t = addB mB w s c A b t + (if b = w ∨ ¬ t = mB b s then 0 else c) := by rw [addB]
theorem addB_0 {mB : Nat → Nat → Nat} {w s c t : Nat} {A : Nat → Nat} : addB mB w s c A 0 t = A t := by rw [addB]
theorem i_or0 {e : Nat} (h : e < 64) : nI e ||| nI 0 = nI e := (by decide +kernel : ∀ e, e < 64 → nI e ||| nI 0 = nI e) e h
set_option maxRecDepth 100000 in
set_option maxHeartbeats 2000000 in
theorem ct_rowsWithout (l : Launch) (G : aG) {m tw nb nt hn len kt kn fr to k w : Nat} {dy fa nm kd : Int32} {wh hk : Bool} {sn hd : Int64} {σ : aS} (ho : σ.2 m = some (oM m tw nb nt dy hn len fa wh nm sn hk kt kn kd hd)) {B : BorT} (ha : RMa G m nb B σ) (hs1 : RMs G m σ) (hfr : fr < 512) (hto : to < 512) (hk : k ≤ 6) {wv : Int32} (hwv : ∀ b, b < nb → (nI b = wv ↔ b = w)) : ACt l G yX12_rowsWithout cX12_rowsWithout 8 (some .int) 2 0 0 [.ref m, .int (nI fr), .int (nI to), .int (nI k), .int wv] σ (iP (fun v σ' => v = nI (rN nb (mkB B) fr w k to) ∧ RMs G m σ' ∧ Fr (m + 16) (m + 18) σ σ')) := by
  obtain ⟨hnb, hok, gk, gt, gm, gd, e1, e2, e3, e4, e5⟩ := id ha
  obtain ⟨sa, sb, sc, sd, se, s1, s2, s3, s4, s5⟩ := id hs1
  refine ACt.intro (own := RX12) (nm := "rowsWithout") mk_X12_rowsWithout rfl rfl [some (.ref m), some (.int (nI fr)), some (.int (nI to)), some (.int (nI k)), some (.int wv), none, none, none] rfl (Nat.le_of_ble_eq_true rfl) (fun X hX hR => ?_)
  refine A_iconst (pc := 0) (v := (nI 0)) (by decide) hX dX12_rowsWithout_0 ?_
  refine A_istore (pc := 1) (lv' := [_, _, _, _, _, _, _, _]) hX dX12_rowsWithout_1 (Nat.le_of_ble_eq_true rfl) rfl rfl ?_
  suffices hl : ∀ (q i : Nat) (σ1 : aS) (g g2 : Nat → Int32), i ≤ 512 → 512 - i = q → Fr (m + 16) (m + 18) σ σ1 → σ1.2 (m + 16) = some (aI G 512 g) → σ1.2 (m + 17) = some (aI G 512 g2) → (∀ s, s < i → g s = nI (rN nb (mkB B) fr w 0 s)) → AA G X 0 0 3 [some (.ref m), some (.int (nI fr)), some (.int (nI to)), some (.int (nI k)), some (.int wv), some (.int (nI i)), none, none] [] σ1 from hl 512 0 σ sc sd (Nat.zero_le _) rfl Fr.rf s3 s4 (fun s h => absurd h (Nat.not_lt_zero s))
  intro q
  induction q with
  | zero =>
    intro i σ1 g g2 hi hq hF x1 x2 hx
    have e : 512 = i := by omega
    subst e
    refine A_iload (pc := 3) rfl hX dX12_rowsWithout_3 ?_
    refine A_sipush (pc := 5) (v := (nI 512)) (by decide) hX dX12_rowsWithout_5 ?_
    refine A_icmp_ge (pc := 8) 35 hX dX12_rowsWithout_8 rfl (fun c8 => ?_) (fun c8 => ?_)
    · refine A_iconst (pc := 35) (v := (nI 0)) (by decide) hX dX12_rowsWithout_35 ?_
      refine A_istore (pc := 36) (lv' := [_, _, _, _, _, _, _, _]) hX dX12_rowsWithout_36 (Nat.le_of_ble_eq_true rfl) rfl rfl ?_
      suffices hB : ∀ (n a : Nat) (σ2 : aS) (g g2 : Nat → Int32) (v6 v7 : Option Value), a ≤ k → k - a = n → Fr (m + 16) (m + 18) σ σ2 → σ2.2 (m + 16) = some (aI G 512 g) → σ2.2 (m + 17) = some (aI G 512 g2) → (∀ s, s < 512 → g s = nI (rN nb (mkB B) fr w a s)) → AA G X 0 0 38 [some (.ref m), some (.int (nI fr)), some (.int (nI to)), some (.int (nI k)), some (.int wv), some (.int (nI a)), v6, v7] [] σ2 from hB k 0 σ1 g g2 none none (Nat.zero_le _) rfl hF x1 x2 hx
      intro n
      induction n with
      | zero =>
        intro a σ2 g g2 v6 v7 ha2 hn hF2 y1 y2 hy
        have e : k = a := by omega
        subst e
        have htc := nI_clamp (n := to) (by omega)
        refine A_iload (pc := 38) rfl hX dX12_rowsWithout_38 ?_
        refine A_iload_n (pc := 40) rfl hX dX12_rowsWithout_40 ?_
        refine A_icmp_ge (pc := 41) 185 hX dX12_rowsWithout_41 rfl (fun c41 => ?_) (fun c41 => ?_)
        · refine A_aload_n (pc := 185) rfl hX dX12_rowsWithout_185 ?_
          refine A_getf (pc := 186) hX fl_X12_56_12 dX12_rowsWithout_186 (by repeat (first | assumption | exact aSet_s | exact aNew_s | refine lk_n ?_ (by omega) | refine lk_f (by assumption) ?_ (by omega) | refine lk_w ?_ (by omega))) (by exact rfl) ?_
          refine A_iload_n (pc := 189) rfl hX dX12_rowsWithout_189 ?_
          refine A_iald (pc := 190) hX dX12_rowsWithout_190 (by repeat (first | assumption | exact aSet_s | exact aNew_s | refine lk_n ?_ (by omega) | refine lk_f (by assumption) ?_ (by omega) | refine lk_w ?_ (by omega))) (vp_in_nI (by omega) (by decide)) ?_
          refine A_iret (pc := 191) hX hR dX12_rowsWithout_191 rfl rfl ?_
          exact ⟨_, rfl, by rw [htc]; exact hy to hto, ⟨sa, sb, g, g2, se, lk_f hF2 s1 (by omega), lk_f hF2 s2 (by omega), y1, y2, lk_f hF2 s5 (by omega)⟩, hF2⟩
        · exact absurd (nI_le (Nat.le_refl _) (by omega)) c41
      | succ n ih =>
        intro a σ2 g g2 v6 v7 ha2 hn hF2 y1 y2 hy
        have hal : a < k := by omega
        refine A_iload (pc := 38) rfl hX dX12_rowsWithout_38 ?_
        refine A_iload_n (pc := 40) rfl hX dX12_rowsWithout_40 ?_
        refine A_icmp_ge (pc := 41) 185 hX dX12_rowsWithout_41 rfl (fun c41 => ?_) (fun c41 => ?_)
        · exact absurd c41 (nI_ge hal (by omega))
        · refine A_iconst (pc := 44) (v := (nI 0)) (by decide) hX dX12_rowsWithout_44 ?_
          refine A_istore (pc := 45) (lv' := [_, _, _, _, _, _, _, _]) hX dX12_rowsWithout_45 (Nat.le_of_ble_eq_true rfl) rfl rfl ?_
          suffices hC : ∀ (q i : Nat) (σ3 : aS) (g2 : Nat → Int32), i ≤ 512 → 512 - i = q → Fr (m + 16) (m + 18) σ σ3 → σ3.2 (m + 16) = some (aI G 512 g) → σ3.2 (m + 17) = some (aI G 512 g2) → (∀ s, s < i → g2 s = nI 0) → AA G X 0 0 47 [some (.ref m), some (.int (nI fr)), some (.int (nI to)), some (.int (nI k)), some (.int wv), some (.int (nI a)), some (.int (nI i)), v7] [] σ3 from hC 512 0 σ2 g2 (Nat.zero_le _) rfl hF2 y1 y2 (fun s h => absurd h (Nat.not_lt_zero s))
          intro q
          induction q with
          | zero =>
            intro i σ3 g2 hi hq hF3 z1 z2 hz
            have e : 512 = i := by omega
            subst e
            refine A_iload (pc := 47) rfl hX dX12_rowsWithout_47 ?_
            refine A_sipush (pc := 49) (v := (nI 512)) (by decide) hX dX12_rowsWithout_49 ?_
            refine A_icmp_ge (pc := 52) 69 hX dX12_rowsWithout_52 rfl (fun c52 => ?_) (fun c52 => ?_)
            · refine A_iconst (pc := 69) (v := (nI 0)) (by decide) hX dX12_rowsWithout_69 ?_
              refine A_istore (pc := 70) (lv' := [_, _, _, _, _, _, _, _]) hX dX12_rowsWithout_70 (Nat.le_of_ble_eq_true rfl) rfl rfl ?_
              suffices hD : ∀ (q s : Nat) (σ4 : aS) (g2 : Nat → Int32) (v7 : Option Value), s ≤ 512 → 512 - s = q → Fr (m + 16) (m + 18) σ σ4 → σ4.2 (m + 16) = some (aI G 512 g) → σ4.2 (m + 17) = some (aI G 512 g2) → (∀ t, t < 512 → g2 t = nI (addS nb (mkB B) w (rN nb (mkB B) fr w a) s t)) → AA G X 0 0 72 [some (.ref m), some (.int (nI fr)), some (.int (nI to)), some (.int (nI k)), some (.int wv), some (.int (nI a)), some (.int (nI s)), v7] [] σ4 from hD 512 0 σ3 g2 v7 (Nat.zero_le _) rfl hF3 z1 z2 (fun t h => by rw [addS_0]; exact hz t h)
              intro q
              induction q with
              | zero =>
                intro s σ4 g2 v7 hs hq hF4 u1 u2 hu
                have e : 512 = s := by omega
                subst e
                refine A_iload (pc := 72) rfl hX dX12_rowsWithout_72 ?_
                refine A_sipush (pc := 74) (v := (nI 512)) (by decide) hX dX12_rowsWithout_74 ?_
                refine A_icmp_ge (pc := 77) 148 hX dX12_rowsWithout_77 rfl (fun c77 => ?_) (fun c77 => ?_)
                · refine A_iconst (pc := 148) (v := (nI 0)) (by decide) hX dX12_rowsWithout_148 ?_
                  refine A_istore (pc := 149) (lv' := [_, _, _, _, _, _, _, _]) hX dX12_rowsWithout_149 (Nat.le_of_ble_eq_true rfl) rfl rfl ?_
                  suffices hG : ∀ (q i : Nat) (σ5 : aS) (g : Nat → Int32), i ≤ 512 → 512 - i = q → Fr (m + 16) (m + 18) σ σ5 → σ5.2 (m + 16) = some (aI G 512 g) → σ5.2 (m + 17) = some (aI G 512 g2) → (∀ t, t < i → g t = nI (rN nb (mkB B) fr w (a + 1) t)) → AA G X 0 0 151 [some (.ref m), some (.int (nI fr)), some (.int (nI to)), some (.int (nI k)), some (.int wv), some (.int (nI a)), some (.int (nI i)), v7] [] σ5 from hG 512 0 σ4 g (Nat.zero_le _) rfl hF4 u1 u2 (fun t h => absurd h (Nat.not_lt_zero t))
                  intro q
                  induction q with
                  | zero =>
                    intro i σ5 g hi hq hF5 w1 w2 hw
                    have e : 512 = i := by omega
                    subst e
                    refine A_iload (pc := 151) rfl hX dX12_rowsWithout_151 ?_
                    refine A_sipush (pc := 153) (v := (nI 512)) (by decide) hX dX12_rowsWithout_153 ?_
                    refine A_icmp_ge (pc := 156) 179 hX dX12_rowsWithout_156 rfl (fun c156 => ?_) (fun c156 => ?_)
                    · refine A_iinc (pc := 179) (v := (nI (a + 1))) (lv' := [_, _, _, _, _, _, _, _]) hX dX12_rowsWithout_179 rfl (nI_succ a).symm rfl rfl ?_
                      refine A_goto (pc := 182) 38 hX dX12_rowsWithout_182 rfl ?_
                      exact ih (a + 1) σ5 g g2 _ _ (by omega) (by omega) hF5 w1 w2 hw
                    · exact absurd (nI_le (Nat.le_refl 512) (by decide)) c156
                  | succ q ihq =>
                    intro i σ5 g hi hq hF5 w1 w2 hw
                    have hil : i < 512 := by omega
                    have hic := nI_clamp (n := i) (by omega)
                    have o5 := lk_f hF5 ho (by omega)
                    refine A_iload (pc := 151) rfl hX dX12_rowsWithout_151 ?_
                    refine A_sipush (pc := 153) (v := (nI 512)) (by decide) hX dX12_rowsWithout_153 ?_
                    refine A_icmp_ge (pc := 156) 179 hX dX12_rowsWithout_156 rfl (fun c156 => ?_) (fun c156 => ?_)
                    · exact absurd c156 (nI_ge hil (by decide))
                    · refine A_aload_n (pc := 159) rfl hX dX12_rowsWithout_159 ?_
                      refine A_getf (pc := 160) hX fl_X12_56_12 dX12_rowsWithout_160 (by repeat (first | assumption | exact aSet_s | exact aNew_s | refine lk_n ?_ (by omega) | refine lk_f (by assumption) ?_ (by omega) | refine lk_w ?_ (by omega))) (by exact rfl) ?_
                      refine A_iload (pc := 163) rfl hX dX12_rowsWithout_163 ?_
                      refine A_aload_n (pc := 165) rfl hX dX12_rowsWithout_165 ?_
                      refine A_getf (pc := 166) hX fl_X12_59_12 dX12_rowsWithout_166 (by repeat (first | assumption | exact aSet_s | exact aNew_s | refine lk_n ?_ (by omega) | refine lk_f (by assumption) ?_ (by omega) | refine lk_w ?_ (by omega))) (by exact rfl) ?_
                      refine A_iload (pc := 169) rfl hX dX12_rowsWithout_169 ?_
                      refine A_iald (pc := 171) hX dX12_rowsWithout_171 (by repeat (first | assumption | exact aSet_s | exact aNew_s | refine lk_n ?_ (by omega) | refine lk_f (by assumption) ?_ (by omega) | refine lk_w ?_ (by omega))) (vp_in_nI (by omega) (by decide)) ?_
                      refine A_top (y := nI (rN nb (mkB B) fr w (a + 1) i)) (by rw [hic, hu i hil, rN_s]) ?_
                      refine A_iast (pc := 172) hX dX12_rowsWithout_172 (by repeat (first | assumption | exact aSet_s | exact aNew_s | refine lk_n ?_ (by omega) | refine lk_f (by assumption) ?_ (by omega) | refine lk_w ?_ (by omega))) (vp_in_nI (by omega) (by decide)) ?_
                      refine A_iinc (pc := 173) (v := (nI (i + 1))) (lv' := [_, _, _, _, _, _, _, _]) hX dX12_rowsWithout_173 rfl (nI_succ i).symm rfl rfl ?_
                      refine A_goto (pc := 176) 151 hX dX12_rowsWithout_176 rfl ?_
                      rw [hic]
                      exact ihq (i + 1) _ _ (by omega) (by omega) (by repeat (first | exact Fr.rf | refine Fr.set ?_ (by omega) (by omega) | refine Fr.tr ?_ (Fr.wd (by assumption) (by omega) (by omega)))) aSet_s (lk_n w2 (by omega)) (fun t h => by
                        by_cases e : t = i
                        · subst e; simp only [upd, if_pos]
                        · simp only [upd, if_neg e]; exact hw t (by omega))
                · exact absurd (nI_le (Nat.le_refl 512) (by decide)) c77
              | succ q ihD =>
                intro s σ4 g2 v7 hs hq hF4 u1 u2 hu
                have hsl : s < 512 := by omega
                have hsc := nI_clamp (n := s) (by omega)
                have tb : rN nb (mkB B) fr w a s ≤ 46656 := rN_bd hnb (by omega) hsl
                refine A_iload (pc := 72) rfl hX dX12_rowsWithout_72 ?_
                refine A_sipush (pc := 74) (v := (nI 512)) (by decide) hX dX12_rowsWithout_74 ?_
                refine A_icmp_ge (pc := 77) 148 hX dX12_rowsWithout_77 rfl (fun c77 => ?_) (fun c77 => ?_)
                · exact absurd c77 (nI_ge hsl (by decide))
                · refine A_iconst (pc := 80) (v := (nI 0)) (by decide) hX dX12_rowsWithout_80 ?_
                  refine A_istore (pc := 81) (lv' := [_, _, _, _, _, _, _, _]) hX dX12_rowsWithout_81 (Nat.le_of_ble_eq_true rfl) rfl rfl ?_
                  suffices hE : ∀ (q b : Nat) (σ5 : aS) (g2 : Nat → Int32), b ≤ nb → nb - b = q → Fr (m + 16) (m + 18) σ σ5 → σ5.2 (m + 16) = some (aI G 512 g) → σ5.2 (m + 17) = some (aI G 512 g2) → (∀ t, t < 512 → g2 t = nI (addB (mkB B) w s (rN nb (mkB B) fr w a s) (addS nb (mkB B) w (rN nb (mkB B) fr w a) s) b t)) → AA G X 0 0 83 [some (.ref m), some (.int (nI fr)), some (.int (nI to)), some (.int (nI k)), some (.int wv), some (.int (nI a)), some (.int (nI s)), some (.int (nI b))] [] σ5 from hE nb 0 σ4 g2 (Nat.zero_le _) rfl hF4 u1 u2 (fun t h => by rw [addB_0]; exact hu t h)
                  intro q
                  induction q with
                  | zero =>
                    intro b σ5 g2 hb hq hF5 w1 w2 hw
                    have e : nb = b := by omega
                    subst e
                    have o5 := lk_f hF5 ho (by omega)
                    refine A_iload (pc := 83) rfl hX dX12_rowsWithout_83 ?_
                    refine A_aload_n (pc := 85) rfl hX dX12_rowsWithout_85 ?_
                    refine A_getf (pc := 86) hX fl_X12_103_12 dX12_rowsWithout_86 (by repeat (first | assumption | exact aSet_s | exact aNew_s | refine lk_n ?_ (by omega) | refine lk_f (by assumption) ?_ (by omega) | refine lk_w ?_ (by omega))) (by exact rfl) ?_
                    refine A_icmp_ge (pc := 89) 142 hX dX12_rowsWithout_89 rfl (fun c89 => ?_) (fun c89 => ?_)
                    · refine A_iinc (pc := 142) (v := (nI (s + 1))) (lv' := [_, _, _, _, _, _, _, _]) hX dX12_rowsWithout_142 rfl (nI_succ s).symm rfl rfl ?_
                      refine A_goto (pc := 145) 72 hX dX12_rowsWithout_145 rfl ?_
                      exact ihD (s + 1) σ5 g2 _ (by omega) (by omega) hF5 w1 w2 (fun t h => by rw [addS_s]; exact hw t h)
                    · exact absurd (nI_le (Nat.le_refl _) (by omega)) c89
                  | succ q ihE =>
                    intro b σ5 g2 hb hq hF5 w1 w2 hw
                    have hbl : b < nb := by omega
                    have o5 := lk_f hF5 ho (by omega)
                    have ha5 := ha.fr hF5 (by omega)
                    have htl : mkB B b s < 512 := mkB_lt hok hbl hsl
                    have htc := nI_clamp (n := mkB B b s) (by omega)
                    have hgo : ∀ z : Nat, z = (if b = w then 0 else rN nb (mkB B) fr w a s) → AA G X 0 0 134 [some (.ref m), some (.int (nI fr)), some (.int (nI to)), some (.int (nI k)), some (.int wv), some (.int (nI a)), some (.int (nI s)), some (.int (nI b))] [.int (nI z), .int (nI (addB (mkB B) w s (rN nb (mkB B) fr w a s) (addS nb (mkB B) w (rN nb (mkB B) fr w a) s) b (mkB B b s))), .int (nI (mkB B b s)), .ref (m + 17)] σ5 := by
                      intro z hz
                      refine A_iadd (pc := 134) hX dX12_rowsWithout_134 ?_
                      refine A_top (y := nI (addB (mkB B) w s (rN nb (mkB B) fr w a s) (addS nb (mkB B) w (rN nb (mkB B) fr w a) s) b (mkB B b s) + z)) (nI_add _ _) ?_
                      refine A_iast (pc := 135) hX dX12_rowsWithout_135 (by repeat (first | assumption | exact aSet_s | exact aNew_s | refine lk_n ?_ (by omega) | refine lk_f (by assumption) ?_ (by omega) | refine lk_w ?_ (by omega))) (vp_in_nI (by omega) (by decide)) ?_
                      refine A_iinc (pc := 136) (v := (nI (b + 1))) (lv' := [_, _, _, _, _, _, _, _]) hX dX12_rowsWithout_136 rfl (nI_succ b).symm rfl rfl ?_
                      refine A_goto (pc := 139) 83 hX dX12_rowsWithout_139 rfl ?_
                      rw [htc]
                      exact ihE (b + 1) _ _ (by omega) (by omega) (by repeat (first | exact Fr.rf | refine Fr.set ?_ (by omega) (by omega) | refine Fr.tr ?_ (Fr.wd (by assumption) (by omega) (by omega)))) (lk_n w1 (by omega)) aSet_s (fun t h => by
                        rw [addB_s]
                        by_cases e : t = mkB B b s
                        · rw [e]
                          simp only [upd, if_pos]
                          rw [hz]
                          by_cases e2 : b = w
                          · rw [if_pos e2, if_pos (.inl e2)]
                          · rw [if_neg e2, if_neg (fun q => q.elim e2 (fun q => q trivial))]
                        · simp only [upd, if_neg e]
                          rw [if_pos (.inr e)]; exact hw t h)
                    refine A_iload (pc := 83) rfl hX dX12_rowsWithout_83 ?_
                    refine A_aload_n (pc := 85) rfl hX dX12_rowsWithout_85 ?_
                    refine A_getf (pc := 86) hX fl_X12_103_12 dX12_rowsWithout_86 (by repeat (first | assumption | exact aSet_s | exact aNew_s | refine lk_n ?_ (by omega) | refine lk_f (by assumption) ?_ (by omega) | refine lk_w ?_ (by omega))) (by exact rfl) ?_
                    refine A_icmp_ge (pc := 89) 142 hX dX12_rowsWithout_89 rfl (fun c89 => ?_) (fun c89 => ?_)
                    · exact absurd c89 (nI_ge hbl (by omega))
                    · refine A_aload_n (pc := 92) rfl hX dX12_rowsWithout_92 ?_
                      refine A_getf (pc := 93) hX fl_X12_56_12 dX12_rowsWithout_93 (by repeat (first | assumption | exact aSet_s | exact aNew_s | refine lk_n ?_ (by omega) | refine lk_f (by assumption) ?_ (by omega) | refine lk_w ?_ (by omega))) (by exact rfl) ?_
                      refine A_iload (pc := 96) rfl hX dX12_rowsWithout_96 ?_
                      refine A_iald (pc := 98) hX dX12_rowsWithout_98 (by repeat (first | assumption | exact aSet_s | exact aNew_s | refine lk_n ?_ (by omega) | refine lk_f (by assumption) ?_ (by omega) | refine lk_w ?_ (by omega))) (vp_in_nI (by omega) (by decide)) ?_
                      refine A_top (y := nI (rN nb (mkB B) fr w a s)) (by rw [hsc]; exact hy s hsl) ?_
                      refine A_if_le (pc := 99) 142 hX dX12_rowsWithout_99 rfl (fun c99 => ?_) (fun c99 => ?_)
                      · have hz0 : rN nb (mkB B) fr w a s = 0 := by have := (nI_leI (b := 0) (by omega) (by decide)).mp c99; omega
                        refine A_iinc (pc := 142) (v := (nI (s + 1))) (lv' := [_, _, _, _, _, _, _, _]) hX dX12_rowsWithout_142 rfl (nI_succ s).symm rfl rfl ?_
                        refine A_goto (pc := 145) 72 hX dX12_rowsWithout_145 rfl ?_
                        refine ihD (s + 1) σ5 g2 _ (by omega) (by omega) hF5 w1 w2 (fun t h => ?_)
                        rw [addS_s, hw t h, hz0, addB_z, addB_z]
                      · refine A_aload_n (pc := 102) rfl hX dX12_rowsWithout_102 ?_
                        refine A_getf (pc := 103) hX fl_X12_59_12 dX12_rowsWithout_103 (by repeat (first | assumption | exact aSet_s | exact aNew_s | refine lk_n ?_ (by omega) | refine lk_f (by assumption) ?_ (by omega) | refine lk_w ?_ (by omega))) (by exact rfl) ?_
                        refine A_aload_n (pc := 106) rfl hX dX12_rowsWithout_106 ?_
                        refine A_iload (pc := 107) rfl hX dX12_rowsWithout_107 ?_
                        refine A_iload (pc := 109) rfl hX dX12_rowsWithout_109 ?_
                        refine A_V2d (pc := 111) hX mk_X12_made lv_X12_141 dX12_rowsWithout_111 (by repeat (first | assumption | exact aSet_s | exact aNew_s | refine lk_n ?_ (by omega) | refine lk_f (by assumption) ?_ (by omega) | refine lk_w ?_ (by omega))) (ct_made l G o5 ha5 hbl hsl) rfl (Nat.le_of_ble_eq_true rfl) (Nat.le_of_ble_eq_true rfl) (Nat.le_of_ble_eq_true rfl) (Nat.le_of_ble_eq_true rfl) (Nat.le_of_ble_eq_true rfl) ?_
                        refine A_dup2 (pc := 114) rfl rfl hX dX12_rowsWithout_114 ?_
                        refine A_iald (pc := 115) hX dX12_rowsWithout_115 (by repeat (first | assumption | exact aSet_s | exact aNew_s | refine lk_n ?_ (by omega) | refine lk_f (by assumption) ?_ (by omega) | refine lk_w ?_ (by omega))) (vp_in_nI (by omega) (by decide)) ?_
                        refine A_top (y := nI (addB (mkB B) w s (rN nb (mkB B) fr w a s) (addS nb (mkB B) w (rN nb (mkB B) fr w a) s) b (mkB B b s))) (by rw [htc]; exact hw _ htl) ?_
                        refine A_iload (pc := 116) rfl hX dX12_rowsWithout_116 ?_
                        refine A_iload (pc := 118) rfl hX dX12_rowsWithout_118 ?_
                        refine A_icmp_ne (pc := 120) 127 hX dX12_rowsWithout_120 rfl (fun c120 => ?_) (fun c120 => ?_)
                        · refine A_aload_n (pc := 127) rfl hX dX12_rowsWithout_127 ?_
                          refine A_getf (pc := 128) hX fl_X12_56_12 dX12_rowsWithout_128 (by repeat (first | assumption | exact aSet_s | exact aNew_s | refine lk_n ?_ (by omega) | refine lk_f (by assumption) ?_ (by omega) | refine lk_w ?_ (by omega))) (by exact rfl) ?_
                          refine A_iload (pc := 131) rfl hX dX12_rowsWithout_131 ?_
                          refine A_iald (pc := 133) hX dX12_rowsWithout_133 (by repeat (first | assumption | exact aSet_s | exact aNew_s | refine lk_n ?_ (by omega) | refine lk_f (by assumption) ?_ (by omega) | refine lk_w ?_ (by omega))) (vp_in_nI (by omega) (by decide)) ?_
                          refine A_top (y := nI (rN nb (mkB B) fr w a s)) (by rw [hsc]; exact hy s hsl) ?_
                          exact hgo _ (by rw [if_neg (fun q => c120 ((hwv b hbl).mpr q))])
                        · refine A_iconst (pc := 123) (v := (nI 0)) (by decide) hX dX12_rowsWithout_123 ?_
                          refine A_goto (pc := 124) 134 hX dX12_rowsWithout_124 rfl ?_
                          exact hgo 0 (by rw [if_pos ((hwv b hbl).mp c120)])
            · exact absurd (nI_le (Nat.le_refl 512) (by decide)) c52
          | succ q ihC =>
            intro i σ3 g2 hi hq hF3 z1 z2 hz
            have hil : i < 512 := by omega
            have hic := nI_clamp (n := i) (by omega)
            have o3 := lk_f hF3 ho (by omega)
            refine A_iload (pc := 47) rfl hX dX12_rowsWithout_47 ?_
            refine A_sipush (pc := 49) (v := (nI 512)) (by decide) hX dX12_rowsWithout_49 ?_
            refine A_icmp_ge (pc := 52) 69 hX dX12_rowsWithout_52 rfl (fun c52 => ?_) (fun c52 => ?_)
            · exact absurd c52 (nI_ge hil (by decide))
            · refine A_aload_n (pc := 55) rfl hX dX12_rowsWithout_55 ?_
              refine A_getf (pc := 56) hX fl_X12_59_12 dX12_rowsWithout_56 (by repeat (first | assumption | exact aSet_s | exact aNew_s | refine lk_n ?_ (by omega) | refine lk_f (by assumption) ?_ (by omega) | refine lk_w ?_ (by omega))) (by exact rfl) ?_
              refine A_iload (pc := 59) rfl hX dX12_rowsWithout_59 ?_
              refine A_iconst (pc := 61) (v := (nI 0)) (by decide) hX dX12_rowsWithout_61 ?_
              refine A_iast (pc := 62) hX dX12_rowsWithout_62 (by repeat (first | assumption | exact aSet_s | exact aNew_s | refine lk_n ?_ (by omega) | refine lk_f (by assumption) ?_ (by omega) | refine lk_w ?_ (by omega))) (vp_in_nI (by omega) (by decide)) ?_
              refine A_iinc (pc := 63) (v := (nI (i + 1))) (lv' := [_, _, _, _, _, _, _, _]) hX dX12_rowsWithout_63 rfl (nI_succ i).symm rfl rfl ?_
              refine A_goto (pc := 66) 47 hX dX12_rowsWithout_66 rfl ?_
              rw [hic]
              exact ihC (i + 1) _ _ (by omega) (by omega) (by repeat (first | exact Fr.rf | refine Fr.set ?_ (by omega) (by omega) | refine Fr.tr ?_ (Fr.wd (by assumption) (by omega) (by omega)))) (lk_n z1 (by omega)) aSet_s (fun s h => by
                by_cases e : s = i
                · subst e; simp only [upd, if_pos]
                · simp only [upd, if_neg e]; exact hz s (by omega))
    · exact absurd (nI_le (Nat.le_refl 512) (by decide)) c8
  | succ q ih =>
    intro i σ1 g g2 hi hq hF x1 x2 hx
    have hil : i < 512 := by omega
    have hic := nI_clamp (n := i) (by omega)
    have o1 := lk_f hF ho (by omega)
    have hgo : AA G X 0 0 28 [some (.ref m), some (.int (nI fr)), some (.int (nI to)), some (.int (nI k)), some (.int wv), some (.int (nI i)), none, none] [.int (nI (rN nb (mkB B) fr w 0 i)), .int (nI i), .ref (m + 16)] σ1 := by
      skip
      refine A_iast (pc := 28) hX dX12_rowsWithout_28 (by repeat (first | assumption | exact aSet_s | exact aNew_s | refine lk_n ?_ (by omega) | refine lk_f (by assumption) ?_ (by omega) | refine lk_w ?_ (by omega))) (vp_in_nI (by omega) (by decide)) ?_
      refine A_iinc (pc := 29) (v := (nI (i + 1))) (lv' := [_, _, _, _, _, _, _, _]) hX dX12_rowsWithout_29 rfl (nI_succ i).symm rfl rfl ?_
      refine A_goto (pc := 32) 3 hX dX12_rowsWithout_32 rfl ?_
      rw [hic]
      exact ih (i + 1) _ _ _ (by omega) (by omega) (by repeat (first | exact Fr.rf | refine Fr.set ?_ (by omega) (by omega) | refine Fr.tr ?_ (Fr.wd (by assumption) (by omega) (by omega)))) aSet_s (lk_n x2 (by omega)) (fun s h => by
        by_cases e : s = i
        · subst e; simp only [upd, if_pos]
        · simp only [upd, if_neg e]; exact hx s (by omega))
    refine A_iload (pc := 3) rfl hX dX12_rowsWithout_3 ?_
    refine A_sipush (pc := 5) (v := (nI 512)) (by decide) hX dX12_rowsWithout_5 ?_
    refine A_icmp_ge (pc := 8) 35 hX dX12_rowsWithout_8 rfl (fun c8 => ?_) (fun c8 => ?_)
    · exact absurd c8 (nI_ge hil (by decide))
    · refine A_aload_n (pc := 11) rfl hX dX12_rowsWithout_11 ?_
      refine A_getf (pc := 12) hX fl_X12_56_12 dX12_rowsWithout_12 (by repeat (first | assumption | exact aSet_s | exact aNew_s | refine lk_n ?_ (by omega) | refine lk_f (by assumption) ?_ (by omega) | refine lk_w ?_ (by omega))) (by exact rfl) ?_
      refine A_iload (pc := 15) rfl hX dX12_rowsWithout_15 ?_
      refine A_iload (pc := 17) rfl hX dX12_rowsWithout_17 ?_
      refine A_iload_n (pc := 19) rfl hX dX12_rowsWithout_19 ?_
      refine A_icmp_ne (pc := 20) 27 hX dX12_rowsWithout_20 rfl (fun c20 => ?_) (fun c20 => ?_)
      · refine A_iconst (pc := 27) (v := (nI 0)) (by decide) hX dX12_rowsWithout_27 ?_
        exact A_top (by rw [rN_0, if_neg (fun q => c20 (by rw [q]))]) hgo
      · refine A_iconst (pc := 23) (v := (nI 1)) (by decide) hX dX12_rowsWithout_23 ?_
        refine A_goto (pc := 24) 28 hX dX12_rowsWithout_24 rfl ?_
        exact A_top (by rw [rN_0, if_pos ((nI_eq (by omega) (by omega)).mp c20)]) hgo
theorem hv_none {nb : Nat} (hnb : nb ≤ 6) : ∀ b, b < nb → (nI b = -1 ↔ b = 7) := fun b hb => ⟨fun q => absurd q (nI_ne1 (by omega)), fun q => absurd hb (by omega)⟩
theorem hv_one {nb c : Nat} (hnb : nb ≤ 6) (hc : c < nb) : ∀ b, b < nb → (nI b = nI c ↔ b = c) := fun b hb => nI_eq (by omega) (by omega)
theorem inV_eq {nb fr k to e : Nat} {B : BorT} (hnb : nb ≤ 6) (hp : 0 < rN nb (mkB B) fr 7 k to) (he : e < 64) (hb : ∀ w, w < 6 → bitN e w = decide (w < nb ∧ rN nb (mkB B) fr w k to = 0)) : nI e = inV nb (mkB B) fr k to := by
  rw [inV, if_neg (by omega)]
  congr 1
  refine w_ext he fun w hw => ?_
  rw [hb w hw]
  by_cases q : w < nb
  · simp only [q, true_and]
  · have : rN nb (mkB B) fr w k = rN nb (mkB B) fr 7 k := rN_cg (by omega) (by omega) k
    rw [decide_eq_false (fun z => q z.1), this, decide_eq_false (by omega)]
set_option maxRecDepth 100000 in
set_option maxHeartbeats 1000000 in
theorem ct_handsNow (l : Launch) (G : aG) {m tw nb nt hn len kt kn fr to k w : Nat} {dy fa nm kd : Int32} {wh hk : Bool} {sn hd : Int64} {σ : aS} (ho : σ.2 m = some (oM m tw nb nt dy hn len fa wh nm sn hk kt kn kd hd)) {B : BorT} (ha : RMa G m nb B σ) (hs1 : RMs G m σ) (hfr : fr < 512) (hto : to < 512) (hk : k ≤ 6) (hw : w < 2) : ACt l G yX12_handsNow cX12_handsNow 8 (some .int) 3 0 0 [.ref m, .int (nI fr), .int (nI to), .int (nI k), .int (nI w)] σ (iP (fun v σ' => v = (if w = 0 then nI (rN nb (mkB B) fr 7 k to) else inV nb (mkB B) fr k to) ∧ RMs G m σ' ∧ Fr (m + 16) (m + 18) σ σ')) := by
  have hnb := ha.1
  have tb : rN nb (mkB B) fr 7 k to ≤ 46656 := rN_bd hnb hk hto
  refine ACt.intro (own := RX12) (nm := "handsNow") mk_X12_handsNow rfl rfl [some (.ref m), some (.int (nI fr)), some (.int (nI to)), some (.int (nI k)), some (.int (nI w)), none, none, none] rfl (Nat.le_of_ble_eq_true rfl) (fun X hX hR => ?_)
  refine A_aload_n (pc := 0) rfl hX dX12_handsNow_0 ?_
  refine A_iload_n (pc := 1) rfl hX dX12_handsNow_1 ?_
  refine A_iload_n (pc := 2) rfl hX dX12_handsNow_2 ?_
  refine A_iload_n (pc := 3) rfl hX dX12_handsNow_3 ?_
  refine A_iconst (pc := 4) (v := (-1)) (by decide) hX dX12_handsNow_4 ?_
  refine A_V4i (pc := 5) hX mk_X12_rowsWithout lv_X12_185 dX12_handsNow_5 (by repeat (first | assumption | exact aSet_s | exact aNew_s | refine lk_n ?_ (by omega) | refine lk_f (by assumption) ?_ (by omega) | refine lk_w ?_ (by omega))) (ct_rowsWithout l G ho ha hs1 hfr hto hk (hv_none hnb)) rfl (Nat.le_of_ble_eq_true rfl) (Nat.le_of_ble_eq_true rfl) (Nat.le_of_ble_eq_true rfl) (Nat.le_of_ble_eq_true rfl) (Nat.le_of_ble_eq_true rfl) (fun x5 σ5 h5 => ?_)
  obtain ⟨rfl, g5, f5⟩ := h5
  have o5 := lk_f f5 ho (by omega)
  refine A_istore (pc := 8) (lv' := [_, _, _, _, _, _, _, _]) hX dX12_handsNow_8 (Nat.le_of_ble_eq_true rfl) rfl rfl ?_
  refine A_iload (pc := 10) rfl hX dX12_handsNow_10 ?_
  refine A_if_ne (pc := 12) 18 hX dX12_handsNow_12 rfl (fun c12 => ?_) (fun c12 => ?_)
  · have hw0 : ¬ w = 0 := fun q => c12 (by rw [q]; rfl)
    refine A_iconst (pc := 18) (v := (nI 0)) (by decide) hX dX12_handsNow_18 ?_
    refine A_istore (pc := 19) (lv' := [_, _, _, _, _, _, _, _]) hX dX12_handsNow_19 (Nat.le_of_ble_eq_true rfl) rfl rfl ?_
    refine A_iconst (pc := 21) (v := (nI 0)) (by decide) hX dX12_handsNow_21 ?_
    refine A_istore (pc := 22) (lv' := [_, _, _, _, _, _, _, _]) hX dX12_handsNow_22 (Nat.le_of_ble_eq_true rfl) rfl rfl ?_
    rcases Nat.eq_zero_or_pos (rN nb (mkB B) fr 7 k to) with hz | hp
    · skip
      refine A_iload (pc := 24) rfl hX dX12_handsNow_24 ?_
      refine A_aload_n (pc := 26) rfl hX dX12_handsNow_26 ?_
      refine A_getf (pc := 27) hX fl_X12_103_12 dX12_handsNow_27 (by repeat (first | assumption | exact aSet_s | exact aNew_s | refine lk_n ?_ (by omega) | refine lk_f (by assumption) ?_ (by omega) | refine lk_w ?_ (by omega))) (by exact rfl) ?_
      refine A_icmp_ge (pc := 30) 69 hX dX12_handsNow_30 rfl (fun c30 => ?_) (fun c30 => ?_)
      · refine A_iload (pc := 69) rfl hX dX12_handsNow_69 ?_
        refine A_iret (pc := 71) hX hR dX12_handsNow_71 rfl rfl ?_
        exact ⟨_, rfl, by rw [if_neg hw0, inV, if_pos hz]; rfl, g5, f5⟩
      · refine A_iload (pc := 33) rfl hX dX12_handsNow_33 ?_
        refine A_if_le (pc := 35) 69 hX dX12_handsNow_35 rfl (fun c35 => ?_) (fun c35 => ?_)
        · refine A_iload (pc := 69) rfl hX dX12_handsNow_69 ?_
          refine A_iret (pc := 71) hX hR dX12_handsNow_71 rfl rfl ?_
          exact ⟨_, rfl, by rw [if_neg hw0, inV, if_pos hz]; rfl, g5, f5⟩
        · exact absurd (by rw [hz]; decide) c35
    · suffices hl : ∀ (q b e : Nat) (σ1 : aS), b ≤ nb → nb - b = q → e < 64 → RMs G m σ1 → Fr (m + 16) (m + 18) σ σ1 → (∀ w, w < 6 → bitN e w = decide (w < b ∧ rN nb (mkB B) fr w k to = 0)) → AA G X 0 0 24 [some (.ref m), some (.int (nI fr)), some (.int (nI to)), some (.int (nI k)), some (.int (nI w)), some (.int (nI (rN nb (mkB B) fr 7 k to))), some (.int (nI e)), some (.int (nI b))] [] σ1 from hl nb 0 0 σ5 (Nat.zero_le _) rfl (by decide) g5 f5 (fun w hw => by rw [decide_eq_false (fun q => absurd q.1 (Nat.not_lt_zero w))]; exact (by decide +kernel : ∀ w, w < 6 → bitN 0 w = false) w hw)
      intro q
      induction q with
      | zero =>
        intro b e σ1 hb hq he hs2 hF hbit
        have eb : nb = b := by omega
        have o1 := lk_f hF ho (by omega)
        refine A_iload (pc := 24) rfl hX dX12_handsNow_24 ?_
        refine A_aload_n (pc := 26) rfl hX dX12_handsNow_26 ?_
        refine A_getf (pc := 27) hX fl_X12_103_12 dX12_handsNow_27 (by repeat (first | assumption | exact aSet_s | exact aNew_s | refine lk_n ?_ (by omega) | refine lk_f (by assumption) ?_ (by omega) | refine lk_w ?_ (by omega))) (by exact rfl) ?_
        refine A_icmp_ge (pc := 30) 69 hX dX12_handsNow_30 rfl (fun c30 => ?_) (fun c30 => ?_)
        · refine A_iload (pc := 69) rfl hX dX12_handsNow_69 ?_
          refine A_iret (pc := 71) hX hR dX12_handsNow_71 rfl rfl ?_
          exact ⟨_, rfl, by rw [if_neg hw0]; exact inV_eq hnb hp he (by subst eb; exact hbit), hs2, hF⟩
        · exact absurd (nI_le (by omega) (by omega)) c30
      | succ q ih =>
        intro b e σ1 hb hq he hs2 hF hbit
        have hbl : b < nb := by omega
        have o1 := lk_f hF ho (by omega)
        have ha1 := ha.fr hF (by omega)
        refine A_iload (pc := 24) rfl hX dX12_handsNow_24 ?_
        refine A_aload_n (pc := 26) rfl hX dX12_handsNow_26 ?_
        refine A_getf (pc := 27) hX fl_X12_103_12 dX12_handsNow_27 (by repeat (first | assumption | exact aSet_s | exact aNew_s | refine lk_n ?_ (by omega) | refine lk_f (by assumption) ?_ (by omega) | refine lk_w ?_ (by omega))) (by exact rfl) ?_
        refine A_icmp_ge (pc := 30) 69 hX dX12_handsNow_30 rfl (fun c30 => ?_) (fun c30 => ?_)
        · exact absurd c30 (nI_ge hbl (by omega))
        · refine A_iload (pc := 33) rfl hX dX12_handsNow_33 ?_
          refine A_if_le (pc := 35) 69 hX dX12_handsNow_35 rfl (fun c35 => ?_) (fun c35 => ?_)
          · exact absurd ((nI_leI (b := 0) (by omega) (by decide)).mp c35) (by omega)
          · refine A_iload (pc := 38) rfl hX dX12_handsNow_38 ?_
            refine A_aload_n (pc := 40) rfl hX dX12_handsNow_40 ?_
            refine A_iload_n (pc := 41) rfl hX dX12_handsNow_41 ?_
            refine A_iload_n (pc := 42) rfl hX dX12_handsNow_42 ?_
            refine A_iload_n (pc := 43) rfl hX dX12_handsNow_43 ?_
            refine A_iload (pc := 44) rfl hX dX12_handsNow_44 ?_
            refine A_V4i (pc := 46) hX mk_X12_rowsWithout lv_X12_185 dX12_handsNow_46 (by repeat (first | assumption | exact aSet_s | exact aNew_s | refine lk_n ?_ (by omega) | refine lk_f (by assumption) ?_ (by omega) | refine lk_w ?_ (by omega))) (ct_rowsWithout l G o1 ha1 hs2 hfr hto hk (hv_one hnb hbl)) rfl (Nat.le_of_ble_eq_true rfl) (Nat.le_of_ble_eq_true rfl) (Nat.le_of_ble_eq_true rfl) (Nat.le_of_ble_eq_true rfl) (Nat.le_of_ble_eq_true rfl) (fun x46 σ46 h46 => ?_)
            obtain ⟨rfl, g46, f46⟩ := h46
            refine A_if_ne (pc := 49) 59 hX dX12_handsNow_49 rfl (fun c49 => ?_) (fun c49 => ?_)
            · refine A_iconst (pc := 59) (v := (nI 0)) (by decide) hX dX12_handsNow_59 ?_
              refine A_ior (pc := 60) hX dX12_handsNow_60 ?_
              refine A_top (y := nI e) (i_or0 he) ?_
              refine A_istore (pc := 61) (lv' := [_, _, _, _, _, _, _, _]) hX dX12_handsNow_61 (Nat.le_of_ble_eq_true rfl) rfl rfl ?_
              refine A_iinc (pc := 63) (v := (nI (b + 1))) (lv' := [_, _, _, _, _, _, _, _]) hX dX12_handsNow_63 rfl (nI_succ b).symm rfl rfl ?_
              refine A_goto (pc := 66) 24 hX dX12_handsNow_66 rfl ?_
              refine ih (b + 1) e σ46 (by omega) (by omega) he g46 (hF.tr f46) (fun w hw => ?_)
              rw [hbit w hw]
              congr 1
              refine propext ⟨fun z => ⟨by omega, z.2⟩, fun z => ⟨?_, z.2⟩⟩
              rcases Nat.lt_or_ge w b with z1 | z1
              · exact z1
              · exact absurd (show w = b by omega) (fun z2 => c49 (by rw [← z2, z.2]; rfl))
            · refine A_iconst (pc := 52) (v := (nI 1)) (by decide) hX dX12_handsNow_52 ?_
              refine A_iload (pc := 53) rfl hX dX12_handsNow_53 ?_
              refine A_ishl (pc := 55) hX dX12_handsNow_55 ?_
              refine A_goto (pc := 56) 60 hX dX12_handsNow_56 rfl ?_
              refine A_ior (pc := 60) hX dX12_handsNow_60 ?_
              refine A_top (y := nI (e ||| 2 ^ b)) (i_or he (by omega)) ?_
              refine A_istore (pc := 61) (lv' := [_, _, _, _, _, _, _, _]) hX dX12_handsNow_61 (Nat.le_of_ble_eq_true rfl) rfl rfl ?_
              refine A_iinc (pc := 63) (v := (nI (b + 1))) (lv' := [_, _, _, _, _, _, _, _]) hX dX12_handsNow_63 rfl (nI_succ b).symm rfl rfl ?_
              refine A_goto (pc := 66) 24 hX dX12_handsNow_66 rfl ?_
              refine ih (b + 1) _ σ46 (by omega) (by omega) (or_64 he (by omega)) g46 (hF.tr f46) (fun w hw => ?_)
              rw [bit_or he (by omega) hw, hbit w hw]
              have hz0 := (nI_eq (b := 0) (by have := rN_bd (nb := nb) (mB := mkB B) (fr := fr) (w := b) (s := to) hnb hk hto; omega) (by decide)).mp c49
              by_cases z : b = w
              · rw [decide_eq_true z, Bool.or_true, decide_eq_true ⟨by omega, by rw [← z]; exact hz0⟩]
              · rw [decide_eq_false z, Bool.or_false]
                congr 1
                exact propext ⟨fun y => ⟨by omega, y.2⟩, fun y => ⟨by omega, y.2⟩⟩
  · have hw0 := (nI_eq (b := 0) (by omega) (by decide)).mp c12
    refine A_iload (pc := 15) rfl hX dX12_handsNow_15 ?_
    refine A_iret (pc := 17) hX hR dX12_handsNow_17 rfl rfl ?_
    exact ⟨_, rfl, by rw [if_pos hw0], g5, f5⟩
set_option maxRecDepth 100000 in
set_option maxHeartbeats 1000000 in
theorem ct_handsM (l : Launch) (G : aG) {m len nb nt kn tw hn : Nat} {cd : Nat → Nat} {B : BorT} {dy kd : Int32} {V KV : ThT} {hI : Bool} {σ : aS} (hM : RM G m len cd nb B nt dy V hI kn kd KV tw hn σ) (hh : hn ≤ 60) {x y k w : Int32} : ACt l G yX12_hands cX12_hands 5 (some .int) 4 0 0 [.ref m, .int x, .int y, .int k, .int w] σ (iP (fun v σ' => v = (stHands nb B hn x y k w).1 ∧ RM G m len cd nb B nt dy V hI kn kd KV tw (stHands nb B hn x y k w).2 σ' ∧ Fr m (m + 23) σ σ')) := by
  obtain ⟨fa, nm, wh, hk, sn, hd, kt, ho, ha, ht, hp, hn1, hs1, hkp, hI1, hI2⟩ := id hM
  have hnb := ha.1
  refine ACt.intro (own := RX12) (nm := "hands") mk_X12_hands rfl rfl [some (.ref m), some (.int x), some (.int y), some (.int k), some (.int w)] rfl (Nat.le_of_ble_eq_true rfl) (fun X hX hR => ?_)
  refine A_iload_n (pc := 0) rfl hX dX12_hands_0 ?_
  refine A_S1d (pc := 1) hX mk_X12_isState ls_X12_138 dX12_hands_1 (ct_isStateM l G) rfl (Nat.le_of_ble_eq_true rfl) (Nat.le_of_ble_eq_true rfl) (Nat.le_of_ble_eq_true rfl) (Nat.le_of_ble_eq_true rfl) (Nat.le_of_ble_eq_true rfl) ?_
  refine A_if_eq (pc := 4) 34 hX dX12_hands_4 rfl (fun c4 => ?_) (fun c4 => ?_)
  · have hx := bI_f c4
    refine A_bipush (pc := 34) (v := (-102)) (by decide) hX dX12_hands_34 ?_
    refine A_iret (pc := 36) hX hR dX12_hands_36 rfl rfl ?_
    rw [show stHands nb B hn x y k w = _ from if_neg (fun q => hx q.1)]
    exact ⟨_, rfl, rfl, hM, Fr.rf⟩
  · have hx := bI_ne c4
    refine A_iload_n (pc := 7) rfl hX dX12_hands_7 ?_
    refine A_S1d (pc := 8) hX mk_X12_isState ls_X12_138 dX12_hands_8 (ct_isStateM l G) rfl (Nat.le_of_ble_eq_true rfl) (Nat.le_of_ble_eq_true rfl) (Nat.le_of_ble_eq_true rfl) (Nat.le_of_ble_eq_true rfl) (Nat.le_of_ble_eq_true rfl) ?_
    refine A_if_eq (pc := 11) 34 hX dX12_hands_11 rfl (fun c11 => ?_) (fun c11 => ?_)
    · have hy := bI_f c11
      refine A_bipush (pc := 34) (v := (-102)) (by decide) hX dX12_hands_34 ?_
      refine A_iret (pc := 36) hX hR dX12_hands_36 rfl rfl ?_
      rw [show stHands nb B hn x y k w = _ from if_neg (fun q => hy q.2.1)]
      exact ⟨_, rfl, rfl, hM, Fr.rf⟩
    · have hy := bI_ne c11
      refine A_iload_n (pc := 14) rfl hX dX12_hands_14 ?_
      refine A_iconst (pc := 15) (v := (nI 0)) (by decide) hX dX12_hands_15 ?_
      refine A_bipush (pc := 16) (v := (nI 6)) (by decide) hX dX12_hands_16 ?_
      refine A_S3d (pc := 18) hX mk_X12_within ls_X12_77 dX12_hands_18 (ct_within l G ) rfl (Nat.le_of_ble_eq_true rfl) (Nat.le_of_ble_eq_true rfl) (Nat.le_of_ble_eq_true rfl) (Nat.le_of_ble_eq_true rfl) (Nat.le_of_ble_eq_true rfl) ?_
      refine A_top (y := bI (inN 7 k)) (by rw [winB_in (by decide)]) ?_
      refine A_if_eq (pc := 21) 34 hX dX12_hands_21 rfl (fun c21 => ?_) (fun c21 => ?_)
      · have hk1 := bI_f c21
        refine A_bipush (pc := 34) (v := (-102)) (by decide) hX dX12_hands_34 ?_
        refine A_iret (pc := 36) hX hR dX12_hands_36 rfl rfl ?_
        rw [show stHands nb B hn x y k w = _ from if_neg (fun q => hk1 q.2.2.1)]
        exact ⟨_, rfl, rfl, hM, Fr.rf⟩
      · have hkk := bI_ne c21
        refine A_iload (pc := 24) rfl hX dX12_hands_24 ?_
        refine A_iconst (pc := 26) (v := (nI 0)) (by decide) hX dX12_hands_26 ?_
        refine A_iconst (pc := 27) (v := (nI 1)) (by decide) hX dX12_hands_27 ?_
        refine A_S3d (pc := 28) hX mk_X12_within ls_X12_77 dX12_hands_28 (ct_within l G ) rfl (Nat.le_of_ble_eq_true rfl) (Nat.le_of_ble_eq_true rfl) (Nat.le_of_ble_eq_true rfl) (Nat.le_of_ble_eq_true rfl) (Nat.le_of_ble_eq_true rfl) ?_
        refine A_top (y := bI (inN 2 w)) (by rw [winB_in (by decide)]) ?_
        refine A_if_ne (pc := 31) 37 hX dX12_hands_31 rfl (fun c31 => ?_) (fun c31 => ?_)
        · have hw := bI_ne c31
          have hall := And.intro hx (And.intro hy (And.intro hkk hw))
          obtain ⟨x, hx1, rfl⟩ := inN_t (by decide) hx
          obtain ⟨y, hyy, rfl⟩ := inN_t (by decide) hy
          obtain ⟨k, hk1, rfl⟩ := inN_t (by decide) hkk
          obtain ⟨w, hw1, rfl⟩ := inN_t (by decide) hw
          refine A_aload_n (pc := 37) rfl hX dX12_hands_37 ?_
          refine A_getf (pc := 38) hX fl_X12_103_12 dX12_hands_38 (by repeat (first | assumption | exact aSet_s | exact aNew_s | refine lk_n ?_ (by omega) | refine lk_f (by assumption) ?_ (by omega) | refine lk_w ?_ (by omega))) (by exact rfl) ?_
          refine A_if_eq (pc := 41) 53 hX dX12_hands_41 rfl (fun c41 => ?_) (fun c41 => ?_)
          · have hz := (nI_eq (b := 0) (by omega) (by decide)).mp c41
            refine A_bipush (pc := 53) (v := (-103)) (by decide) hX dX12_hands_53 ?_
            refine A_iret (pc := 55) hX hR dX12_hands_55 rfl rfl ?_
            rw [show stHands nb B hn (nI x) (nI y) (nI k) (nI w) = _ from (by rw [stHands, if_pos hall, if_pos (.inl hz)])]
            exact ⟨_, rfl, rfl, hM, Fr.rf⟩
          · have hz : ¬ nb = 0 := fun q => c41 (by rw [q]; rfl)
            refine A_aload_n (pc := 44) rfl hX dX12_hands_44 ?_
            refine A_getf (pc := 45) hX fl_X12_189_12 dX12_hands_45 (by repeat (first | assumption | exact aSet_s | exact aNew_s | refine lk_n ?_ (by omega) | refine lk_f (by assumption) ?_ (by omega) | refine lk_w ?_ (by omega))) (by exact rfl) ?_
            refine A_bipush (pc := 48) (v := (nI 60)) (by decide) hX dX12_hands_48 ?_
            refine A_icmp_ne (pc := 50) 56 hX dX12_hands_50 rfl (fun c50 => ?_) (fun c50 => ?_)
            · have h60 : ¬ hn = 60 := fun q => c50 (by rw [q])
              have hno : ¬ (nb = 0 ∨ 60 ≤ hn) := by omega
              refine A_aload_n (pc := 56) rfl hX dX12_hands_56 ?_
              refine A_dup (pc := 57) rfl hX dX12_hands_57 ?_
              refine A_getf (pc := 58) hX fl_X12_189_12 dX12_hands_58 (by repeat (first | assumption | exact aSet_s | exact aNew_s | refine lk_n ?_ (by omega) | refine lk_f (by assumption) ?_ (by omega) | refine lk_w ?_ (by omega))) (by exact rfl) ?_
              refine A_iconst (pc := 61) (v := (nI 1)) (by decide) hX dX12_hands_61 ?_
              refine A_iadd (pc := 62) hX dX12_hands_62 ?_
              refine A_top (y := nI (hn + 1)) (nI_add _ _) ?_
              refine A_putf (pc := 63) (fs' := [_, _, _, _, _, _, _, _, _, _, _, _, _, _, _, _, _, _, _, _, _, _, _, _, _, _, _, _, _, _, _, _, _, _, _, _, _]) hX pl_X12_189_12 dX12_hands_63 (by repeat (first | assumption | exact aSet_s | exact aNew_s | refine lk_n ?_ (by omega) | refine lk_f (by assumption) ?_ (by omega) | refine lk_w ?_ (by omega))) (by exact Nat.le_of_ble_eq_true rfl) (by exact rfl) rfl rfl ?_
              refine A_gen (fun z => (z.2 m = some (oM m (tw) (nb) (nt) (dy) (hn + 1) (len) (fa) (wh) (nm) (sn) (hk) (kt) (kn) (kd) (hd))) ∧ Fr (m) (m + 1) σ z) ⟨aSet_s, (Fr.rf.set (by omega) (by omega))⟩ (fun σ66 hg => ?_)
              obtain ⟨h66, f66⟩ := hg
              refine A_aload_n (pc := 66) rfl hX dX12_hands_66 ?_
              refine A_iload_n (pc := 67) rfl hX dX12_hands_67 ?_
              refine A_iload_n (pc := 68) rfl hX dX12_hands_68 ?_
              refine A_iload_n (pc := 69) rfl hX dX12_hands_69 ?_
              refine A_iload (pc := 70) rfl hX dX12_hands_70 ?_
              refine A_V4i (pc := 72) hX mk_X12_handsNow lv_X12_192 dX12_hands_72 (by repeat (first | assumption | exact aSet_s | exact aNew_s | refine lk_n ?_ (by omega) | refine lk_f (by assumption) ?_ (by omega) | refine lk_w ?_ (by omega))) (ct_handsNow l G h66 (ha.fr f66 (by omega)) (hs1.fr f66 (by omega)) hx1 hyy (by omega) hw1) rfl (Nat.le_of_ble_eq_true rfl) (Nat.le_of_ble_eq_true rfl) (Nat.le_of_ble_eq_true rfl) (Nat.le_of_ble_eq_true rfl) (Nat.le_of_ble_eq_true rfl) (fun x72 σ72 h72 => ?_)
              obtain ⟨rfl, g72, f72⟩ := h72
              refine A_iret (pc := 75) hX hR dX12_hands_75 rfl rfl ?_
              rw [show stHands nb B hn (nI x) (nI y) (nI k) (nI w) = _ from (by rw [stHands, if_pos hall, if_neg hno, nI_clamp (by omega), nI_clamp (by omega), nI_clamp (by omega), nI_clamp (by omega)])]
              exact ⟨_, rfl, rfl, ⟨fa, nm, wh, hk, sn, hd, kt, (lk_f f72 h66 (by omega)), ((ha.fr f66 (by omega)).fr f72 (by omega)), ((ht.fr f66 (by omega)).fr f72 (by omega)), ((hp.fr f66 (by omega)).fr f72 (by omega)), ((hn1.fr f66 (by omega)).fr f72 (by omega)), g72, ((hkp.fr f66 (by omega)).fr f72 (by omega)), hI1, hI2⟩, (by repeat (first | exact Fr.rf | refine Fr.set ?_ (by omega) (by omega) | refine Fr.tr ?_ (Fr.wd (by assumption) (by omega) (by omega))))⟩
            · have h60 := (nI_eq (b := 60) (by omega) (by decide)).mp c50
              refine A_bipush (pc := 53) (v := (-103)) (by decide) hX dX12_hands_53 ?_
              refine A_iret (pc := 55) hX hR dX12_hands_55 rfl rfl ?_
              rw [show stHands nb B hn (nI x) (nI y) (nI k) (nI w) = _ from (by rw [stHands, if_pos hall, if_pos (.inr (by omega))])]
              exact ⟨_, rfl, rfl, hM, Fr.rf⟩
        · have hw := bI_f c31
          refine A_bipush (pc := 34) (v := (-102)) (by decide) hX dX12_hands_34 ?_
          refine A_iret (pc := 36) hX hR dX12_hands_36 rfl rfl ?_
          rw [show stHands nb B hn x y k w = _ from if_neg (fun q => hw q.2.2.2)]
          exact ⟨_, rfl, rfl, hM, Fr.rf⟩
