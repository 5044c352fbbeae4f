theorem allN_s {f : Nat → Nat} {n : Nat} : allN f (n + 1) = (allN f n && decide (f n = n)) := by rw [allN]
theorem bk_s {once : Nat → Nat} {n k : Nat} {now : Nat → Nat} : bk once (n + 1) k now = if allN (fun s => once (now s)) 512 = true then nI k else bk once n (k + 1) (fun s => once (now s)) := by rw [bk, allB]
set_option maxRecDepth 100000 in
set_option maxHeartbeats 1000000 in
theorem ct_backNow (l : Launch) (G : aG) {m tw nb nt hn len kt kn : Nat} {dy fa nm kd : Int32} {wh hk : Bool} {sn hd : Int64} {σ : aS} (ho : σ.2 m = some (oM m tw nb nt dy hn len fa wh nm sn hk kt kn kd hd)) {B : BorT} (ha : RMa G m nb B σ) {cd : Nat → Nat} (hp : RMp G m len cd σ) (hr : okR nb cd len) (hs1 : RMs G m σ) : ACt l G yX12_backNow cX12_backNow 4 (some .int) 3 0 0 [.ref m] σ (iP (fun v σ' => v = backOf (fun s => endF B cd len 0 s) ∧ RMs G m σ' ∧ Fr (m + 14) (m + 15) σ σ')) := by
  obtain ⟨hnb, hok, gk, gt, gm, gd, e1, e2, e3, e4, e5⟩ := id ha
  obtain ⟨sa, sb, sc, sd, se, s1, s2, s3, s4, s5⟩ := id hs1
  have hE : ∀ s, s < 512 → endF B cd len 0 s < 512 := fun s h => endF_lt hok hr len 0 s (by omega) h
  refine ACt.intro (own := RX12) (nm := "backNow") mk_X12_backNow rfl rfl [some (.ref m), none, none, none] rfl (Nat.le_of_ble_eq_true rfl) (fun X hX hR => ?_)
  refine A_iconst (pc := 0) (v := (nI 0)) (by decide) hX dX12_backNow_0 ?_
  refine A_istore_n (pc := 1) (lv' := [_, _, _, _]) hX dX12_backNow_1 (Nat.le_of_ble_eq_true rfl) rfl rfl ?_
  suffices hl : ∀ (q i : Nat) (σ1 : aS) (g : Nat → Int32), i ≤ 512 → 512 - i = q → Fr (m + 14) (m + 15) σ σ1 → σ1.2 (m + 14) = some (aI G 512 g) → (∀ s, s < i → g s = nI s) → AA G X 0 0 2 [some (.ref m), some (.int (nI i)), none, none] [] σ1 from hl 512 0 σ sa (Nat.zero_le _) rfl Fr.rf s1 (fun s h => absurd h (Nat.not_lt_zero s))
  intro q
  induction q with
  | zero =>
    intro i σ1 g hi hq hF x1 hx
    have e : 512 = i := by omega
    subst e
    refine A_iload_n (pc := 2) rfl hX dX12_backNow_2 ?_
    refine A_sipush (pc := 3) (v := (nI 512)) (by decide) hX dX12_backNow_3 ?_
    refine A_icmp_ge (pc := 6) 22 hX dX12_backNow_6 rfl (fun c6 => ?_) (fun c6 => ?_)
    · refine A_iconst (pc := 22) (v := (nI 1)) (by decide) hX dX12_backNow_22 ?_
      refine A_istore_n (pc := 23) (lv' := [_, _, _, _]) hX dX12_backNow_23 (Nat.le_of_ble_eq_true rfl) rfl rfl ?_
      suffices ho2 : ∀ (n k : Nat) (now : Nat → Nat) (σ2 : aS) (g : Nat → Int32) (v2 v3 : Option Value), k + n = 61 → Fr (m + 14) (m + 15) σ σ2 → σ2.2 (m + 14) = some (aI G 512 g) → (∀ s, s < 512 → g s = nI (now s) ∧ now s < 512) → backOf (fun s => endF B cd len 0 s) = bk (fun s => endF B cd len 0 s) n k now → AA G X 0 0 24 [some (.ref m), some (.int (nI k)), v2, v3] [] σ2 from ho2 60 1 (fun s => s) σ1 g none none rfl hF x1 (fun s h => ⟨hx s h, h⟩) rfl
      intro n
      induction n with
      | zero =>
        intro k now σ2 g v2 v3 hk hF2 y1 hy hb
        have e : k = 61 := by omega
        subst e
        refine A_iload_n (pc := 24) rfl hX dX12_backNow_24 ?_
        refine A_bipush (pc := 25) (v := (nI 60)) (by decide) hX dX12_backNow_25 ?_
        refine A_icmp_gt (pc := 27) 95 hX dX12_backNow_27 rfl (fun c27 => ?_) (fun c27 => ?_)
        · refine A_iconst (pc := 95) (v := (-1)) (by decide) hX dX12_backNow_95 ?_
          refine A_iret (pc := 96) hX hR dX12_backNow_96 rfl rfl ?_
          exact ⟨_, rfl, by rw [hb, bk], ⟨g, sb, sc, sd, se, y1, lk_f hF2 s2 (by omega), lk_f hF2 s3 (by omega), lk_f hF2 s4 (by omega), lk_f hF2 s5 (by omega)⟩, hF2⟩
        · exact absurd (by decide) c27
      | succ n ih =>
        intro k now σ2 g v2 v3 hk hF2 y1 hy hb
        have hkl : k ≤ 60 := by omega
        rw [bk_s] at hb
        refine A_iload_n (pc := 24) rfl hX dX12_backNow_24 ?_
        refine A_bipush (pc := 25) (v := (nI 60)) (by decide) hX dX12_backNow_25 ?_
        refine A_icmp_gt (pc := 27) 95 hX dX12_backNow_27 rfl (fun c27 => ?_) (fun c27 => ?_)
        · exact absurd c27 (nI_nlt (by omega) (by decide))
        · refine A_iconst (pc := 30) (v := (nI 1)) (by decide) hX dX12_backNow_30 ?_
          refine A_istore_n (pc := 31) (lv' := [_, _, _, _]) hX dX12_backNow_31 (Nat.le_of_ble_eq_true rfl) rfl rfl ?_
          refine A_iconst (pc := 32) (v := (nI 0)) (by decide) hX dX12_backNow_32 ?_
          refine A_istore_n (pc := 33) (lv' := [_, _, _, _]) hX dX12_backNow_33 (Nat.le_of_ble_eq_true rfl) rfl rfl ?_
          suffices hi : ∀ (q i : Nat) (σ3 : aS) (g : Nat → Int32), i ≤ 512 → 512 - i = q → Fr (m + 14) (m + 15) σ σ3 → σ3.2 (m + 14) = some (aI G 512 g) → (∀ s, s < i → g s = nI (endF B cd len 0 (now s))) → (∀ s, i ≤ s → s < 512 → g s = nI (now s)) → AA G X 0 0 34 [some (.ref m), some (.int (nI k)), some (.int (bI (allN (fun s => endF B cd len 0 (now s)) i))), some (.int (nI i))] [] σ3 from hi 512 0 σ2 g (Nat.zero_le _) rfl hF2 y1 (fun s h => absurd h (Nat.not_lt_zero s)) (fun s _ h => (hy s h).1)
          intro q
          induction q with
          | zero =>
            intro i σ3 g hi hq hF3 z1 hz1 hz2
            have e : 512 = i := by omega
            subst e
            refine A_iload_n (pc := 34) rfl hX dX12_backNow_34 ?_
            refine A_sipush (pc := 35) (v := (nI 512)) (by decide) hX dX12_backNow_35 ?_
            refine A_icmp_ge (pc := 38) 83 hX dX12_backNow_38 rfl (fun c38 => ?_) (fun c38 => ?_)
            · refine A_iload_n (pc := 83) rfl hX dX12_backNow_83 ?_
              refine A_if_eq (pc := 84) 89 hX dX12_backNow_84 rfl (fun c84 => ?_) (fun c84 => ?_)
              · rw [if_neg (bI_f c84)] at hb
                refine A_iinc (pc := 89) (v := (nI (k + 1))) (lv' := [_, _, _, _]) hX dX12_backNow_89 rfl (nI_succ k).symm rfl rfl ?_
                refine A_goto (pc := 92) 24 hX dX12_backNow_92 rfl ?_
                exact ih (k + 1) _ σ3 g _ _ (by omega) hF3 z1 (fun s h => ⟨hz1 s h, hE _ (hy s h).2⟩) hb
              · rw [if_pos (bI_ne c84)] at hb
                refine A_iload_n (pc := 87) rfl hX dX12_backNow_87 ?_
                refine A_iret (pc := 88) hX hR dX12_backNow_88 rfl rfl ?_
                exact ⟨_, rfl, hb.symm, ⟨g, sb, sc, sd, se, z1, lk_f hF3 s2 (by omega), lk_f hF3 s3 (by omega), lk_f hF3 s4 (by omega), lk_f hF3 s5 (by omega)⟩, hF3⟩
            · exact absurd (nI_le (Nat.le_refl 512) (by decide)) c38
          | succ q ihq =>
            intro i σ3 g hi hq hF3 z1 hz1 hz2
            have hil : i < 512 := by omega
            have hic := nI_clamp (n := i) (by omega)
            have o3 := lk_f hF3 ho (by omega)
            have ha3 := ha.fr hF3 (by omega)
            have hp3 := hp.fr hF3 (by omega)
            have hni := hE _ (hy i hil).2
            have hgo : ∀ (σ4 : aS) (z : Int32), σ4.2 (m + 14) = some (aI G 512 (upd g i (nI (endF B cd len 0 (now i))))) → Fr (m + 14) (m + 15) σ σ4 → z = bI (allN (fun s => endF B cd len 0 (now s)) (i + 1)) → AA G X 0 0 76 [some (.ref m), some (.int (nI k)), some (.int (bI (allN (fun s => endF B cd len 0 (now s)) i))), some (.int (nI i))] [.int z] σ4 := by
              intro σ4 z j1 j2 j3
              subst j3
              refine A_istore_n (pc := 76) (lv' := [_, _, _, _]) hX dX12_backNow_76 (Nat.le_of_ble_eq_true rfl) rfl rfl ?_
              refine A_iinc (pc := 77) (v := (nI (i + 1))) (lv' := [_, _, _, _]) hX dX12_backNow_77 rfl (nI_succ i).symm rfl rfl ?_
              refine A_goto (pc := 80) 34 hX dX12_backNow_80 rfl ?_
              exact ihq (i + 1) σ4 _ (by omega) (by omega) j2 j1 (fun s h => by
                by_cases e : s = i
                · subst e; simp only [upd, if_pos]
                · simp only [upd, if_neg e]; exact hz1 s (by omega)) (fun s h h2 => by simp only [upd, if_neg (show ¬ s = i by omega)]; exact hz2 s (by omega) h2)
            refine A_iload_n (pc := 34) rfl hX dX12_backNow_34 ?_
            refine A_sipush (pc := 35) (v := (nI 512)) (by decide) hX dX12_backNow_35 ?_
            refine A_icmp_ge (pc := 38) 83 hX dX12_backNow_38 rfl (fun c38 => ?_) (fun c38 => ?_)
            · exact absurd c38 (nI_ge hil (by decide))
            · refine A_aload_n (pc := 41) rfl hX dX12_backNow_41 ?_
              refine A_getf (pc := 42) hX fl_X12_50_12 dX12_backNow_42 (by repeat (first | assumption | exact aSet_s | exact aNew_s | refine lk_n ?_ (by omega) | refine lk_f (by assumption) ?_ (by omega) | refine lk_w ?_ (by omega))) (by exact rfl) ?_
              refine A_iload_n (pc := 45) rfl hX dX12_backNow_45 ?_
              refine A_aload_n (pc := 46) rfl hX dX12_backNow_46 ?_
              refine A_aload_n (pc := 47) rfl hX dX12_backNow_47 ?_
              refine A_getf (pc := 48) hX fl_X12_50_12 dX12_backNow_48 (by repeat (first | assumption | exact aSet_s | exact aNew_s | refine lk_n ?_ (by omega) | refine lk_f (by assumption) ?_ (by omega) | refine lk_w ?_ (by omega))) (by exact rfl) ?_
              refine A_iload_n (pc := 51) rfl hX dX12_backNow_51 ?_
              refine A_iald (pc := 52) hX dX12_backNow_52 (by repeat (first | assumption | exact aSet_s | exact aNew_s | refine lk_n ?_ (by omega) | refine lk_f (by assumption) ?_ (by omega) | refine lk_w ?_ (by omega))) (vp_in_nI (by omega) (by decide)) ?_
              refine A_top (y := nI (now i)) (by rw [hic]; exact hz2 i (Nat.le_refl _) hil) ?_
              refine A_V1d (pc := 53) hX mk_X12_endsOf lv_X12_178 dX12_backNow_53 (by repeat (first | assumption | exact aSet_s | exact aNew_s | refine lk_n ?_ (by omega) | refine lk_f (by assumption) ?_ (by omega) | refine lk_w ?_ (by omega))) (ct_endsOf l G o3 ha3 hp3 hr (hy i hil).2) rfl (Nat.le_of_ble_eq_true rfl) (Nat.le_of_ble_eq_true rfl) (Nat.le_of_ble_eq_true rfl) (Nat.le_of_ble_eq_true rfl) (Nat.le_of_ble_eq_true rfl) ?_
              refine A_iast (pc := 56) hX dX12_backNow_56 (by repeat (first | assumption | exact aSet_s | exact aNew_s | refine lk_n ?_ (by omega) | refine lk_f (by assumption) ?_ (by omega) | refine lk_w ?_ (by omega))) (vp_in_nI (by omega) (by decide)) ?_
              refine A_gen (fun z => z.2 (m + 14) = some (aI G 512 (upd g i (nI (endF B cd len 0 (now i))))) ∧ Fr (m + 14) (m + 15) σ z) ⟨aSet_s.trans (by rw [hic]), hF3.set (by omega) (by omega)⟩ (fun σ57 hg => ?_)
              obtain ⟨h57, f57⟩ := hg
              have o57 := lk_f f57 ho (by omega)
              refine A_iload_n (pc := 57) rfl hX dX12_backNow_57 ?_
              refine A_if_eq (pc := 58) 75 hX dX12_backNow_58 rfl (fun c58 => ?_) (fun c58 => ?_)
              · refine A_iconst (pc := 75) (v := (nI 0)) (by decide) hX dX12_backNow_75 ?_
                exact hgo σ57 _ h57 f57 (by rw [allN_s, bI_eq c58]; rfl)
              · refine A_aload_n (pc := 61) rfl hX dX12_backNow_61 ?_
                refine A_getf (pc := 62) hX fl_X12_50_12 dX12_backNow_62 (by repeat (first | assumption | exact aSet_s | exact aNew_s | refine lk_n ?_ (by omega) | refine lk_f (by assumption) ?_ (by omega) | refine lk_w ?_ (by omega))) (by exact rfl) ?_
                refine A_iload_n (pc := 65) rfl hX dX12_backNow_65 ?_
                refine A_iald (pc := 66) hX dX12_backNow_66 (by repeat (first | assumption | exact aSet_s | exact aNew_s | refine lk_n ?_ (by omega) | refine lk_f (by assumption) ?_ (by omega) | refine lk_w ?_ (by omega))) (vp_in_nI (by omega) (by decide)) ?_
                refine A_top (y := nI (endF B cd len 0 (now i))) (by rw [hic]; simp only [upd, if_pos]) ?_
                refine A_iload_n (pc := 67) rfl hX dX12_backNow_67 ?_
                refine A_icmp_ne (pc := 68) 75 hX dX12_backNow_68 rfl (fun c68 => ?_) (fun c68 => ?_)
                · refine A_iconst (pc := 75) (v := (nI 0)) (by decide) hX dX12_backNow_75 ?_
                  exact hgo σ57 _ h57 f57 (by rw [allN_s, decide_eq_false (fun q => c68 (by rw [q])), Bool.and_false]; rfl)
                · refine A_iconst (pc := 71) (v := (nI 1)) (by decide) hX dX12_backNow_71 ?_
                  refine A_goto (pc := 72) 76 hX dX12_backNow_72 rfl ?_
                  exact hgo σ57 _ h57 f57 (by rw [allN_s, bI_ne c58, decide_eq_true ((nI_eq (by omega) (by omega)).mp c68)]; rfl)
    · exact absurd (nI_le (Nat.le_refl 512) (by decide)) c6
  | succ q ih =>
    intro i σ1 g hi hq hF x1 hx
    have hil : i < 512 := by omega
    have hic := nI_clamp (n := i) (by omega)
    have o1 := lk_f hF ho (by omega)
    refine A_iload_n (pc := 2) rfl hX dX12_backNow_2 ?_
    refine A_sipush (pc := 3) (v := (nI 512)) (by decide) hX dX12_backNow_3 ?_
    refine A_icmp_ge (pc := 6) 22 hX dX12_backNow_6 rfl (fun c6 => ?_) (fun c6 => ?_)
    · exact absurd c6 (nI_ge hil (by decide))
    · refine A_aload_n (pc := 9) rfl hX dX12_backNow_9 ?_
      refine A_getf (pc := 10) hX fl_X12_50_12 dX12_backNow_10 (by repeat (first | assumption | exact aSet_s | exact aNew_s | refine lk_n ?_ (by omega) | refine lk_f (by assumption) ?_ (by omega) | refine lk_w ?_ (by omega))) (by exact rfl) ?_
      refine A_iload_n (pc := 13) rfl hX dX12_backNow_13 ?_
      refine A_iload_n (pc := 14) rfl hX dX12_backNow_14 ?_
      refine A_iast (pc := 15) hX dX12_backNow_15 (by repeat (first | assumption | exact aSet_s | exact aNew_s | refine lk_n ?_ (by omega) | refine lk_f (by assumption) ?_ (by omega) | refine lk_w ?_ (by omega))) (vp_in_nI (by omega) (by decide)) ?_
      refine A_iinc (pc := 16) (v := (nI (i + 1))) (lv' := [_, _, _, _]) hX dX12_backNow_16 rfl (nI_succ i).symm rfl rfl ?_
      refine A_goto (pc := 19) 2 hX dX12_backNow_19 rfl ?_
      rw [hic]
      exact ih (i + 1) _ _ (by omega) (by omega) (by repeat (first | exact Fr.rf | refine Fr.set ?_ (by omega) (by omega) | refine Fr.tr ?_ (Fr.wd (by assumption) (by omega) (by omega)))) aSet_s (fun s h => by
        by_cases e : s = i
        · subst e; simp only [upd, if_pos]
        · simp only [upd, if_neg e]; exact hx s (by omega))
set_option maxRecDepth 100000 in
set_option maxHeartbeats 1000000 in
theorem ct_roundM (l : Launch) (G : aG) {m len nb nt kn tw hn : Nat} {cd : Nat → Nat} {B : BorT} {dy kd : Int32} {V KV : ThT} {hI : Bool} {σ : aS} (hM : RM G m len cd nb B nt dy V hI kn kd KV tw hn σ) {s w : Int32} : ACt l G yX12_round cX12_round 3 (some .int) 4 0 0 [.ref m, .int s, .int w] σ (iP (fun v σ' => v = anRound len cd nb B s w ∧ RM G m len cd nb B nt dy V hI kn kd KV tw hn σ' ∧ Fr m (m + 23) σ σ')) := by
  obtain ⟨fa, nm, wh, hk, sn, hd, kt, ho, ha, ht, hp, hn1, hs1, hkp, hI1, hI2⟩ := id hM
  have hnb := ha.1
  refine ACt.intro (own := RX12) (nm := "round") mk_X12_round rfl rfl [some (.ref m), some (.int s), some (.int w)] rfl (Nat.le_of_ble_eq_true rfl) (fun X hX hR => ?_)
  refine A_iload_n (pc := 0) rfl hX dX12_round_0 ?_
  refine A_S1d (pc := 1) hX mk_X12_isState ls_X12_138 dX12_round_1 (ct_isStateM l G) rfl (Nat.le_of_ble_eq_true rfl) (Nat.le_of_ble_eq_true rfl) (Nat.le_of_ble_eq_true rfl) (Nat.le_of_ble_eq_true rfl) (Nat.le_of_ble_eq_true rfl) ?_
  refine A_if_eq (pc := 4) 16 hX dX12_round_4 rfl (fun c4 => ?_) (fun c4 => ?_)
  · have hx := bI_f c4
    refine A_bipush (pc := 16) (v := (-102)) (by decide) hX dX12_round_16 ?_
    refine A_iret (pc := 18) hX hR dX12_round_18 rfl rfl ?_
    rw [show anRound len cd nb B s w = _ from if_neg (fun q => hx q.1)]
    exact ⟨_, rfl, rfl, hM, Fr.rf⟩
  · have hx := bI_ne c4
    refine A_iload_n (pc := 7) rfl hX dX12_round_7 ?_
    refine A_iconst (pc := 8) (v := (nI 0)) (by decide) hX dX12_round_8 ?_
    refine A_iconst (pc := 9) (v := (nI 1)) (by decide) hX dX12_round_9 ?_
    refine A_S3d (pc := 10) hX mk_X12_within ls_X12_77 dX12_round_10 (ct_within l G ) rfl (Nat.le_of_ble_eq_true rfl) (Nat.le_of_ble_eq_true rfl) (Nat.le_of_ble_eq_true rfl) (Nat.le_of_ble_eq_true rfl) (Nat.le_of_ble_eq_true rfl) ?_
    refine A_top (y := bI (inN 2 w)) (by rw [winB_in (by decide)]) ?_
    refine A_if_ne (pc := 13) 19 hX dX12_round_13 rfl (fun c13 => ?_) (fun c13 => ?_)
    · have hw := bI_ne c13
      have hall := And.intro hx hw
      obtain ⟨s, hs1_, rfl⟩ := inN_t (by decide) hx
      obtain ⟨w, hw1, rfl⟩ := inN_t (by decide) hw
      refine A_aload_n (pc := 19) rfl hX dX12_round_19 ?_
      refine A_V0v (pc := 20) hX mk_X12_readRound lv_X12_109 dX12_round_20 (by repeat (first | assumption | exact aSet_s | exact aNew_s | refine lk_n ?_ (by omega) | refine lk_f (by assumption) ?_ (by omega) | refine lk_w ?_ (by omega))) (ct_readRound l G ho hp hnb) rfl (Nat.le_of_ble_eq_true rfl) (Nat.le_of_ble_eq_true rfl) (Nat.le_of_ble_eq_true rfl) (Nat.le_of_ble_eq_true rfl) (Nat.le_of_ble_eq_true rfl) (fun σ20 h20 => ?_)
      obtain ⟨h20, hf20⟩ := h20
      refine A_aload_n (pc := 23) rfl hX dX12_round_23 ?_
      refine A_getf (pc := 24) hX fl_X12_96_12 dX12_round_24 (by repeat (first | assumption | exact aSet_s | exact aNew_s | refine lk_n ?_ (by omega) | refine lk_f (by assumption) ?_ (by omega) | refine lk_w ?_ (by omega))) (by exact rfl) ?_
      refine A_if_ne (pc := 27) 33 hX dX12_round_27 rfl (fun c27 => ?_) (fun c27 => ?_)
      · have hr := bI_ne c27
        have hrok := isRnB_ok hr
        refine A_iload_n (pc := 33) rfl hX dX12_round_33 ?_
        refine A_if_ne (pc := 34) 44 hX dX12_round_34 rfl (fun c34 => ?_) (fun c34 => ?_)
        · have hw0 : ¬ w = 0 := fun q => c34 (by rw [q]; rfl)
          refine A_aload_n (pc := 44) rfl hX dX12_round_44 ?_
          refine A_iload_n (pc := 45) rfl hX dX12_round_45 ?_
          refine A_V1d (pc := 46) hX mk_X12_endsOf lv_X12_178 dX12_round_46 (by repeat (first | assumption | exact aSet_s | exact aNew_s | refine lk_n ?_ (by omega) | refine lk_f (by assumption) ?_ (by omega) | refine lk_w ?_ (by omega))) (ct_endsOf l G h20 (ha.fr hf20 (by omega)) (hp.fr hf20 (by omega)) hrok hs1_) rfl (Nat.le_of_ble_eq_true rfl) (Nat.le_of_ble_eq_true rfl) (Nat.le_of_ble_eq_true rfl) (Nat.le_of_ble_eq_true rfl) (Nat.le_of_ble_eq_true rfl) ?_
          refine A_iret (pc := 49) hX hR dX12_round_49 rfl rfl ?_
          rw [show anRound len cd nb B (nI s) (nI w) = _ from (by rw [anRound, if_pos hall, if_pos hr, nI_clamp (by omega), if_neg hw0, nI_clamp (by omega)])]
          exact ⟨_, rfl, rfl, ⟨_, nm, _, hk, sn, hd, kt, h20, (ha.fr hf20 (by omega)), (ht.fr hf20 (by omega)), (hp.fr hf20 (by omega)), (hn1.fr hf20 (by omega)), (hs1.fr hf20 (by omega)), (hkp.fr hf20 (by omega)), hI1, hI2⟩, (by repeat (first | exact Fr.rf | refine Fr.set ?_ (by omega) (by omega) | refine Fr.tr ?_ (Fr.wd (by assumption) (by omega) (by omega))))⟩
        · have hw0 := (nI_eq (b := 0) (by omega) (by decide)).mp c34
          refine A_aload_n (pc := 37) rfl hX dX12_round_37 ?_
          refine A_V0i (pc := 38) hX mk_X12_backNow lv_X12_181 dX12_round_38 (by repeat (first | assumption | exact aSet_s | exact aNew_s | refine lk_n ?_ (by omega) | refine lk_f (by assumption) ?_ (by omega) | refine lk_w ?_ (by omega))) (ct_backNow l G h20 (ha.fr hf20 (by omega)) (hp.fr hf20 (by omega)) hrok (hs1.fr hf20 (by omega))) rfl (Nat.le_of_ble_eq_true rfl) (Nat.le_of_ble_eq_true rfl) (Nat.le_of_ble_eq_true rfl) (Nat.le_of_ble_eq_true rfl) (Nat.le_of_ble_eq_true rfl) (fun x38 σ38 h38 => ?_)
          obtain ⟨rfl, hs38, hf38⟩ := h38
          refine A_goto (pc := 41) 49 hX dX12_round_41 rfl ?_
          refine A_iret (pc := 49) hX hR dX12_round_49 rfl rfl ?_
          rw [show anRound len cd nb B (nI s) (nI w) = _ from (by rw [anRound, if_pos hall, if_pos hr, nI_clamp (by omega), if_pos hw0])]
          exact ⟨_, rfl, rfl, ⟨_, nm, _, hk, sn, hd, kt, (lk_f hf38 h20 (by omega)), ((ha.fr hf20 (by omega)).fr hf38 (by omega)), ((ht.fr hf20 (by omega)).fr hf38 (by omega)), ((hp.fr hf20 (by omega)).fr hf38 (by omega)), ((hn1.fr hf20 (by omega)).fr hf38 (by omega)), hs38, ((hkp.fr hf20 (by omega)).fr hf38 (by omega)), hI1, hI2⟩, (by repeat (first | exact Fr.rf | refine Fr.set ?_ (by omega) (by omega) | refine Fr.tr ?_ (Fr.wd (by assumption) (by omega) (by omega))))⟩
      · have hr := bI_f c27
        refine A_bipush (pc := 30) (v := (-103)) (by decide) hX dX12_round_30 ?_
        refine A_iret (pc := 32) hX hR dX12_round_32 rfl rfl ?_
        rw [show anRound len cd nb B (nI s) (nI w) = _ from (by rw [anRound, if_pos hall, if_neg hr])]
        exact ⟨_, rfl, rfl, ⟨_, nm, _, hk, sn, hd, kt, h20, (ha.fr hf20 (by omega)), (ht.fr hf20 (by omega)), (hp.fr hf20 (by omega)), (hn1.fr hf20 (by omega)), (hs1.fr hf20 (by omega)), (hkp.fr hf20 (by omega)), hI1, hI2⟩, (by repeat (first | exact Fr.rf | refine Fr.set ?_ (by omega) (by omega) | refine Fr.tr ?_ (Fr.wd (by assumption) (by omega) (by omega))))⟩
    · have hw := bI_f c13
      refine A_bipush (pc := 16) (v := (-102)) (by decide) hX dX12_round_16 ?_
      refine A_iret (pc := 18) hX hR dX12_round_18 rfl rfl ?_
      rw [show anRound len cd nb B s w = _ from if_neg (fun q => hw q.2)]
      exact ⟨_, rfl, rfl, hM, Fr.rf⟩
