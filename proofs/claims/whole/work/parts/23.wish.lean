/-! what is told of wishes, of what can be reached, of spoilers -/
theorem wi_0 {nb : Nat} {B : BorT} {h s c : Nat} (hc : c < 4) (h2 : c % 2 = 0) : wiN nb B h s c = wC nb B (decide (1 < c)) h s := by
  rcases (by omega : c = 0 ∨ c = 2) with e | e <;> subst e <;> rfl
theorem wi_1 {nb : Nat} {B : BorT} {h s c : Nat} (hc : c < 4) (h2 : ¬ c % 2 = 0) : wiN nb B h s c = wF nb B (decide (1 < c)) h s := by
  rcases (by omega : c = 1 ∨ c = 3) with e | e <;> subst e <;> rfl
set_option maxRecDepth 100000 in
set_option maxHeartbeats 1000000 in
theorem ct_wishedNow (l : Launch) (G : aG) {m tw nb nt hn len kt kn i s c : Nat} {dy fa nm kd : Int32} {wh hk : Bool} {sn hd : Int64} {σ : aS} (ho : σ.2 m = some (oM m tw nb nt dy hn len fa wh nm sn hk kt kn kd hd)) {B : BorT} (ha : RMa G m nb B σ) {V : ThT} (ht : RMt G (m + 5) nt V σ) (hV : okV nb nt V) (hs1 : RMs G m σ) (hi : i < nt) (hs : s < 512) (hc : c < 4) : ACt l G yX12_wishedNow cX12_wishedNow 4 (some .int) 4 0 0 [.ref m, .int (nI i), .int (nI s), .int (nI c)] σ (iP (fun v σ' => v = wiN nb B (homeV B (V i)) s c ∧ RMs G m σ' ∧ Fr (m + 14) (m + 16) σ σ')) := by
  obtain ⟨hnb, hok, _⟩ := id ha
  have hnt : nt ≤ 4 := by obtain ⟨_, _, _, _, _, _, _, _, q, _⟩ := id ht; exact q
  have hh512 := homeV_lt hok hnb hV hi
  have hsc := nI_clamp (n := s) (by omega)
  refine ACt.intro (own := RX12) (nm := "wishedNow") mk_X12_wishedNow rfl rfl [some (.ref m), some (.int (nI i)), some (.int (nI s)), some (.int (nI c))] rfl (Nat.le_of_ble_eq_true rfl) (fun X hX hR => ?_)
  refine A_aload_n (pc := 0) rfl hX dX12_wishedNow_0 ?_
  refine A_aload_n (pc := 1) rfl hX dX12_wishedNow_1 ?_
  refine A_iload_n (pc := 2) rfl hX dX12_wishedNow_2 ?_
  refine A_V1d (pc := 3) hX mk_X12_homeState lv_X12_144 dX12_wishedNow_3 (by repeat (first | assumption | exact aSet_s | exact aNew_s | refine lk_n ?_ (by omega) | refine lk_f (by assumption) ?_ (by omega) | refine lk_w ?_ (by omega))) (ct_homeState l G ho ha ht hV hi) rfl (Nat.le_of_ble_eq_true rfl) (Nat.le_of_ble_eq_true rfl) (Nat.le_of_ble_eq_true rfl) (Nat.le_of_ble_eq_true rfl) (Nat.le_of_ble_eq_true rfl) ?_
  have h16 : AA G X 0 0 16 [some (.ref m), some (.int (nI i)), some (.int (nI s)), some (.int (nI c))] [.int (bI (decide (1 < c))), .int (nI (homeV B (V i))), .ref m] σ := by
    skip
    refine A_iconst (pc := 16) (v := (nI 0)) (by decide) hX dX12_wishedNow_16 ?_
    refine A_V3v (pc := 17) hX mk_X12_layWaves lv_X12_158 dX12_wishedNow_17 (by repeat (first | assumption | exact aSet_s | exact aNew_s | refine lk_n ?_ (by omega) | refine lk_f (by assumption) ?_ (by omega) | refine lk_w ?_ (by omega))) (ct_layWaves l G (byd := decide (1 < c)) (wo := 0) ho ha hs1 hh512 (by decide)) rfl (Nat.le_of_ble_eq_true rfl) (Nat.le_of_ble_eq_true rfl) (Nat.le_of_ble_eq_true rfl) (Nat.le_of_ble_eq_true rfl) (Nat.le_of_ble_eq_true rfl) (fun σ17 h17 => ?_)
    obtain ⟨⟨D, F, hp, g, f, x1, x2, hr⟩, g17, f17⟩ := h17
    have o17 := lk_f f17 ho (by omega)
    rw [alS0] at hp
    have hDi := hp.2.2.1 s hs
    have hDi2 : D s < 2 ^ 31 := by simp only [inf] at hDi; omega
    obtain ⟨hr1, hr2⟩ := hr s hs
    by_cases hD : D s < inf
    · have hw1 : D s < inf := hD
      refine A_aload_n (pc := 20) rfl hX dX12_wishedNow_20 ?_
      refine A_getf (pc := 21) hX fl_X12_50_12 dX12_wishedNow_21 (by repeat (first | assumption | exact aSet_s | exact aNew_s | refine lk_n ?_ (by omega) | refine lk_f (by assumption) ?_ (by omega) | refine lk_w ?_ (by omega))) (by exact rfl) ?_
      refine A_iload_n (pc := 24) rfl hX dX12_wishedNow_24 ?_
      refine A_iald (pc := 25) hX dX12_wishedNow_25 (by repeat (first | assumption | exact aSet_s | exact aNew_s | refine lk_n ?_ (by omega) | refine lk_f (by assumption) ?_ (by omega) | refine lk_w ?_ (by omega))) (vp_in_nI (by omega) (by decide)) ?_
      refine A_top (y := nI (D s)) (by rw [hsc]; exact hr1) ?_
      refine A_ldc (pc := 26) k_X12_153 hX dX12_wishedNow_26 ?_
      refine A_top (y := nI inf) (by decide +kernel) ?_
      refine A_icmp_ne (pc := 28) 33 hX dX12_wishedNow_28 rfl (fun c28 => ?_) (fun c28 => ?_)
      · refine A_iload_n (pc := 33) rfl hX dX12_wishedNow_33 ?_
        refine A_iconst (pc := 34) (v := (nI 2)) (by decide) hX dX12_wishedNow_34 ?_
        refine A_irem (pc := 35) (by decide) hX dX12_wishedNow_35 ?_
        refine A_top (y := nI (c % 2)) (pk_rem (by omega) (by decide) (by decide)) ?_
        refine A_if_ne (pc := 36) 48 hX dX12_wishedNow_36 rfl (fun c36 => ?_) (fun c36 => ?_)
        · have h2 : ¬ c % 2 = 0 := fun q => c36 (by rw [q]; rfl)
          refine A_aload_n (pc := 48) rfl hX dX12_wishedNow_48 ?_
          refine A_getf (pc := 49) hX fl_X12_53_12 dX12_wishedNow_49 (by repeat (first | assumption | exact aSet_s | exact aNew_s | refine lk_n ?_ (by omega) | refine lk_f (by assumption) ?_ (by omega) | refine lk_w ?_ (by omega))) (by exact rfl) ?_
          refine A_iload_n (pc := 52) rfl hX dX12_wishedNow_52 ?_
          refine A_iald (pc := 53) hX dX12_wishedNow_53 (by repeat (first | assumption | exact aSet_s | exact aNew_s | refine lk_n ?_ (by omega) | refine lk_f (by assumption) ?_ (by omega) | refine lk_w ?_ (by omega))) (vp_in_nI (by omega) (by decide)) ?_
          refine A_top (y := f s) (by rw [hsc]) ?_
          refine A_iret (pc := 54) hX hR dX12_wishedNow_54 rfl rfl ?_
          exact ⟨_, rfl, by rw [wi_1 hc h2, ← hp.nameF hok hs, ← hr2], g17, f17⟩
        · have h2 := (nI_eq (b := 0) (by omega) (by decide)).mp c36
          refine A_aload_n (pc := 39) rfl hX dX12_wishedNow_39 ?_
          refine A_getf (pc := 40) hX fl_X12_50_12 dX12_wishedNow_40 (by repeat (first | assumption | exact aSet_s | exact aNew_s | refine lk_n ?_ (by omega) | refine lk_f (by assumption) ?_ (by omega) | refine lk_w ?_ (by omega))) (by exact rfl) ?_
          refine A_iload_n (pc := 43) rfl hX dX12_wishedNow_43 ?_
          refine A_iald (pc := 44) hX dX12_wishedNow_44 (by repeat (first | assumption | exact aSet_s | exact aNew_s | refine lk_n ?_ (by omega) | refine lk_f (by assumption) ?_ (by omega) | refine lk_w ?_ (by omega))) (vp_in_nI (by omega) (by decide)) ?_
          refine A_top (y := g s) (by rw [hsc]) ?_
          refine A_goto (pc := 45) 54 hX dX12_wishedNow_45 rfl ?_
          refine A_iret (pc := 54) hX hR dX12_wishedNow_54 rfl rfl ?_
          exact ⟨_, rfl, by rw [wi_0 hc h2, ← hp.nameC hok hs, cV, if_pos hD, ← hr1], g17, f17⟩
      · exact absurd ((nI_eq hDi2 (Nat.le_of_ble_eq_true rfl)).mp c28) (by omega)
    · have hD2 : D s = inf := by omega
      refine A_aload_n (pc := 20) rfl hX dX12_wishedNow_20 ?_
      refine A_getf (pc := 21) hX fl_X12_50_12 dX12_wishedNow_21 (by repeat (first | assumption | exact aSet_s | exact aNew_s | refine lk_n ?_ (by omega) | refine lk_f (by assumption) ?_ (by omega) | refine lk_w ?_ (by omega))) (by exact rfl) ?_
      refine A_iload_n (pc := 24) rfl hX dX12_wishedNow_24 ?_
      refine A_iald (pc := 25) hX dX12_wishedNow_25 (by repeat (first | assumption | exact aSet_s | exact aNew_s | refine lk_n ?_ (by omega) | refine lk_f (by assumption) ?_ (by omega) | refine lk_w ?_ (by omega))) (vp_in_nI (by omega) (by decide)) ?_
      refine A_top (y := nI (D s)) (by rw [hsc]; exact hr1) ?_
      refine A_ldc (pc := 26) k_X12_153 hX dX12_wishedNow_26 ?_
      refine A_top (y := nI inf) (by decide +kernel) ?_
      refine A_icmp_ne (pc := 28) 33 hX dX12_wishedNow_28 rfl (fun c28 => ?_) (fun c28 => ?_)
      · exact absurd (by rw [hD2]) c28
      · refine A_iconst (pc := 31) (v := (-1)) (by decide) hX dX12_wishedNow_31 ?_
        refine A_iret (pc := 32) hX hR dX12_wishedNow_32 rfl rfl ?_
        refine ⟨_, rfl, ?_, g17, f17⟩
        by_cases h2 : c % 2 = 0
        · rw [wi_0 hc h2, ← hp.nameC hok hs, cV, if_neg hD]
        · rw [wi_1 hc h2, ← hp.nameF hok hs, fV, if_neg (fun q => hD q.1)]
  refine A_iload_n (pc := 6) rfl hX dX12_wishedNow_6 ?_
  refine A_iconst (pc := 7) (v := (nI 1)) (by decide) hX dX12_wishedNow_7 ?_
  refine A_icmp_le (pc := 8) 15 hX dX12_wishedNow_8 rfl (fun c8 => ?_) (fun c8 => ?_)
  · refine A_iconst (pc := 15) (v := (nI 0)) (by decide) hX dX12_wishedNow_15 ?_
    exact A_top (by rw [decide_eq_false (fun q => absurd ((nI_leI (b := 1) (by omega) (by decide)).mp c8) (by omega))]; rfl) h16
  · refine A_iconst (pc := 11) (v := (nI 1)) (by decide) hX dX12_wishedNow_11 ?_
    refine A_goto (pc := 12) 16 hX dX12_wishedNow_12 rfl ?_
    exact A_top (by rw [decide_eq_true (show 1 < c by rcases Nat.lt_or_ge 1 c with q | q; exact q; exact absurd (nI_le q (by decide)) c8)]; rfl) h16
set_option maxRecDepth 100000 in
set_option maxHeartbeats 1000000 in
theorem ct_wishedM (l : Launch) (G : aG) {m len nb nt kn tw hn : Nat} {cd : Nat → Nat} {B : BorT} {dy kd : Int32} {V KV : ThT} {hI : Bool} {σ : aS} (hM : RM G m len cd nb B nt dy V hI kn kd KV tw hn σ) (hV : okV nb nt V) {x s w : Int32} : ACt l G yX12_wished cX12_wished 4 (some .int) 5 0 0 [.ref m, .int x, .int s, .int w] σ (iP (fun v σ' => v = anWished nb B nt V x s w ∧ RM G m len cd nb B nt dy V hI kn kd KV tw hn σ' ∧ Fr m (m + 23) σ σ')) := by
  obtain ⟨fa, nm, wh, hk, sn, hd, kt, ho, ha, ht, hp, hn1, hs1, hkp, hI1, hI2⟩ := id hM
  have hnt : nt ≤ 4 := by obtain ⟨_, _, _, _, _, _, _, _, q, _⟩ := id ht; exact q
  refine ACt.intro (own := RX12) (nm := "wished") mk_X12_wished rfl rfl [some (.ref m), some (.int x), some (.int s), some (.int w)] rfl (Nat.le_of_ble_eq_true rfl) (fun X hX hR => ?_)
  refine A_aload_n (pc := 0) rfl hX dX12_wished_0 ?_
  refine A_iload_n (pc := 1) rfl hX dX12_wished_1 ?_
  refine A_V1d (pc := 2) hX mk_X12_isThing lv_X12_147 dX12_wished_2 (by repeat (first | assumption | exact aSet_s | exact aNew_s | refine lk_n ?_ (by omega) | refine lk_f (by assumption) ?_ (by omega) | refine lk_w ?_ (by omega))) (ct_isThing l G ho hnt) rfl (Nat.le_of_ble_eq_true rfl) (Nat.le_of_ble_eq_true rfl) (Nat.le_of_ble_eq_true rfl) (Nat.le_of_ble_eq_true rfl) (Nat.le_of_ble_eq_true rfl) ?_
  refine A_if_ne (pc := 5) 11 hX dX12_wished_5 rfl (fun c5 => ?_) (fun c5 => ?_)
  · have hin := bI_ne c5
    obtain ⟨i, hi1, rfl⟩ := inN_t (by omega) hin
    refine A_iload_n (pc := 11) rfl hX dX12_wished_11 ?_
    refine A_S1d (pc := 12) hX mk_X12_isState ls_X12_138 dX12_wished_12 (ct_isStateM l G) rfl (Nat.le_of_ble_eq_true rfl) (Nat.le_of_ble_eq_true rfl) (Nat.le_of_ble_eq_true rfl) (Nat.le_of_ble_eq_true rfl) (Nat.le_of_ble_eq_true rfl) ?_
    refine A_if_eq (pc := 15) 37 hX dX12_wished_15 rfl (fun c15 => ?_) (fun c15 => ?_)
    · have h1 := bI_f c15
      refine A_bipush (pc := 37) (v := (-102)) (by decide) hX dX12_wished_37 ?_
      refine A_iret (pc := 39) hX hR dX12_wished_39 rfl rfl ?_
      rw [show anWished nb B nt V (nI i) s w = _ from (by rw [anWished, if_pos hin, if_neg (fun q => h1 q.1)])]
      exact ⟨_, rfl, rfl, hM, Fr.rf⟩
    · have h1 := bI_ne c15
      refine A_iload_n (pc := 18) rfl hX dX12_wished_18 ?_
      refine A_iconst (pc := 19) (v := (nI 0)) (by decide) hX dX12_wished_19 ?_
      refine A_iconst (pc := 20) (v := (nI 3)) (by decide) hX dX12_wished_20 ?_
      refine A_S3d (pc := 21) hX mk_X12_within ls_X12_77 dX12_wished_21 (ct_within l G ) rfl (Nat.le_of_ble_eq_true rfl) (Nat.le_of_ble_eq_true rfl) (Nat.le_of_ble_eq_true rfl) (Nat.le_of_ble_eq_true rfl) (Nat.le_of_ble_eq_true rfl) ?_
      refine A_top (y := bI (inN 4 w)) (by rw [winB_in (by decide)]) ?_
      refine A_if_eq (pc := 24) 37 hX dX12_wished_24 rfl (fun c24 => ?_) (fun c24 => ?_)
      · have h2 := bI_f c24
        refine A_bipush (pc := 37) (v := (-102)) (by decide) hX dX12_wished_37 ?_
        refine A_iret (pc := 39) hX hR dX12_wished_39 rfl rfl ?_
        rw [show anWished nb B nt V (nI i) s w = _ from (by rw [anWished, if_pos hin, if_neg (fun q => h2 q.2)])]
        exact ⟨_, rfl, rfl, hM, Fr.rf⟩
      · have h2 := bI_ne c24
        have hall := And.intro h1 h2
        obtain ⟨s, hsx, rfl⟩ := inN_t (by decide) h1
        obtain ⟨w, hw1, rfl⟩ := inN_t (by decide) h2
        refine A_aload_n (pc := 27) rfl hX dX12_wished_27 ?_
        refine A_iload_n (pc := 28) rfl hX dX12_wished_28 ?_
        refine A_iload_n (pc := 29) rfl hX dX12_wished_29 ?_
        refine A_iload_n (pc := 30) rfl hX dX12_wished_30 ?_
        refine A_V3i (pc := 31) hX mk_X12_wishedNow lv_X12_162 dX12_wished_31 (by repeat (first | assumption | exact aSet_s | exact aNew_s | refine lk_n ?_ (by omega) | refine lk_f (by assumption) ?_ (by omega) | refine lk_w ?_ (by omega))) (ct_wishedNow l G ho ha ht hV hs1 hi1 hsx hw1) rfl (Nat.le_of_ble_eq_true rfl) (Nat.le_of_ble_eq_true rfl) (Nat.le_of_ble_eq_true rfl) (Nat.le_of_ble_eq_true rfl) (Nat.le_of_ble_eq_true rfl) (fun x31 σ31 h31 => ?_)
        obtain ⟨rfl, g31, f31⟩ := h31
        refine A_goto (pc := 34) 39 hX dX12_wished_34 rfl ?_
        refine A_iret (pc := 39) hX hR dX12_wished_39 rfl rfl ?_
        rw [show anWished nb B nt V (nI i) (nI s) (nI w) = _ from (by rw [anWished, if_pos hin, if_pos hall, nI_clamp (by omega), nI_clamp (by omega), nI_clamp (by omega)])]
        exact ⟨_, rfl, rfl, ⟨fa, nm, wh, hk, sn, hd, kt, (lk_f f31 ho (by omega)), (ha.fr f31 (by omega)), (ht.fr f31 (by omega)), (hp.fr f31 (by omega)), (hn1.fr f31 (by omega)), g31, (hkp.fr f31 (by omega)), hI1, hI2⟩, (by repeat (first | exact Fr.rf | refine Fr.set ?_ (by omega) (by omega) | refine Fr.tr ?_ (Fr.wd (by assumption) (by omega) (by omega))))⟩
  · have hno := bI_f c5
    refine A_bipush (pc := 8) (v := (-101)) (by decide) hX dX12_wished_8 ?_
    refine A_iret (pc := 10) hX hR dX12_wished_10 rfl rfl ?_
    rw [show anWished nb B nt V x s w = _ from if_neg hno]
    exact ⟨_, rfl, rfl, hM, Fr.rf⟩
set_option maxRecDepth 100000 in
set_option maxHeartbeats 1000000 in
theorem ct_reachNow (l : Launch) (G : aG) {m tw nb nt hn len kt kn i : Nat} {dy fa nm kd : Int32} {wh hk : Bool} {sn hd : Int64} {σ : aS} (ho : σ.2 m = some (oM m tw nb nt dy hn len fa wh nm sn hk kt kn kd hd)) {B : BorT} (ha : RMa G m nb B σ) {V : ThT} (ht : RMt G (m + 5) nt V σ) (hV : okV nb nt V) (hs1 : RMs G m σ) (hi : i < nt) : ACt l G yX12_reachNow cX12_reachNow 4 (some .int) 4 0 0 [.ref m, .int (nI i)] σ (iP (fun v σ' => v = wR nb B (homeV B (V i)) ∧ RMs G m σ' ∧ Fr (m + 14) (m + 16) σ σ')) := by
  obtain ⟨hnb, hok, _⟩ := id ha
  have hnt : nt ≤ 4 := by obtain ⟨_, _, _, _, _, _, _, _, q, _⟩ := id ht; exact q
  have hh512 := homeV_lt hok hnb hV hi
  refine ACt.intro (own := RX12) (nm := "reachNow") mk_X12_reachNow rfl rfl [some (.ref m), some (.int (nI i)), none, none] rfl (Nat.le_of_ble_eq_true rfl) (fun X hX hR => ?_)
  refine A_aload_n (pc := 0) rfl hX dX12_reachNow_0 ?_
  refine A_aload_n (pc := 1) rfl hX dX12_reachNow_1 ?_
  refine A_iload_n (pc := 2) rfl hX dX12_reachNow_2 ?_
  refine A_V1d (pc := 3) hX mk_X12_homeState lv_X12_144 dX12_reachNow_3 (by repeat (first | assumption | exact aSet_s | exact aNew_s | refine lk_n ?_ (by omega) | refine lk_f (by assumption) ?_ (by omega) | refine lk_w ?_ (by omega))) (ct_homeState l G ho ha ht hV hi) rfl (Nat.le_of_ble_eq_true rfl) (Nat.le_of_ble_eq_true rfl) (Nat.le_of_ble_eq_true rfl) (Nat.le_of_ble_eq_true rfl) (Nat.le_of_ble_eq_true rfl) ?_
  refine A_iconst (pc := 6) (v := (nI 0)) (by decide) hX dX12_reachNow_6 ?_
  refine A_iconst (pc := 7) (v := (nI 0)) (by decide) hX dX12_reachNow_7 ?_
  refine A_V3v (pc := 8) hX mk_X12_layWaves lv_X12_158 dX12_reachNow_8 (by repeat (first | assumption | exact aSet_s | exact aNew_s | refine lk_n ?_ (by omega) | refine lk_f (by assumption) ?_ (by omega) | refine lk_w ?_ (by omega))) (ct_layWaves l G (byd := false) (wo := 0) ho ha hs1 hh512 (by decide)) rfl (Nat.le_of_ble_eq_true rfl) (Nat.le_of_ble_eq_true rfl) (Nat.le_of_ble_eq_true rfl) (Nat.le_of_ble_eq_true rfl) (Nat.le_of_ble_eq_true rfl) (fun σ8 h8 => ?_)
  obtain ⟨⟨D, F, hp, g, f, x1, x2, hr⟩, g8, f8⟩ := h8
  have o8 := lk_f f8 ho (by omega)
  refine A_iconst (pc := 11) (v := (nI 0)) (by decide) hX dX12_reachNow_11 ?_
  refine A_istore_n (pc := 12) (lv' := [_, _, _, _]) hX dX12_reachNow_12 (Nat.le_of_ble_eq_true rfl) rfl rfl ?_
  refine A_iconst (pc := 13) (v := (nI 0)) (by decide) hX dX12_reachNow_13 ?_
  refine A_istore_n (pc := 14) (lv' := [_, _, _, _]) hX dX12_reachNow_14 (Nat.le_of_ble_eq_true rfl) rfl rfl ?_
  rw [alS0] at hp
  suffices hl : ∀ (q k : Nat), k ≤ 512 → 512 - k = q → AA G X 0 0 15 [some (.ref m), some (.int (nI i)), some (.int (nI (cntN (fun s => decide (D s < inf)) k))), some (.int (nI k))] [] σ8 from hl 512 0 (Nat.zero_le _) rfl
  intro q
  induction q with
  | zero =>
    intro k hk hq
    have e : 512 = k := by omega
    subst e
    refine A_iload_n (pc := 15) rfl hX dX12_reachNow_15 ?_
    refine A_sipush (pc := 16) (v := (nI 512)) (by decide) hX dX12_reachNow_16 ?_
    refine A_icmp_ge (pc := 19) 47 hX dX12_reachNow_19 rfl (fun c19 => ?_) (fun c19 => ?_)
    · refine A_iload_n (pc := 47) rfl hX dX12_reachNow_47 ?_
      refine A_iret (pc := 48) hX hR dX12_reachNow_48 rfl rfl ?_
      exact ⟨_, rfl, hp.nameR hok, g8, f8⟩
    · exact absurd (nI_le (Nat.le_refl 512) (by decide)) c19
  | succ q ih =>
    intro k hk hq
    have hkl : k < 512 := by omega
    have hkc := nI_clamp (n := k) (by omega)
    have hDi := hp.2.2.1 k hkl
    have hDi2 : D k < 2 ^ 31 := by simp only [inf] at hDi; omega
    have h39 : ∀ z : Nat, cntN (fun s => decide (D s < inf)) (k + 1) = cntN (fun s => decide (D s < inf)) k + z → AA G X 0 0 39 [some (.ref m), some (.int (nI i)), some (.int (nI (cntN (fun s => decide (D s < inf)) k))), some (.int (nI k))] [.int (nI z), .int (nI (cntN (fun s => decide (D s < inf)) k))] σ8 := by
      intro z hz
      refine A_iadd (pc := 39) hX dX12_reachNow_39 ?_
      refine A_top (y := nI (cntN (fun s => decide (D s < inf)) (k + 1))) (by rw [nI_add, hz]) ?_
      refine A_istore_n (pc := 40) (lv' := [_, _, _, _]) hX dX12_reachNow_40 (Nat.le_of_ble_eq_true rfl) rfl rfl ?_
      refine A_iinc (pc := 41) (v := (nI (k + 1))) (lv' := [_, _, _, _]) hX dX12_reachNow_41 rfl (nI_succ k).symm rfl rfl ?_
      refine A_goto (pc := 44) 15 hX dX12_reachNow_44 rfl ?_
      exact ih (k + 1) (by omega) (by omega)
    refine A_iload_n (pc := 15) rfl hX dX12_reachNow_15 ?_
    refine A_sipush (pc := 16) (v := (nI 512)) (by decide) hX dX12_reachNow_16 ?_
    refine A_icmp_ge (pc := 19) 47 hX dX12_reachNow_19 rfl (fun c19 => ?_) (fun c19 => ?_)
    · exact absurd c19 (nI_ge hkl (by decide))
    · refine A_iload_n (pc := 22) rfl hX dX12_reachNow_22 ?_
      refine A_aload_n (pc := 23) rfl hX dX12_reachNow_23 ?_
      refine A_getf (pc := 24) hX fl_X12_50_12 dX12_reachNow_24 (by repeat (first | assumption | exact aSet_s | exact aNew_s | refine lk_n ?_ (by omega) | refine lk_f (by assumption) ?_ (by omega) | refine lk_w ?_ (by omega))) (by exact rfl) ?_
      refine A_iload_n (pc := 27) rfl hX dX12_reachNow_27 ?_
      refine A_iald (pc := 28) hX dX12_reachNow_28 (by repeat (first | assumption | exact aSet_s | exact aNew_s | refine lk_n ?_ (by omega) | refine lk_f (by assumption) ?_ (by omega) | refine lk_w ?_ (by omega))) (vp_in_nI (by omega) (by decide)) ?_
      refine A_top (y := nI (D k)) (by rw [hkc]; exact (hr k hkl).1) ?_
      refine A_ldc (pc := 29) k_X12_153 hX dX12_reachNow_29 ?_
      refine A_top (y := nI inf) (by decide +kernel) ?_
      refine A_icmp_ne (pc := 31) 38 hX dX12_reachNow_31 rfl (fun c31 => ?_) (fun c31 => ?_)
      · refine A_iconst (pc := 38) (v := (nI 1)) (by decide) hX dX12_reachNow_38 ?_
        exact h39 1 (by rw [cntN, if_pos (decide_eq_true (show D k < inf by have : ¬ D k = inf := fun q => c31 (by rw [q]); omega))])
      · have hq2 := (nI_eq hDi2 (Nat.le_of_ble_eq_true rfl)).mp c31
        refine A_iconst (pc := 34) (v := (nI 0)) (by decide) hX dX12_reachNow_34 ?_
        refine A_goto (pc := 35) 39 hX dX12_reachNow_35 rfl ?_
        exact h39 0 (by rw [cntN, if_neg (fun q => absurd (of_decide_eq_true q) (by omega))])
set_option maxRecDepth 100000 in
set_option maxHeartbeats 1000000 in
theorem ct_reachM (l : Launch) (G : aG) {m len nb nt kn tw hn : Nat} {cd : Nat → Nat} {B : BorT} {dy kd : Int32} {V KV : ThT} {hI : Bool} {σ : aS} (hM : RM G m len cd nb B nt dy V hI kn kd KV tw hn σ) (hV : okV nb nt V) {x : Int32} : ACt l G yX12_reach cX12_reach 2 (some .int) 5 0 0 [.ref m, .int x] σ (iP (fun v σ' => v = anReach nb B nt V x ∧ RM G m len cd nb B nt dy V hI kn kd KV tw hn σ' ∧ Fr m (m + 23) σ σ')) := by
  obtain ⟨fa, nm, wh, hk, sn, hd, kt, ho, ha, ht, hp, hn1, hs1, hkp, hI1, hI2⟩ := id hM
  have hnt : nt ≤ 4 := by obtain ⟨_, _, _, _, _, _, _, _, q, _⟩ := id ht; exact q
  refine ACt.intro (own := RX12) (nm := "reach") mk_X12_reach rfl rfl [some (.ref m), some (.int x)] rfl (Nat.le_of_ble_eq_true rfl) (fun X hX hR => ?_)
  refine A_aload_n (pc := 0) rfl hX dX12_reach_0 ?_
  refine A_iload_n (pc := 1) rfl hX dX12_reach_1 ?_
  refine A_V1d (pc := 2) hX mk_X12_isThing lv_X12_147 dX12_reach_2 (by repeat (first | assumption | exact aSet_s | exact aNew_s | refine lk_n ?_ (by omega) | refine lk_f (by assumption) ?_ (by omega) | refine lk_w ?_ (by omega))) (ct_isThing l G ho hnt) rfl (Nat.le_of_ble_eq_true rfl) (Nat.le_of_ble_eq_true rfl) (Nat.le_of_ble_eq_true rfl) (Nat.le_of_ble_eq_true rfl) (Nat.le_of_ble_eq_true rfl) ?_
  refine A_if_eq (pc := 5) 16 hX dX12_reach_5 rfl (fun c5 => ?_) (fun c5 => ?_)
  · have hno := bI_f c5
    refine A_bipush (pc := 16) (v := (-101)) (by decide) hX dX12_reach_16 ?_
    refine A_iret (pc := 18) hX hR dX12_reach_18 rfl rfl ?_
    rw [show anReach nb B nt V x = _ from if_neg hno]
    exact ⟨_, rfl, rfl, hM, Fr.rf⟩
  · have hin := bI_ne c5
    obtain ⟨i, hi1, rfl⟩ := inN_t (by omega) hin
    refine A_aload_n (pc := 8) rfl hX dX12_reach_8 ?_
    refine A_iload_n (pc := 9) rfl hX dX12_reach_9 ?_
    refine A_V1i (pc := 10) hX mk_X12_reachNow lv_X12_165 dX12_reach_10 (by repeat (first | assumption | exact aSet_s | exact aNew_s | refine lk_n ?_ (by omega) | refine lk_f (by assumption) ?_ (by omega) | refine lk_w ?_ (by omega))) (ct_reachNow l G ho ha ht hV hs1 hi1) rfl (Nat.le_of_ble_eq_true rfl) (Nat.le_of_ble_eq_true rfl) (Nat.le_of_ble_eq_true rfl) (Nat.le_of_ble_eq_true rfl) (Nat.le_of_ble_eq_true rfl) (fun x10 σ10 h10 => ?_)
    obtain ⟨rfl, g10, f10⟩ := h10
    refine A_goto (pc := 13) 18 hX dX12_reach_13 rfl ?_
    refine A_iret (pc := 18) hX hR dX12_reach_18 rfl rfl ?_
    rw [show anReach nb B nt V (nI i) = _ from (by rw [anReach, if_pos hin, nI_clamp (by omega)])]
    exact ⟨_, rfl, rfl, ⟨fa, nm, wh, hk, sn, hd, kt, (lk_f f10 ho (by omega)), (ha.fr f10 (by omega)), (ht.fr f10 (by omega)), (hp.fr f10 (by omega)), (hn1.fr f10 (by omega)), g10, (hkp.fr f10 (by omega)), hI1, hI2⟩, (by repeat (first | exact Fr.rf | refine Fr.set ?_ (by omega) (by omega) | refine Fr.tr ?_ (Fr.wd (by assumption) (by omega) (by omega))))⟩
set_option maxRecDepth 100000 in
set_option maxHeartbeats 1000000 in
theorem ct_isSafe (l : Launch) (G : aG) {m tw nb nt hn len kt kn i tr ls st : Nat} {dy fa nm kd : Int32} {wh hk : Bool} {sn hd : Int64} {σ : aS} (ho : σ.2 m = some (oM m tw nb nt dy hn len fa wh nm sn hk kt kn kd hd)) {B : BorT} (ha : RMa G m nb B σ) {V : ThT} (ht : RMt G (m + 5) nt V σ) (hV : okV nb nt V) (hs1 : RMs G m σ) (hi : i < nt) (htr : tr < 3) (hls : ls < 8) (hst : st < 64) : ACt l G yX12_isSafe cX12_isSafe 7 (some (.boolean)) 4 0 0 [.ref m, .int (nI i), .int (nI tr), .int (nI ls), .int (nI st)] σ (iP (fun v σ' => ∃ a : Bool, v = bI a ∧ (a = true ↔ safeS nb B (homeV B (V i)) tr ls st) ∧ RMs G m σ' ∧ Fr (m + 14) (m + 16) σ σ')) := by
  obtain ⟨hnb, hok, _⟩ := id ha
  have hnt : nt ≤ 4 := by obtain ⟨_, _, _, _, _, _, _, _, q, _⟩ := id ht; exact q
  have hh512 := homeV_lt hok hnb hV hi
  refine ACt.intro (own := RX12) (nm := "isSafe") mk_X12_isSafe rfl rfl [some (.ref m), some (.int (nI i)), some (.int (nI tr)), some (.int (nI ls)), some (.int (nI st)), none, none] rfl (Nat.le_of_ble_eq_true rfl) (fun X hX hR => ?_)
  refine A_aload_n (pc := 0) rfl hX dX12_isSafe_0 ?_
  refine A_aload_n (pc := 1) rfl hX dX12_isSafe_1 ?_
  refine A_iload_n (pc := 2) rfl hX dX12_isSafe_2 ?_
  refine A_V1d (pc := 3) hX mk_X12_homeState lv_X12_144 dX12_isSafe_3 (by repeat (first | assumption | exact aSet_s | exact aNew_s | refine lk_n ?_ (by omega) | refine lk_f (by assumption) ?_ (by omega) | refine lk_w ?_ (by omega))) (ct_homeState l G ho ha ht hV hi) rfl (Nat.le_of_ble_eq_true rfl) (Nat.le_of_ble_eq_true rfl) (Nat.le_of_ble_eq_true rfl) (Nat.le_of_ble_eq_true rfl) (Nat.le_of_ble_eq_true rfl) ?_
  refine A_iconst (pc := 6) (v := (nI 0)) (by decide) hX dX12_isSafe_6 ?_
  refine A_iload (pc := 7) rfl hX dX12_isSafe_7 ?_
  refine A_V3v (pc := 9) hX mk_X12_layWaves lv_X12_158 dX12_isSafe_9 (by repeat (first | assumption | exact aSet_s | exact aNew_s | refine lk_n ?_ (by omega) | refine lk_f (by assumption) ?_ (by omega) | refine lk_w ?_ (by omega))) (ct_layWaves l G (byd := false) (wo := st) ho ha hs1 hh512 hst) rfl (Nat.le_of_ble_eq_true rfl) (Nat.le_of_ble_eq_true rfl) (Nat.le_of_ble_eq_true rfl) (Nat.le_of_ble_eq_true rfl) (Nat.le_of_ble_eq_true rfl) (fun σ9 h9 => ?_)
  obtain ⟨⟨D, F, hp, g, f, x1, x2, hr⟩, g9, f9⟩ := h9
  have o9 := lk_f f9 ho (by omega)
  refine A_iconst (pc := 12) (v := (nI 1)) (by decide) hX dX12_isSafe_12 ?_
  refine A_istore (pc := 13) (lv' := [_, _, _, _, _, _, _]) hX dX12_isSafe_13 (Nat.le_of_ble_eq_true rfl) rfl rfl ?_
  refine A_iconst (pc := 15) (v := (nI 0)) (by decide) hX dX12_isSafe_15 ?_
  refine A_istore (pc := 16) (lv' := [_, _, _, _, _, _, _]) hX dX12_isSafe_16 (Nat.le_of_ble_eq_true rfl) rfl rfl ?_
  suffices hl : ∀ (q k : Nat) (a : Bool), k ≤ 512 → 512 - k = q → (a = true ↔ ∀ s, s < k → D s < inf → ls ≤ trt s tr) → AA G X 0 0 18 [some (.ref m), some (.int (nI i)), some (.int (nI tr)), some (.int (nI ls)), some (.int (nI st)), some (.int (bI a)), some (.int (nI k))] [] σ9 from hl 512 0 true (Nat.zero_le _) rfl ⟨fun _ s h => absurd h (Nat.not_lt_zero s), fun _ => rfl⟩
  intro q
  induction q with
  | zero =>
    intro k a hk hq hA
    have e : 512 = k := by omega
    subst e
    have hw := okW_of false hok
    refine A_iload (pc := 18) rfl hX dX12_isSafe_18 ?_
    refine A_sipush (pc := 20) (v := (nI 512)) (by decide) hX dX12_isSafe_20 ?_
    refine A_icmp_ge (pc := 23) 66 hX dX12_isSafe_23 rfl (fun c23 => ?_) (fun c23 => ?_)
    · refine A_iload (pc := 66) rfl hX dX12_isSafe_66 ?_
      refine A_iret (pc := 68) hX hR dX12_isSafe_68 rfl (bI_z _) ?_
      exact ⟨_, rfl, a, rfl, hA.trans ⟨fun z s hs hz => z s hs ((hp.rch hw hs).mpr hz), fun z s hs hz => z s hs ((hp.rch hw hs).mp hz)⟩, g9, f9⟩
    · exact absurd (nI_le (Nat.le_refl 512) (by decide)) c23
  | succ q ih =>
    intro k a hk hq hA
    have hkl : k < 512 := by omega
    have hkc := nI_clamp (n := k) (by omega)
    have hDi := hp.2.2.1 k hkl
    have hDi2 : D k < 2 ^ 31 := by simp only [inf] at hDi; omega
    have htl := trt_lt k tr
    have h58 : ∀ a2 : Bool, (a2 = true ↔ (a = true ∧ (D k < inf → ls ≤ trt k tr))) → AA G X 0 0 58 [some (.ref m), some (.int (nI i)), some (.int (nI tr)), some (.int (nI ls)), some (.int (nI st)), some (.int (bI a)), some (.int (nI k))] [.int (bI a2)] σ9 := by
      intro a2 h2
      refine A_istore (pc := 58) (lv' := [_, _, _, _, _, _, _]) hX dX12_isSafe_58 (Nat.le_of_ble_eq_true rfl) rfl rfl ?_
      refine A_iinc (pc := 60) (v := (nI (k + 1))) (lv' := [_, _, _, _, _, _, _]) hX dX12_isSafe_60 rfl (nI_succ k).symm rfl rfl ?_
      refine A_goto (pc := 63) 18 hX dX12_isSafe_63 rfl ?_
      refine ih (k + 1) a2 (by omega) (by omega) (h2.trans ⟨fun z s hs hd => ?_, fun z => ⟨hA.mpr fun s hs => z s (by omega), z k (by omega)⟩⟩)
      by_cases e : s = k
      · rw [e] at hd ⊢; exact z.2 hd
      · exact hA.mp z.1 s (by omega) hd
    refine A_iload (pc := 18) rfl hX dX12_isSafe_18 ?_
    refine A_sipush (pc := 20) (v := (nI 512)) (by decide) hX dX12_isSafe_20 ?_
    refine A_icmp_ge (pc := 23) 66 hX dX12_isSafe_23 rfl (fun c23 => ?_) (fun c23 => ?_)
    · exact absurd c23 (nI_ge hkl (by decide))
    · refine A_iload (pc := 26) rfl hX dX12_isSafe_26 ?_
      refine A_if_eq (pc := 28) 57 hX dX12_isSafe_28 rfl (fun c28 => ?_) (fun c28 => ?_)
      · refine A_iconst (pc := 57) (v := (nI 0)) (by decide) hX dX12_isSafe_57 ?_
        exact A_top rfl (h58 false ⟨fun q => absurd q (by decide), fun q => absurd q.1 (bI_f c28)⟩)
      · refine A_aload_n (pc := 31) rfl hX dX12_isSafe_31 ?_
        refine A_getf (pc := 32) hX fl_X12_50_12 dX12_isSafe_32 (by repeat (first | assumption | exact aSet_s | exact aNew_s | refine lk_n ?_ (by omega) | refine lk_f (by assumption) ?_ (by omega) | refine lk_w ?_ (by omega))) (by exact rfl) ?_
        refine A_iload (pc := 35) rfl hX dX12_isSafe_35 ?_
        refine A_iald (pc := 37) hX dX12_isSafe_37 (by repeat (first | assumption | exact aSet_s | exact aNew_s | refine lk_n ?_ (by omega) | refine lk_f (by assumption) ?_ (by omega) | refine lk_w ?_ (by omega))) (vp_in_nI (by omega) (by decide)) ?_
        refine A_top (y := nI (D k)) (by rw [hkc]; exact (hr k hkl).1) ?_
        refine A_ldc (pc := 38) k_X12_153 hX dX12_isSafe_38 ?_
        refine A_top (y := nI inf) (by decide +kernel) ?_
        refine A_icmp_eq (pc := 40) 53 hX dX12_isSafe_40 rfl (fun c40 => ?_) (fun c40 => ?_)
        · have hq2 := (nI_eq hDi2 (Nat.le_of_ble_eq_true rfl)).mp c40
          refine A_iconst (pc := 53) (v := (nI 1)) (by decide) hX dX12_isSafe_53 ?_
          refine A_goto (pc := 54) 58 hX dX12_isSafe_54 rfl ?_
          exact A_top rfl (h58 true ⟨fun _ => ⟨bI_ne c28, fun z => absurd z (by omega)⟩, fun _ => rfl⟩)
        · have hq2 : D k < inf := by have : ¬ D k = inf := fun q => c40 (by rw [q]); omega
          refine A_iload (pc := 43) rfl hX dX12_isSafe_43 ?_
          refine A_iload_n (pc := 45) rfl hX dX12_isSafe_45 ?_
          refine A_S2d (pc := 46) hX mk_X12_traitIn ls_X12_121 dX12_isSafe_46 (ct_traitIn l G hkl htr) rfl (Nat.le_of_ble_eq_true rfl) (Nat.le_of_ble_eq_true rfl) (Nat.le_of_ble_eq_true rfl) (Nat.le_of_ble_eq_true rfl) (Nat.le_of_ble_eq_true rfl) ?_
          refine A_iload_n (pc := 49) rfl hX dX12_isSafe_49 ?_
          refine A_icmp_lt (pc := 50) 57 hX dX12_isSafe_50 rfl (fun c50 => ?_) (fun c50 => ?_)
          · refine A_iconst (pc := 57) (v := (nI 0)) (by decide) hX dX12_isSafe_57 ?_
            exact A_top rfl (h58 false ⟨fun q => absurd q (by decide), fun q => absurd (q.2 hq2) (by have := (nI_ltI (by omega) (by omega)).mp c50; omega)⟩)
          · refine A_iconst (pc := 53) (v := (nI 1)) (by decide) hX dX12_isSafe_53 ?_
            refine A_goto (pc := 54) 58 hX dX12_isSafe_54 rfl ?_
            exact A_top rfl (h58 true ⟨fun _ => ⟨bI_ne c28, fun _ => (by rcases Nat.lt_or_ge (trt k tr) ls with q | q; exact absurd (nI_lt q (by omega)) c50; exact q)⟩, fun _ => rfl⟩)
/-- the best so far: the fewest, of like ones the least -/
def BFs (nb : Nat) (B : BorT) (s0 tr ls n : Nat) (x : Int32) (few : Nat) : Prop := (x = -1 ∧ few = 7 ∧ ∀ st, st < n → ¬ safeS nb B s0 tr ls st) ∨ ∃ st, st < n ∧ x = nI st ∧ few = pcN st ∧ safeS nb B s0 tr ls st ∧ ∀ st', st' < n → safeS nb B s0 tr ls st' → pcN st < pcN st' ∨ (pcN st = pcN st' ∧ st ≤ st')
theorem BFs.few7 {nb s0 tr ls n few : Nat} {B : BorT} {x : Int32} (h : BFs nb B s0 tr ls n x few) : few ≤ 7 := by
  rcases h with ⟨_, e, _⟩ | ⟨st, _, _, e, _⟩
  · omega
  · have := pcN_6 (st := st)
    omega
theorem BFs.no {nb s0 tr ls n few : Nat} {B : BorT} {x : Int32} (h : BFs nb B s0 tr ls n x few) (hc : few ≤ pcN n ∨ ¬ safeS nb B s0 tr ls n) : BFs nb B s0 tr ls (n + 1) x few := by
  rcases h with ⟨e1, e2, e3⟩ | ⟨st, e1, e2, e3, e4, e5⟩
  · refine .inl ⟨e1, e2, fun st hst => ?_⟩
    by_cases e : st = n
    · subst e
      rcases hc with q | q
      · have := pcN_6 (st := st)
        omega
      · exact q
    · exact e3 st (by omega)
  · refine .inr ⟨st, by omega, e2, e3, e4, fun st' h1 h2 => ?_⟩
    by_cases e : st' = n
    · subst e
      rcases hc with q | q
      · omega
      · exact absurd h2 q
    · exact e5 st' (by omega) h2
theorem BFs.yes {nb s0 tr ls n few : Nat} {B : BorT} {x : Int32} (h : BFs nb B s0 tr ls n x few) (hc : pcN n < few) (hs : safeS nb B s0 tr ls n) : BFs nb B s0 tr ls (n + 1) (nI n) (pcN n) := by
  refine .inr ⟨n, by omega, rfl, rfl, hs, fun st' h1 h2 => ?_⟩
  rcases h with ⟨e1, e2, e3⟩ | ⟨st, e1, e2, e3, e4, e5⟩
  · by_cases e : st' = n
    · exact .inr ⟨by rw [e], by omega⟩
    · exact absurd h2 (e3 st' (by omega))
  · by_cases e : st' = n
    · exact .inr ⟨by rw [e], by omega⟩
    · rcases e5 st' (by omega) h2 with q | q <;> exact .inl (by omega)
theorem BFs.few {nb s0 tr ls few : Nat} {B : BorT} {x : Int32} (h : BFs nb B s0 tr ls (2 ^ nb) x few) : Few nb B s0 tr ls x := by
  rcases h with ⟨e1, e2, e3⟩ | ⟨st, e1, e2, e3, e4, e5⟩
  · exact .inl ⟨e1, e3⟩
  · exact .inr ⟨st, e1, e2, e4, e5⟩
set_option maxRecDepth 100000 in
set_option maxHeartbeats 1000000 in
theorem ct_spoilersNow (l : Launch) (G : aG) {m tw nb nt hn len kt kn i tr ls : Nat} {dy fa nm kd : Int32} {wh hk : Bool} {sn hd : Int64} {σ : aS} (ho : σ.2 m = some (oM m tw nb nt dy hn len fa wh nm sn hk kt kn kd hd)) {B : BorT} (ha : RMa G m nb B σ) {V : ThT} (ht : RMt G (m + 5) nt V σ) (hV : okV nb nt V) (hs1 : RMs G m σ) (hi : i < nt) (htr : tr < 3) (hls : ls < 8) : ACt l G yX12_spoilersNow cX12_spoilersNow 7 (some .int) 5 0 0 [.ref m, .int (nI i), .int (nI tr), .int (nI ls)] σ (iP (fun v σ' => v = spV nb B (homeV B (V i)) tr ls ∧ RMs G m σ' ∧ Fr (m + 14) (m + 16) σ σ')) := by
  obtain ⟨hnb, hok, _⟩ := id ha
  have h64 := p2_64 hnb
  refine ACt.intro (own := RX12) (nm := "spoilersNow") mk_X12_spoilersNow rfl rfl [some (.ref m), some (.int (nI i)), some (.int (nI tr)), some (.int (nI ls)), none, none, none] rfl (Nat.le_of_ble_eq_true rfl) (fun X hX hR => ?_)
  refine A_iconst (pc := 0) (v := (-1)) (by decide) hX dX12_spoilersNow_0 ?_
  refine A_istore (pc := 1) (lv' := [_, _, _, _, _, _, _]) hX dX12_spoilersNow_1 (Nat.le_of_ble_eq_true rfl) rfl rfl ?_
  refine A_bipush (pc := 3) (v := (nI 7)) (by decide) hX dX12_spoilersNow_3 ?_
  refine A_istore (pc := 5) (lv' := [_, _, _, _, _, _, _]) hX dX12_spoilersNow_5 (Nat.le_of_ble_eq_true rfl) rfl rfl ?_
  refine A_iconst (pc := 7) (v := (nI 0)) (by decide) hX dX12_spoilersNow_7 ?_
  refine A_istore (pc := 8) (lv' := [_, _, _, _, _, _, _]) hX dX12_spoilersNow_8 (Nat.le_of_ble_eq_true rfl) rfl rfl ?_
  suffices hl : ∀ (q k few : Nat) (x : Int32) (σ1 : aS), k ≤ 2 ^ nb → 2 ^ nb - k = q → Fr (m + 14) (m + 16) σ σ1 → RMs G m σ1 → BFs nb B (homeV B (V i)) tr ls k x few → AA G X 0 0 10 [some (.ref m), some (.int (nI i)), some (.int (nI tr)), some (.int (nI ls)), some (.int (x)), some (.int (nI few)), some (.int (nI k))] [] σ1 from hl (2 ^ nb) 0 7 (-1) σ (Nat.zero_le _) rfl Fr.rf hs1 (.inl ⟨rfl, rfl, fun st h => absurd h (Nat.not_lt_zero st)⟩)
  intro q
  induction q with
  | zero =>
    intro k few x σ1 hk hq hF hs2 hB
    have e : 2 ^ nb = k := by omega
    subst e
    have o1 := lk_f hF ho (by omega)
    refine A_iload (pc := 10) rfl hX dX12_spoilersNow_10 ?_
    refine A_iconst (pc := 12) (v := (nI 1)) (by decide) hX dX12_spoilersNow_12 ?_
    refine A_aload_n (pc := 13) rfl hX dX12_spoilersNow_13 ?_
    refine A_getf (pc := 14) hX fl_X12_103_12 dX12_spoilersNow_14 (by repeat (first | assumption | exact aSet_s | exact aNew_s | refine lk_n ?_ (by omega) | refine lk_f (by assumption) ?_ (by omega) | refine lk_w ?_ (by omega))) (by exact rfl) ?_
    refine A_ishl (pc := 17) hX dX12_spoilersNow_17 ?_
    refine A_top (y := nI (2 ^ nb)) (i_pow hnb) ?_
    refine A_icmp_ge (pc := 18) 60 hX dX12_spoilersNow_18 rfl (fun c18 => ?_) (fun c18 => ?_)
    · refine A_iload (pc := 60) rfl hX dX12_spoilersNow_60 ?_
      refine A_iret (pc := 62) hX hR dX12_spoilersNow_62 rfl rfl ?_
      exact ⟨_, rfl, hB.few.name, hs2, hF⟩
    · exact absurd (nI_le (Nat.le_refl _) (by omega)) c18
  | succ q ih =>
    intro k few x σ1 hk hq hF hs2 hB
    have hkl : k < 2 ^ nb := by omega
    have h7 := hB.few7
    have h6 := pcN_6 (st := k)
    have o1 := lk_f hF ho (by omega)
    have haa := ha.fr hF (by omega)
    have htt := ht.fr hF (by omega)
    have hno : ∀ σ2 : aS, Fr (m + 14) (m + 16) σ σ2 → RMs G m σ2 → (few ≤ pcN k ∨ ¬ safeS nb B (homeV B (V i)) tr ls k) → AA G X 0 0 54 [some (.ref m), some (.int (nI i)), some (.int (nI tr)), some (.int (nI ls)), some (.int (x)), some (.int (nI few)), some (.int (nI k))] [] σ2 := by
      intro σ2 hF2 hs3 hc
      refine A_iinc (pc := 54) (v := (nI (k + 1))) (lv' := [_, _, _, _, _, _, _]) hX dX12_spoilersNow_54 rfl (nI_succ k).symm rfl rfl ?_
      refine A_goto (pc := 57) 10 hX dX12_spoilersNow_57 rfl ?_
      exact ih (k + 1) few x σ2 (by omega) (by omega) hF2 hs3 (hB.no hc)
    refine A_iload (pc := 10) rfl hX dX12_spoilersNow_10 ?_
    refine A_iconst (pc := 12) (v := (nI 1)) (by decide) hX dX12_spoilersNow_12 ?_
    refine A_aload_n (pc := 13) rfl hX dX12_spoilersNow_13 ?_
    refine A_getf (pc := 14) hX fl_X12_103_12 dX12_spoilersNow_14 (by repeat (first | assumption | exact aSet_s | exact aNew_s | refine lk_n ?_ (by omega) | refine lk_f (by assumption) ?_ (by omega) | refine lk_w ?_ (by omega))) (by exact rfl) ?_
    refine A_ishl (pc := 17) hX dX12_spoilersNow_17 ?_
    refine A_top (y := nI (2 ^ nb)) (i_pow hnb) ?_
    refine A_icmp_ge (pc := 18) 60 hX dX12_spoilersNow_18 rfl (fun c18 => ?_) (fun c18 => ?_)
    · exact absurd c18 (nI_ge hkl (by omega))
    · refine A_iload (pc := 21) rfl hX dX12_spoilersNow_21 ?_
      refine A_S1d (pc := 23) hX mk_X12_size ls_X12_168 dX12_spoilersNow_23 (ct_size l G (by omega)) rfl (Nat.le_of_ble_eq_true rfl) (Nat.le_of_ble_eq_true rfl) (Nat.le_of_ble_eq_true rfl) (Nat.le_of_ble_eq_true rfl) (Nat.le_of_ble_eq_true rfl) ?_
      refine A_iload (pc := 26) rfl hX dX12_spoilersNow_26 ?_
      refine A_icmp_ge (pc := 28) 54 hX dX12_spoilersNow_28 rfl (fun c28 => ?_) (fun c28 => ?_)
      · exact hno σ1 hF hs2 (.inl ((nI_leI (by omega) (by omega)).mp c28))
      · have hlt : pcN k < few := by
          rcases Nat.lt_or_ge (pcN k) few with q | q
          · exact q
          · exact absurd (nI_le q (by omega)) c28
        refine A_aload_n (pc := 31) rfl hX dX12_spoilersNow_31 ?_
        refine A_iload_n (pc := 32) rfl hX dX12_spoilersNow_32 ?_
        refine A_iload_n (pc := 33) rfl hX dX12_spoilersNow_33 ?_
        refine A_iload_n (pc := 34) rfl hX dX12_spoilersNow_34 ?_
        refine A_iload (pc := 35) rfl hX dX12_spoilersNow_35 ?_
        refine A_V4i (pc := 37) hX mk_X12_isSafe lv_X12_171 dX12_spoilersNow_37 (by repeat (first | assumption | exact aSet_s | exact aNew_s | refine lk_n ?_ (by omega) | refine lk_f (by assumption) ?_ (by omega) | refine lk_w ?_ (by omega))) (ct_isSafe l G o1 haa htt hV hs2 hi htr hls (by omega)) rfl (Nat.le_of_ble_eq_true rfl) (Nat.le_of_ble_eq_true rfl) (Nat.le_of_ble_eq_true rfl) (Nat.le_of_ble_eq_true rfl) (Nat.le_of_ble_eq_true rfl) (fun x37 σ37 h37 => ?_)
        obtain ⟨a37, rfl, q37, g37, f37⟩ := h37
        refine A_if_eq (pc := 40) 54 hX dX12_spoilersNow_40 rfl (fun c40 => ?_) (fun c40 => ?_)
        · exact hno σ37 (hF.tr f37) g37 (.inr (fun q => bI_f c40 (q37.mpr q)))
        · refine A_iload (pc := 43) rfl hX dX12_spoilersNow_43 ?_
          refine A_istore (pc := 45) (lv' := [_, _, _, _, _, _, _]) hX dX12_spoilersNow_45 (Nat.le_of_ble_eq_true rfl) rfl rfl ?_
          refine A_iload (pc := 47) rfl hX dX12_spoilersNow_47 ?_
          refine A_S1d (pc := 49) hX mk_X12_size ls_X12_168 dX12_spoilersNow_49 (ct_size l G (by omega)) rfl (Nat.le_of_ble_eq_true rfl) (Nat.le_of_ble_eq_true rfl) (Nat.le_of_ble_eq_true rfl) (Nat.le_of_ble_eq_true rfl) (Nat.le_of_ble_eq_true rfl) ?_
          refine A_istore (pc := 52) (lv' := [_, _, _, _, _, _, _]) hX dX12_spoilersNow_52 (Nat.le_of_ble_eq_true rfl) rfl rfl ?_
          refine A_iinc (pc := 54) (v := (nI (k + 1))) (lv' := [_, _, _, _, _, _, _]) hX dX12_spoilersNow_54 rfl (nI_succ k).symm rfl rfl ?_
          refine A_goto (pc := 57) 10 hX dX12_spoilersNow_57 rfl ?_
          exact ih (k + 1) (pcN k) (nI k) σ37 (by omega) (by omega) (hF.tr f37) g37 (hB.yes hlt (q37.mp (bI_ne c40)))
set_option maxRecDepth 100000 in
set_option maxHeartbeats 1000000 in
theorem ct_spoilersM (l : Launch) (G : aG) {m len nb nt kn tw hn : Nat} {cd : Nat → Nat} {B : BorT} {dy kd : Int32} {V KV : ThT} {hI : Bool} {σ : aS} (hM : RM G m len cd nb B nt dy V hI kn kd KV tw hn σ) (hV : okV nb nt V) {x t s : Int32} : ACt l G yX12_spoilers cX12_spoilers 4 (some .int) 6 0 0 [.ref m, .int x, .int t, .int s] σ (iP (fun v σ' => v = anSpoil nb B nt V x t s ∧ RM G m len cd nb B nt dy V hI kn kd KV tw hn σ' ∧ Fr m (m + 23) σ σ')) := by
  obtain ⟨fa, nm, wh, hk, sn, hd, kt, ho, ha, ht, hp, hn1, hs1, hkp, hI1, hI2⟩ := id hM
  have hnt : nt ≤ 4 := by obtain ⟨_, _, _, _, _, _, _, _, q, _⟩ := id ht; exact q
  refine ACt.intro (own := RX12) (nm := "spoilers") mk_X12_spoilers rfl rfl [some (.ref m), some (.int x), some (.int t), some (.int s)] rfl (Nat.le_of_ble_eq_true rfl) (fun X hX hR => ?_)
  refine A_aload_n (pc := 0) rfl hX dX12_spoilers_0 ?_
  refine A_iload_n (pc := 1) rfl hX dX12_spoilers_1 ?_
  refine A_V1d (pc := 2) hX mk_X12_isThing lv_X12_147 dX12_spoilers_2 (by repeat (first | assumption | exact aSet_s | exact aNew_s | refine lk_n ?_ (by omega) | refine lk_f (by assumption) ?_ (by omega) | refine lk_w ?_ (by omega))) (ct_isThing l G ho hnt) rfl (Nat.le_of_ble_eq_true rfl) (Nat.le_of_ble_eq_true rfl) (Nat.le_of_ble_eq_true rfl) (Nat.le_of_ble_eq_true rfl) (Nat.le_of_ble_eq_true rfl) ?_
  refine A_if_ne (pc := 5) 11 hX dX12_spoilers_5 rfl (fun c5 => ?_) (fun c5 => ?_)
  · have hin := bI_ne c5
    obtain ⟨i, hi1, rfl⟩ := inN_t (by omega) hin
    refine A_iload_n (pc := 11) rfl hX dX12_spoilers_11 ?_
    refine A_iconst (pc := 12) (v := (nI 0)) (by decide) hX dX12_spoilers_12 ?_
    refine A_iconst (pc := 13) (v := (nI 2)) (by decide) hX dX12_spoilers_13 ?_
    refine A_S3d (pc := 14) hX mk_X12_within ls_X12_77 dX12_spoilers_14 (ct_within l G ) rfl (Nat.le_of_ble_eq_true rfl) (Nat.le_of_ble_eq_true rfl) (Nat.le_of_ble_eq_true rfl) (Nat.le_of_ble_eq_true rfl) (Nat.le_of_ble_eq_true rfl) ?_
    refine A_top (y := bI (inN 3 t)) (by rw [winB_in (by decide)]) ?_
    refine A_if_eq (pc := 17) 40 hX dX12_spoilers_17 rfl (fun c17 => ?_) (fun c17 => ?_)
    · have h1 := bI_f c17
      refine A_bipush (pc := 40) (v := (-102)) (by decide) hX dX12_spoilers_40 ?_
      refine A_iret (pc := 42) hX hR dX12_spoilers_42 rfl rfl ?_
      rw [show anSpoil nb B nt V (nI i) t s = _ from (by rw [anSpoil, if_pos hin, if_neg (fun q => h1 q.1)])]
      exact ⟨_, rfl, rfl, hM, Fr.rf⟩
    · have h1 := bI_ne c17
      refine A_iload_n (pc := 20) rfl hX dX12_spoilers_20 ?_
      refine A_iconst (pc := 21) (v := (nI 1)) (by decide) hX dX12_spoilers_21 ?_
      refine A_bipush (pc := 22) (v := (nI 7)) (by decide) hX dX12_spoilers_22 ?_
      refine A_S3d (pc := 24) hX mk_X12_within ls_X12_77 dX12_spoilers_24 (ct_within l G ) rfl (Nat.le_of_ble_eq_true rfl) (Nat.le_of_ble_eq_true rfl) (Nat.le_of_ble_eq_true rfl) (Nat.le_of_ble_eq_true rfl) (Nat.le_of_ble_eq_true rfl) ?_
      refine A_top (y := bI (inR 1 7 s)) rfl ?_
      refine A_if_eq (pc := 27) 40 hX dX12_spoilers_27 rfl (fun c27 => ?_) (fun c27 => ?_)
      · have h2 := bI_f c27
        refine A_bipush (pc := 40) (v := (-102)) (by decide) hX dX12_spoilers_40 ?_
        refine A_iret (pc := 42) hX hR dX12_spoilers_42 rfl rfl ?_
        rw [show anSpoil nb B nt V (nI i) t s = _ from (by rw [anSpoil, if_pos hin, if_neg (fun q => h2 q.2)])]
        exact ⟨_, rfl, rfl, hM, Fr.rf⟩
      · have h2 := bI_ne c27
        have hall := And.intro h1 h2
        obtain ⟨t, htx, rfl⟩ := inN_t (by decide) h1
        obtain ⟨s, hsa, hsb, rfl⟩ := inR_t (by decide) (by decide) h2
        refine A_aload_n (pc := 30) rfl hX dX12_spoilers_30 ?_
        refine A_iload_n (pc := 31) rfl hX dX12_spoilers_31 ?_
        refine A_iload_n (pc := 32) rfl hX dX12_spoilers_32 ?_
        refine A_iload_n (pc := 33) rfl hX dX12_spoilers_33 ?_
        refine A_V3i (pc := 34) hX mk_X12_spoilersNow lv_X12_175 dX12_spoilers_34 (by repeat (first | assumption | exact aSet_s | exact aNew_s | refine lk_n ?_ (by omega) | refine lk_f (by assumption) ?_ (by omega) | refine lk_w ?_ (by omega))) (ct_spoilersNow l G ho ha ht hV hs1 hi1 htx (by omega)) rfl (Nat.le_of_ble_eq_true rfl) (Nat.le_of_ble_eq_true rfl) (Nat.le_of_ble_eq_true rfl) (Nat.le_of_ble_eq_true rfl) (Nat.le_of_ble_eq_true rfl) (fun x34 σ34 h34 => ?_)
        obtain ⟨rfl, g34, f34⟩ := h34
        refine A_goto (pc := 37) 42 hX dX12_spoilers_37 rfl ?_
        refine A_iret (pc := 42) hX hR dX12_spoilers_42 rfl rfl ?_
        rw [show anSpoil nb B nt V (nI i) (nI t) (nI s) = _ from (by rw [anSpoil, if_pos hin, if_pos hall, nI_clamp (by omega), nI_clamp (by omega), nI_clamp (by omega)])]
        exact ⟨_, rfl, rfl, ⟨fa, nm, wh, hk, sn, hd, kt, (lk_f f34 ho (by omega)), (ha.fr f34 (by omega)), (ht.fr f34 (by omega)), (hp.fr f34 (by omega)), (hn1.fr f34 (by omega)), g34, (hkp.fr f34 (by omega)), hI1, hI2⟩, (by repeat (first | exact Fr.rf | refine Fr.set ?_ (by omega) (by omega) | refine Fr.tr ?_ (Fr.wd (by assumption) (by omega) (by omega))))⟩
  · have hno := bI_f c5
    refine A_bipush (pc := 8) (v := (-101)) (by decide) hX dX12_spoilers_8 ?_
    refine A_iret (pc := 10) hX hR dX12_spoilers_10 rfl rfl ?_
    rw [show anSpoil nb B nt V x t s = _ from if_neg hno]
    exact ⟨_, rfl, rfl, hM, Fr.rf⟩
