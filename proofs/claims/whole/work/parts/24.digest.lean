/-! the model's digest: only the object and the waves' rows change -/
def FY (m : Nat) (σ σ' : aS) : Prop := σ'.1 = σ.1 ∧ ∀ a, a ≠ m → a ≠ m + 14 → a ≠ m + 15 → σ'.2 a = σ.2 a
theorem FY.rf {m : Nat} {σ : aS} : FY m σ σ := ⟨rfl, fun _ _ _ _ => rfl⟩
theorem FY.one {m : Nat} {σ σ1 σ2 : aS} (h : FY m σ σ1) (hf : Fr m (m + 1) σ1 σ2) : FY m σ σ2 := ⟨hf.1.trans h.1, fun a h1 h2 h3 => (hf.2 a (by omega)).trans (h.2 a h1 h2 h3)⟩
theorem FY.wav {m : Nat} {σ σ1 σ2 : aS} (h : FY m σ σ1) (hf : Fr (m + 14) (m + 16) σ1 σ2) : FY m σ σ2 := ⟨hf.1.trans h.1, fun a h1 h2 h3 => (hf.2 a (by omega)).trans (h.2 a h1 h2 h3)⟩
theorem FY.tr {m : Nat} {σ σ1 σ2 : aS} (h : FY m σ σ1) (hf : FY m σ1 σ2) : FY m σ σ2 := ⟨hf.1.trans h.1, fun a h1 h2 h3 => (hf.2 a h1 h2 h3).trans (h.2 a h1 h2 h3)⟩
theorem FY.fr {m : Nat} {σ σ1 : aS} (h : FY m σ σ1) : Fr m (m + 23) σ σ1 := ⟨h.1, fun a ha => h.2 a (by omega) (by omega) (by omega)⟩
theorem FY.a {G : aG} {m nb : Nat} {B : BorT} {σ σ' : aS} (h : FY m σ σ') (ha : RMa G m nb B σ) : RMa G m nb B σ' := ha.kx fun a _ _ => h.2 a (by omega) (by omega) (by omega)
theorem FY.t {G : aG} {m nt : Nat} {V : ThT} {σ σ' : aS} (h : FY m σ σ') (ha : RMt G (m + 5) nt V σ) : RMt G (m + 5) nt V σ' := ha.kx fun a _ _ => h.2 a (by omega) (by omega) (by omega)
theorem FY.k {G : aG} {m nt : Nat} {V : ThT} {σ σ' : aS} (h : FY m σ σ') (ha : RMt G (m + 19) nt V σ) : RMt G (m + 19) nt V σ' := ha.kx fun a _ _ => h.2 a (by omega) (by omega) (by omega)
theorem FY.p {G : aG} {m len : Nat} {cd : Nat → Nat} {σ σ' : aS} (h : FY m σ σ') (ha : RMp G m len cd σ) : RMp G m len cd σ' := ha.kx (h.2 _ (by omega) (by omega) (by omega))
theorem FY.n {G : aG} {m : Nat} {σ σ' : aS} (h : FY m σ σ') (ha : RMn G m σ) : RMn G m σ' := ha.kx fun a _ _ => h.2 a (by omega) (by omega) (by omega)
set_option maxRecDepth 100000 in
set_option maxHeartbeats 1000000 in
theorem ct_mixThing (l : Launch) (G : aG) {m tw nb nt hn len kt kn i : Nat} {dy fa nm kd : Int32} {wh hk : Bool} {sn hd : Int64} {σ : aS} (ho : σ.2 m = some (oM m tw nb nt dy hn len fa wh nm sn hk kt kn kd hd)) {B : BorT} (ha : RMa G m nb B σ) {V : ThT} (ht : RMt G (m + 5) nt V σ) (hV : okV nb nt V) (hs1 : RMs G m σ) (hi : i < nt) : ACt l G yX12_mixThing cX12_mixThing 3 (none) 5 0 0 [.ref m, .int (nI i)] σ (vP (fun σ' => σ'.2 m = some (oM m tw nb nt dy hn len fa wh nm sn hk kt kn kd (mixT nb B V hd i)) ∧ RMs G m σ' ∧ FY m σ σ')) := by
  have hnt : nt ≤ 4 := by obtain ⟨_, _, _, _, _, _, _, _, q, _⟩ := id ht; exact q
  refine ACt.intro (own := RX12) (nm := "mixThing") mk_X12_mixThing rfl rfl [some (.ref m), some (.int (nI i)), none] rfl (Nat.le_of_ble_eq_true rfl) (fun X hX hR => ?_)
  refine A_iconst (pc := 0) (v := (nI 0)) (by decide) hX dX12_mixThing_0 ?_
  refine A_istore_n (pc := 1) (lv' := [_, _, _]) hX dX12_mixThing_1 (Nat.le_of_ble_eq_true rfl) rfl rfl ?_
  suffices hl : ∀ (q k : Nat) (σ1 : aS), k ≤ 7 → 7 - k = q → σ1.2 m = some (oM m tw nb nt dy hn len fa wh nm sn hk kt kn kd (mixN (fun c => thN B V i c) k hd)) → RMs G m σ1 → FY m σ σ1 → AA G X 0 0 2 [some (.ref m), some (.int (nI i)), some (.int (nI k))] [] σ1 from hl 7 0 σ (Nat.zero_le _) rfl ho hs1 FY.rf
  intro q
  induction q with
  | zero =>
    intro k σ1 hkx hq o1 r1 hF
    have e : 7 = k := by omega
    subst e
    have ha1 := hF.a ha
    have ht1 := hF.t ht
    refine A_iload_n (pc := 2) rfl hX dX12_mixThing_2 ?_
    refine A_bipush (pc := 3) (v := (nI 7)) (by decide) hX dX12_mixThing_3 ?_
    refine A_icmp_ge (pc := 5) 25 hX dX12_mixThing_5 rfl (fun c5 => ?_) (fun c5 => ?_)
    · refine A_aload_n (pc := 25) rfl hX dX12_mixThing_25 ?_
      refine A_aload_n (pc := 26) rfl hX dX12_mixThing_26 ?_
      refine A_iload_n (pc := 27) rfl hX dX12_mixThing_27 ?_
      refine A_V1i (pc := 28) hX mk_X12_reachNow lv_X12_165 dX12_mixThing_28 (by repeat (first | assumption | exact aSet_s | exact aNew_s | refine lk_n ?_ (by omega) | refine lk_f (by assumption) ?_ (by omega) | refine lk_w ?_ (by omega))) (ct_reachNow l G o1 ha1 ht1 hV r1 hi) rfl (Nat.le_of_ble_eq_true rfl) (Nat.le_of_ble_eq_true rfl) (Nat.le_of_ble_eq_true rfl) (Nat.le_of_ble_eq_true rfl) (Nat.le_of_ble_eq_true rfl) (fun x28 σ28 h28 => ?_)
      obtain ⟨rfl, g28, f28⟩ := h28
      refine A_i2l (pc := 31) hX dX12_mixThing_31 ?_
      refine A_V1v (pc := 32) hX mk_X12_mix lv_X12_242 dX12_mixThing_32 (by repeat (first | assumption | exact aSet_s | exact aNew_s | refine lk_n ?_ (by omega) | refine lk_f (by assumption) ?_ (by omega) | refine lk_w ?_ (by omega))) (ct_mix l G (lk_f f28 o1 (by omega))) rfl (Nat.le_of_ble_eq_true rfl) (Nat.le_of_ble_eq_true rfl) (Nat.le_of_ble_eq_true rfl) (Nat.le_of_ble_eq_true rfl) (Nat.le_of_ble_eq_true rfl) (fun σ32 h32 => ?_)
      obtain ⟨h32, hf32⟩ := h32
      refine A_iconst (pc := 35) (v := (nI 0)) (by decide) hX dX12_mixThing_35 ?_
      refine A_istore_n (pc := 36) (lv' := [_, _, _]) hX dX12_mixThing_36 (Nat.le_of_ble_eq_true rfl) rfl rfl ?_
      have hF32 := (hF.wav f28).one hf32
      suffices hB : ∀ (q k : Nat) (σ2 : aS), k ≤ 4 → 4 - k = q → σ2.2 m = some (oM m tw nb nt dy hn len fa wh nm sn hk kt kn kd (mixN (fun c => wiN nb B (homeV B (V i)) 0 c) k (31 * mixN (fun c => thN B V i c) 7 hd + (wR nb B (homeV B (V i))).toInt64))) → RMs G m σ2 → FY m σ σ2 → AA G X 0 0 37 [some (.ref m), some (.int (nI i)), some (.int (nI k))] [] σ2 from hB 4 0 σ32 (Nat.zero_le _) rfl h32 (g28.fr hf32 (by omega)) hF32
      intro q
      induction q with
      | zero =>
        intro k σ2 hkx hq o2 r2 hF2
        have e : 4 = k := by omega
        subst e
        refine A_iload_n (pc := 37) rfl hX dX12_mixThing_37 ?_
        refine A_iconst (pc := 38) (v := (nI 4)) (by decide) hX dX12_mixThing_38 ?_
        refine A_icmp_ge (pc := 39) 60 hX dX12_mixThing_39 rfl (fun c39 => ?_) (fun c39 => ?_)
        · refine A_ret (pc := 60) hX hR dX12_mixThing_60 ?_
          exact ⟨rfl, o2, r2, hF2⟩
        · exact absurd (by decide) c39
      | succ q ih =>
        intro k σ2 hkx hq o2 r2 hF2
        have hkl : k < 4 := by omega
        have ha2 := hF2.a ha
        have ht2 := hF2.t ht
        refine A_iload_n (pc := 37) rfl hX dX12_mixThing_37 ?_
        refine A_iconst (pc := 38) (v := (nI 4)) (by decide) hX dX12_mixThing_38 ?_
        refine A_icmp_ge (pc := 39) 60 hX dX12_mixThing_39 rfl (fun c39 => ?_) (fun c39 => ?_)
        · exact absurd c39 (nI_ge hkl (by decide))
        · refine A_aload_n (pc := 42) rfl hX dX12_mixThing_42 ?_
          refine A_aload_n (pc := 43) rfl hX dX12_mixThing_43 ?_
          refine A_iload_n (pc := 44) rfl hX dX12_mixThing_44 ?_
          refine A_iconst (pc := 45) (v := (nI 0)) (by decide) hX dX12_mixThing_45 ?_
          refine A_iload_n (pc := 46) rfl hX dX12_mixThing_46 ?_
          refine A_V3i (pc := 47) hX mk_X12_wishedNow lv_X12_162 dX12_mixThing_47 (by repeat (first | assumption | exact aSet_s | exact aNew_s | refine lk_n ?_ (by omega) | refine lk_f (by assumption) ?_ (by omega) | refine lk_w ?_ (by omega))) (ct_wishedNow l G o2 ha2 ht2 hV r2 hi (by decide) hkl) rfl (Nat.le_of_ble_eq_true rfl) (Nat.le_of_ble_eq_true rfl) (Nat.le_of_ble_eq_true rfl) (Nat.le_of_ble_eq_true rfl) (Nat.le_of_ble_eq_true rfl) (fun x47 σ47 h47 => ?_)
          obtain ⟨rfl, g47, f47⟩ := h47
          refine A_i2l (pc := 50) hX dX12_mixThing_50 ?_
          refine A_V1v (pc := 51) hX mk_X12_mix lv_X12_242 dX12_mixThing_51 (by repeat (first | assumption | exact aSet_s | exact aNew_s | refine lk_n ?_ (by omega) | refine lk_f (by assumption) ?_ (by omega) | refine lk_w ?_ (by omega))) (ct_mix l G (lk_f f47 o2 (by omega))) rfl (Nat.le_of_ble_eq_true rfl) (Nat.le_of_ble_eq_true rfl) (Nat.le_of_ble_eq_true rfl) (Nat.le_of_ble_eq_true rfl) (Nat.le_of_ble_eq_true rfl) (fun σ51 h51 => ?_)
          obtain ⟨h51, hf51⟩ := h51
          refine A_iinc (pc := 54) (v := (nI (k + 1))) (lv' := [_, _, _]) hX dX12_mixThing_54 rfl (nI_succ k).symm rfl rfl ?_
          refine A_goto (pc := 57) 37 hX dX12_mixThing_57 rfl ?_
          exact ih (k + 1) σ51 (by omega) (by omega) h51 (g47.fr hf51 (by omega)) ((hF2.wav f47).one hf51)
    · exact absurd (by decide) c5
  | succ q ih =>
    intro k σ1 hkx hq o1 r1 hF
    have hkl : k < 7 := by omega
    have ha1 := hF.a ha
    have ht1 := hF.t ht
    refine A_iload_n (pc := 2) rfl hX dX12_mixThing_2 ?_
    refine A_bipush (pc := 3) (v := (nI 7)) (by decide) hX dX12_mixThing_3 ?_
    refine A_icmp_ge (pc := 5) 25 hX dX12_mixThing_5 rfl (fun c5 => ?_) (fun c5 => ?_)
    · exact absurd c5 (nI_ge hkl (by decide))
    · refine A_aload_n (pc := 8) rfl hX dX12_mixThing_8 ?_
      refine A_aload_n (pc := 9) rfl hX dX12_mixThing_9 ?_
      refine A_iload_n (pc := 10) rfl hX dX12_mixThing_10 ?_
      refine A_iload_n (pc := 11) rfl hX dX12_mixThing_11 ?_
      refine A_V2d (pc := 12) hX mk_X12_thingNow lv_X12_150 dX12_mixThing_12 (by repeat (first | assumption | exact aSet_s | exact aNew_s | refine lk_n ?_ (by omega) | refine lk_f (by assumption) ?_ (by omega) | refine lk_w ?_ (by omega))) (ct_thingNow l G o1 ha1 ht1 hV hi hkl) rfl (Nat.le_of_ble_eq_true rfl) (Nat.le_of_ble_eq_true rfl) (Nat.le_of_ble_eq_true rfl) (Nat.le_of_ble_eq_true rfl) (Nat.le_of_ble_eq_true rfl) ?_
      refine A_i2l (pc := 15) hX dX12_mixThing_15 ?_
      refine A_V1v (pc := 16) hX mk_X12_mix lv_X12_242 dX12_mixThing_16 (by repeat (first | assumption | exact aSet_s | exact aNew_s | refine lk_n ?_ (by omega) | refine lk_f (by assumption) ?_ (by omega) | refine lk_w ?_ (by omega))) (ct_mix l G o1) rfl (Nat.le_of_ble_eq_true rfl) (Nat.le_of_ble_eq_true rfl) (Nat.le_of_ble_eq_true rfl) (Nat.le_of_ble_eq_true rfl) (Nat.le_of_ble_eq_true rfl) (fun σ16 h16 => ?_)
      obtain ⟨h16, hf16⟩ := h16
      refine A_iinc (pc := 19) (v := (nI (k + 1))) (lv' := [_, _, _]) hX dX12_mixThing_19 rfl (nI_succ k).symm rfl rfl ?_
      refine A_goto (pc := 22) 2 hX dX12_mixThing_22 rfl ?_
      exact ih (k + 1) σ16 (by omega) (by omega) h16 (r1.fr hf16 (by omega)) (hF.one hf16)
set_option maxRecDepth 100000 in
set_option maxHeartbeats 1000000 in
theorem ct_digestM (l : Launch) (G : aG) {m len nb nt kn tw hn : Nat} {cd : Nat → Nat} {B : BorT} {dy kd : Int32} {V KV : ThT} {hI : Bool} {σ : aS} (hM : RM G m len cd nb B nt dy V hI kn kd KV tw hn σ) (hV : okV nb nt V) (hu : uqV nt V) : ACt l G yX12_digest cX12_digest 3 (some (.long)) 6 0 0 [.ref m] σ (jP (fun v σ' => v = anDigest len cd nb B nt dy V tw hn ∧ RM G m len cd nb B nt dy V hI kn kd KV tw hn σ' ∧ Fr m (m + 23) σ σ')) := by
  obtain ⟨fa, nm, wh, hk, sn, hd, kt, ho, ha, ht, hp, hn1, hs1, hkp, hI1, hI2⟩ := id hM
  obtain ⟨hnb, hok, _⟩ := id ha
  have hnt : nt ≤ 4 := by obtain ⟨_, _, _, _, _, _, _, _, q, _⟩ := id ht; exact q
  obtain ⟨pf, p1, p2, p3⟩ := id hp
  refine ACt.intro (own := RX12) (nm := "digest") mk_X12_digest rfl rfl [some (.ref m), none, none] rfl (Nat.le_of_ble_eq_true rfl) (fun X hX hR => ?_)
  refine A_aload_n (pc := 0) rfl hX dX12_digest_0 ?_
  refine A_ldc2 (pc := 1) k_X12_246 hX dX12_digest_1 ?_
  refine A_putf (pc := 4) (fs' := [_, _, _, _, _, _, _, _, _, _, _, _, _, _, _, _, _, _, _, _, _, _, _, _, _, _, _, _, _, _, _, _, _, _, _, _, _]) hX pl_X12_239_12 dX12_digest_4 (by repeat (first | assumption | exact aSet_s | exact aNew_s | refine lk_n ?_ (by omega) | refine lk_f (by assumption) ?_ (by omega) | refine lk_w ?_ (by omega))) (by exact Nat.le_of_ble_eq_true rfl) (by exact rfl) rfl rfl ?_
  refine A_gen (fun z => z.2 m = some (oM m tw nb nt dy hn len fa wh nm sn hk kt kn kd (797)) ∧ Fr m (m + 1) σ z) ⟨aSet_s, Fr.rf.set (Nat.le_refl m) (Nat.lt_succ_self m)⟩ (fun σ7 hg => ?_)
  obtain ⟨h7, f7⟩ := hg
  refine A_iconst (pc := 7) (v := (nI 0)) (by decide) hX dX12_digest_7 ?_
  refine A_istore_n (pc := 8) (lv' := [_, _, _]) hX dX12_digest_8 (Nat.le_of_ble_eq_true rfl) rfl rfl ?_
  suffices h9 : ∀ (q k : Nat) (σ1 : aS) (v2 : Option Value), k ≤ nb → nb - k = q → σ1.2 m = some (oM m tw nb nt dy hn len fa wh nm sn hk kt kn kd (digB B nt V 797 k)) → RMs G m σ1 → FY m σ σ1 → AA G X 0 0 9 [some (.ref m), some (.int (nI k)), v2] [] σ1 from h9 nb 0 σ7 none (Nat.zero_le _) rfl h7 (hs1.fr f7 (by omega)) (FY.rf.one f7)
  intro q
  induction q with
  | zero =>
    intro k σ1 v2 hkx hq o1 r1 hF
    have e : nb = k := by omega
    subst e
    refine A_iload_n (pc := 9) rfl hX dX12_digest_9 ?_
    refine A_aload_n (pc := 10) rfl hX dX12_digest_10 ?_
    refine A_getf (pc := 11) hX fl_X12_103_12 dX12_digest_11 (by repeat (first | assumption | exact aSet_s | exact aNew_s | refine lk_n ?_ (by omega) | refine lk_f (by assumption) ?_ (by omega) | refine lk_w ?_ (by omega))) (by exact rfl) ?_
    refine A_icmp_ge (pc := 14) 48 hX dX12_digest_14 rfl (fun c14 => ?_) (fun c14 => ?_)
    · refine A_iconst (pc := 48) (v := (nI 0)) (by decide) hX dX12_digest_48 ?_
      refine A_istore_n (pc := 49) (lv' := [_, _, _]) hX dX12_digest_49 (Nat.le_of_ble_eq_true rfl) rfl rfl ?_
      suffices h50 : ∀ (q k : Nat) (σ1 : aS) (v2 : Option Value), k ≤ nt → nt - k = q → σ1.2 m = some (oM m tw nb nt dy hn len fa wh nm sn hk kt kn kd (digT nb B V (digB B nt V 797 nb) k)) → RMs G m σ1 → FY m σ σ1 → AA G X 0 0 50 [some (.ref m), some (.int (nI k)), v2] [] σ1 from h50 nt 0 σ1 _ (Nat.zero_le _) rfl o1 r1 hF
      clear o1 r1 hF hkx hq
      intro q
      induction q with
      | zero =>
        intro k σ1 v2 hkx hq o1 r1 hF
        have e : nt = k := by omega
        subst e
        refine A_iload_n (pc := 50) rfl hX dX12_digest_50 ?_
        refine A_aload_n (pc := 51) rfl hX dX12_digest_51 ?_
        refine A_getf (pc := 52) hX fl_X12_115_12 dX12_digest_52 (by repeat (first | assumption | exact aSet_s | exact aNew_s | refine lk_n ?_ (by omega) | refine lk_f (by assumption) ?_ (by omega) | refine lk_w ?_ (by omega))) (by exact rfl) ?_
        refine A_icmp_ge (pc := 55) 69 hX dX12_digest_55 rfl (fun c55 => ?_) (fun c55 => ?_)
        · refine A_iconst (pc := 69) (v := (nI 0)) (by decide) hX dX12_digest_69 ?_
          refine A_istore_n (pc := 70) (lv' := [_, _, _]) hX dX12_digest_70 (Nat.le_of_ble_eq_true rfl) rfl rfl ?_
          suffices h71 : ∀ (q k : Nat) (σ1 : aS) (v2 : Option Value), k ≤ len → len - k = q → σ1.2 m = some (oM m tw nb nt dy hn len fa wh nm sn hk kt kn kd (mixN (fun j => nI (cd j)) k (digT nb B V (digB B nt V 797 nb) nt))) → RMs G m σ1 → FY m σ σ1 → AA G X 0 0 71 [some (.ref m), some (.int (nI k)), v2] [] σ1 from h71 len 0 σ1 _ (Nat.zero_le _) rfl o1 r1 hF
          clear o1 r1 hF hkx hq
          intro q
          induction q with
          | zero =>
            intro k σ1 v2 hkx hq o1 r1 hF
            have e : len = k := by omega
            subst e
            refine A_iload_n (pc := 71) rfl hX dX12_digest_71 ?_
            refine A_aload_n (pc := 72) rfl hX dX12_digest_72 ?_
            refine A_getf (pc := 73) hX fl_X12_81_12 dX12_digest_73 (by repeat (first | assumption | exact aSet_s | exact aNew_s | refine lk_n ?_ (by omega) | refine lk_f (by assumption) ?_ (by omega) | refine lk_w ?_ (by omega))) (by exact rfl) ?_
            refine A_icmp_ge (pc := 76) 96 hX dX12_digest_76 rfl (fun c76 => ?_) (fun c76 => ?_)
            · refine A_iconst (pc := 96) (v := (nI 0)) (by decide) hX dX12_digest_96 ?_
              refine A_istore_n (pc := 97) (lv' := [_, _, _]) hX dX12_digest_97 (Nat.le_of_ble_eq_true rfl) rfl rfl ?_
              suffices h98 : ∀ (q k : Nat) (σ1 : aS) (v2 : Option Value), k ≤ 8 → 8 - k = q → σ1.2 m = some (oM m tw nb nt dy hn len fa wh nm sn hk kt kn kd (mixN (fun c => ctN len nb nt dy V tw hn c) k (mixN (fun j => nI (cd j)) len (digT nb B V (digB B nt V 797 nb) nt)))) → RMs G m σ1 → FY m σ σ1 → AA G X 0 0 98 [some (.ref m), some (.int (nI k)), v2] [] σ1 from h98 8 0 σ1 _ (Nat.zero_le _) rfl o1 r1 hF
              clear o1 r1 hF hkx hq
              intro q
              induction q with
              | zero =>
                intro k σ1 v2 hkx hq o1 r1 hF
                have e : 8 = k := by omega
                subst e
                refine A_iload_n (pc := 98) rfl hX dX12_digest_98 ?_
                refine A_bipush (pc := 99) (v := (nI 8)) (by decide) hX dX12_digest_99 ?_
                refine A_icmp_ge (pc := 101) 120 hX dX12_digest_101 rfl (fun c101 => ?_) (fun c101 => ?_)
                · refine A_aload_n (pc := 120) rfl hX dX12_digest_120 ?_
                  refine A_getf (pc := 121) hX fl_X12_239_12 dX12_digest_121 (by repeat (first | assumption | exact aSet_s | exact aNew_s | refine lk_n ?_ (by omega) | refine lk_f (by assumption) ?_ (by omega) | refine lk_w ?_ (by omega))) (by exact rfl) ?_
                  refine A_lret (pc := 124) hX hR dX12_digest_124 ?_
                  exact ⟨_, rfl, rfl, ⟨fa, nm, wh, hk, sn, _, kt, o1, hF.a ha, hF.t ht, hF.p hp, hF.n hn1, r1, hF.k hkp, hI1, hI2⟩, hF.fr⟩
                · exact absurd (by decide) c101
              | succ q ih =>
                intro k σ1 v2 hkx hq o1 r1 hF
                have hkl : k < 8 := by omega
                have hkc := nI_clamp (n := k) (by omega)
                have ha1 := hF.a ha
                have ht1 := hF.t ht
                refine A_iload_n (pc := 98) rfl hX dX12_digest_98 ?_
                refine A_bipush (pc := 99) (v := (nI 8)) (by decide) hX dX12_digest_99 ?_
                refine A_icmp_ge (pc := 101) 120 hX dX12_digest_101 rfl (fun c101 => ?_) (fun c101 => ?_)
                · exact absurd c101 (nI_ge hkl (by decide))
                · refine A_aload_n (pc := 104) rfl hX dX12_digest_104 ?_
                  refine A_aload_n (pc := 105) rfl hX dX12_digest_105 ?_
                  refine A_iload_n (pc := 106) rfl hX dX12_digest_106 ?_
                  refine A_V1d (pc := 107) hX mk_X12_howMany lv_X12_234 dX12_digest_107 (by repeat (first | assumption | exact aSet_s | exact aNew_s | refine lk_n ?_ (by omega) | refine lk_f (by assumption) ?_ (by omega) | refine lk_w ?_ (by omega))) (ct_howMany l G o1 ht1 hV) rfl (Nat.le_of_ble_eq_true rfl) (Nat.le_of_ble_eq_true rfl) (Nat.le_of_ble_eq_true rfl) (Nat.le_of_ble_eq_true rfl) (Nat.le_of_ble_eq_true rfl) ?_
                  refine A_top (y := ctN len nb nt dy V tw hn k) (by rw [anCount, if_pos (inN_nI (by decide) hkl), hkc]) ?_
                  refine A_i2l (pc := 110) hX dX12_digest_110 ?_
                  refine A_V1v (pc := 111) hX mk_X12_mix lv_X12_242 dX12_digest_111 (by repeat (first | assumption | exact aSet_s | exact aNew_s | refine lk_n ?_ (by omega) | refine lk_f (by assumption) ?_ (by omega) | refine lk_w ?_ (by omega))) (ct_mix l G o1) rfl (Nat.le_of_ble_eq_true rfl) (Nat.le_of_ble_eq_true rfl) (Nat.le_of_ble_eq_true rfl) (Nat.le_of_ble_eq_true rfl) (Nat.le_of_ble_eq_true rfl) (fun σ111 h111 => ?_)
                  obtain ⟨h111, hf111⟩ := h111
                  refine A_iinc (pc := 114) (v := (nI (k + 1))) (lv' := [_, _, _]) hX dX12_digest_114 rfl (nI_succ k).symm rfl rfl ?_
                  refine A_goto (pc := 117) 98 hX dX12_digest_117 rfl ?_
                  exact ih (k + 1) σ111 _ (by omega) (by omega) h111 (r1.fr hf111 (by omega)) (hF.one hf111)
            · exact absurd (nI_le (Nat.le_refl _) (by omega)) c76
          | succ q ih =>
            intro k σ1 v2 hkx hq o1 r1 hF
            have hkl : k < len := by omega
            have hkc := nI_clamp (n := k) (by omega)
            have ha1 := hF.a ha
            have ht1 := hF.t ht
            have hpf := (hF.2 (m + 9) (by omega) (by omega) (by omega)).trans p1
            refine A_iload_n (pc := 71) rfl hX dX12_digest_71 ?_
            refine A_aload_n (pc := 72) rfl hX dX12_digest_72 ?_
            refine A_getf (pc := 73) hX fl_X12_81_12 dX12_digest_73 (by repeat (first | assumption | exact aSet_s | exact aNew_s | refine lk_n ?_ (by omega) | refine lk_f (by assumption) ?_ (by omega) | refine lk_w ?_ (by omega))) (by exact rfl) ?_
            refine A_icmp_ge (pc := 76) 96 hX dX12_digest_76 rfl (fun c76 => ?_) (fun c76 => ?_)
            · exact absurd c76 (nI_ge hkl (by omega))
            · refine A_aload_n (pc := 79) rfl hX dX12_digest_79 ?_
              refine A_aload_n (pc := 80) rfl hX dX12_digest_80 ?_
              refine A_getf (pc := 81) hX fl_X12_34_12 dX12_digest_81 (by repeat (first | assumption | exact aSet_s | exact aNew_s | refine lk_n ?_ (by omega) | refine lk_f (by assumption) ?_ (by omega) | refine lk_w ?_ (by omega))) (by exact rfl) ?_
              refine A_iload_n (pc := 84) rfl hX dX12_digest_84 ?_
              refine A_bald (pc := 85) hX dX12_digest_85 (by repeat (first | assumption | exact aSet_s | exact aNew_s | refine lk_n ?_ (by omega) | refine lk_f (by assumption) ?_ (by omega) | refine lk_w ?_ (by omega))) (vp_in_nI (by omega) (by decide)) ?_
              refine A_top (y := nI (cd k)) (by rw [hkc]; exact (p3 k hkl).1) ?_
              refine A_i2l (pc := 86) hX dX12_digest_86 ?_
              refine A_V1v (pc := 87) hX mk_X12_mix lv_X12_242 dX12_digest_87 (by repeat (first | assumption | exact aSet_s | exact aNew_s | refine lk_n ?_ (by omega) | refine lk_f (by assumption) ?_ (by omega) | refine lk_w ?_ (by omega))) (ct_mix l G o1) rfl (Nat.le_of_ble_eq_true rfl) (Nat.le_of_ble_eq_true rfl) (Nat.le_of_ble_eq_true rfl) (Nat.le_of_ble_eq_true rfl) (Nat.le_of_ble_eq_true rfl) (fun σ87 h87 => ?_)
              obtain ⟨h87, hf87⟩ := h87
              refine A_iinc (pc := 90) (v := (nI (k + 1))) (lv' := [_, _, _]) hX dX12_digest_90 rfl (nI_succ k).symm rfl rfl ?_
              refine A_goto (pc := 93) 71 hX dX12_digest_93 rfl ?_
              exact ih (k + 1) σ87 _ (by omega) (by omega) h87 (r1.fr hf87 (by omega)) (hF.one hf87)
        · exact absurd (nI_le (Nat.le_refl _) (by omega)) c55
      | succ q ih =>
        intro k σ1 v2 hkx hq o1 r1 hF
        have hkl : k < nt := by omega
        have hkc := nI_clamp (n := k) (by omega)
        have ha1 := hF.a ha
        have ht1 := hF.t ht
        refine A_iload_n (pc := 50) rfl hX dX12_digest_50 ?_
        refine A_aload_n (pc := 51) rfl hX dX12_digest_51 ?_
        refine A_getf (pc := 52) hX fl_X12_115_12 dX12_digest_52 (by repeat (first | assumption | exact aSet_s | exact aNew_s | refine lk_n ?_ (by omega) | refine lk_f (by assumption) ?_ (by omega) | refine lk_w ?_ (by omega))) (by exact rfl) ?_
        refine A_icmp_ge (pc := 55) 69 hX dX12_digest_55 rfl (fun c55 => ?_) (fun c55 => ?_)
        · exact absurd c55 (nI_ge hkl (by omega))
        · refine A_aload_n (pc := 58) rfl hX dX12_digest_58 ?_
          refine A_iload_n (pc := 59) rfl hX dX12_digest_59 ?_
          refine A_V1v (pc := 60) hX mk_X12_mixThing lv_X12_248 dX12_digest_60 (by repeat (first | assumption | exact aSet_s | exact aNew_s | refine lk_n ?_ (by omega) | refine lk_f (by assumption) ?_ (by omega) | refine lk_w ?_ (by omega))) (ct_mixThing l G o1 ha1 ht1 hV r1 hkl) rfl (Nat.le_of_ble_eq_true rfl) (Nat.le_of_ble_eq_true rfl) (Nat.le_of_ble_eq_true rfl) (Nat.le_of_ble_eq_true rfl) (Nat.le_of_ble_eq_true rfl) (fun σ60 h60 => ?_)
          obtain ⟨h60, g60, f60⟩ := h60
          refine A_iinc (pc := 63) (v := (nI (k + 1))) (lv' := [_, _, _]) hX dX12_digest_63 rfl (nI_succ k).symm rfl rfl ?_
          refine A_goto (pc := 66) 50 hX dX12_digest_66 rfl ?_
          exact ih (k + 1) σ60 _ (by omega) (by omega) h60 g60 (hF.tr f60)
    · exact absurd (nI_le (Nat.le_refl _) (by omega)) c14
  | succ q ih =>
    intro k σ1 v2 hkx hq o1 r1 hF
    have hkl : k < nb := by omega
    have hkc := nI_clamp (n := k) (by omega)
    have ha1 := hF.a ha
    have ht1 := hF.t ht
    refine A_iload_n (pc := 9) rfl hX dX12_digest_9 ?_
    refine A_aload_n (pc := 10) rfl hX dX12_digest_10 ?_
    refine A_getf (pc := 11) hX fl_X12_103_12 dX12_digest_11 (by repeat (first | assumption | exact aSet_s | exact aNew_s | refine lk_n ?_ (by omega) | refine lk_f (by assumption) ?_ (by omega) | refine lk_w ?_ (by omega))) (by exact rfl) ?_
    refine A_icmp_ge (pc := 14) 48 hX dX12_digest_14 rfl (fun c14 => ?_) (fun c14 => ?_)
    · exact absurd c14 (nI_ge hkl (by omega))
    · refine A_iconst (pc := 17) (v := (nI 0)) (by decide) hX dX12_digest_17 ?_
      refine A_istore_n (pc := 18) (lv' := [_, _, _]) hX dX12_digest_18 (Nat.le_of_ble_eq_true rfl) rfl rfl ?_
      suffices h19 : ∀ (q c : Nat) (σ2 : aS), c ≤ 6 → 6 - c = q → σ2.2 m = some (oM m tw nb nt dy hn len fa wh nm sn hk kt kn kd (mixN (fun c => abN B nt V k c) c (digB B nt V 797 k))) → RMs G m σ2 → FY m σ σ2 → AA G X 0 0 19 [some (.ref m), some (.int (nI k)), some (.int (nI c))] [] σ2 from h19 6 0 σ1 (Nat.zero_le _) rfl o1 r1 hF
      clear o1 r1 hF ha1 ht1
      intro q
      induction q with
      | zero =>
        intro c σ2 hc hq2 o2 r2 hF2
        have e : 6 = c := by omega
        subst e
        refine A_iload_n (pc := 19) rfl hX dX12_digest_19 ?_
        refine A_bipush (pc := 20) (v := (nI 6)) (by decide) hX dX12_digest_20 ?_
        refine A_icmp_ge (pc := 22) 42 hX dX12_digest_22 rfl (fun c22 => ?_) (fun c22 => ?_)
        · refine A_iinc (pc := 42) (v := (nI (k + 1))) (lv' := [_, _, _]) hX dX12_digest_42 rfl (nI_succ k).symm rfl rfl ?_
          refine A_goto (pc := 45) 9 hX dX12_digest_45 rfl ?_
          exact ih (k + 1) σ2 _ (by omega) (by omega) o2 r2 hF2
        · exact absurd (by decide) c22
      | succ q ih2 =>
        intro c σ2 hc hq2 o2 r2 hF2
        have hcl : c < 6 := by omega
        have ha2 := hF2.a ha
        have ht2 := hF2.t ht
        refine A_iload_n (pc := 19) rfl hX dX12_digest_19 ?_
        refine A_bipush (pc := 20) (v := (nI 6)) (by decide) hX dX12_digest_20 ?_
        refine A_icmp_ge (pc := 22) 42 hX dX12_digest_22 rfl (fun c22 => ?_) (fun c22 => ?_)
        · exact absurd c22 (nI_ge hcl (by decide))
        · refine A_aload_n (pc := 25) rfl hX dX12_digest_25 ?_
          refine A_aload_n (pc := 26) rfl hX dX12_digest_26 ?_
          refine A_iload_n (pc := 27) rfl hX dX12_digest_27 ?_
          refine A_iload_n (pc := 28) rfl hX dX12_digest_28 ?_
          refine A_V2d (pc := 29) hX mk_X12_borrowerNow lv_X12_135 dX12_digest_29 (by repeat (first | assumption | exact aSet_s | exact aNew_s | refine lk_n ?_ (by omega) | refine lk_f (by assumption) ?_ (by omega) | refine lk_w ?_ (by omega))) (ct_borrowerNow l G o2 ha2 ht2 hu hkl hcl) rfl (Nat.le_of_ble_eq_true rfl) (Nat.le_of_ble_eq_true rfl) (Nat.le_of_ble_eq_true rfl) (Nat.le_of_ble_eq_true rfl) (Nat.le_of_ble_eq_true rfl) ?_
          refine A_i2l (pc := 32) hX dX12_digest_32 ?_
          refine A_V1v (pc := 33) hX mk_X12_mix lv_X12_242 dX12_digest_33 (by repeat (first | assumption | exact aSet_s | exact aNew_s | refine lk_n ?_ (by omega) | refine lk_f (by assumption) ?_ (by omega) | refine lk_w ?_ (by omega))) (ct_mix l G o2) rfl (Nat.le_of_ble_eq_true rfl) (Nat.le_of_ble_eq_true rfl) (Nat.le_of_ble_eq_true rfl) (Nat.le_of_ble_eq_true rfl) (Nat.le_of_ble_eq_true rfl) (fun σ33 h33 => ?_)
          obtain ⟨h33, hf33⟩ := h33
          refine A_iinc (pc := 36) (v := (nI (c + 1))) (lv' := [_, _, _]) hX dX12_digest_36 rfl (nI_succ c).symm rfl rfl ?_
          refine A_goto (pc := 39) 19 hX dX12_digest_39 rfl ?_
          exact ih2 (c + 1) σ33 (by omega) (by omega) h33 (r2.fr hf33 (by omega)) (hF2.one hf33)
