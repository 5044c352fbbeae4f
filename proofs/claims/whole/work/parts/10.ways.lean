/-! the ways: y the object, y + 1 costs, y + 2 firsts, y + 3 order, y + 4 begins, y + 5 ends -/
def wtB (by_ : Bool) (B : Nat → Nat × Nat × Nat × Nat) (b : Nat) : Nat := if by_ = true then (B b).2.2.2 else 1
theorem okW_of {nb : Nat} {B : Nat → Nat × Nat × Nat × Nat} (by_ : Bool) (h : okB nb B) : okW nb (mkB B) (wtB by_ B) := by
  intro b hb
  obtain ⟨h1, h2, h3, h4, h5, h6⟩ := h b hb
  refine ⟨?_, ?_, fun s hs => mkB_lt h hb hs⟩ <;> unfold wtB <;> split <;> omega
theorem SpI.fst {nb : Nat} {mB : Nat → Nat → Nat} {wt : Nat → Nat} {al : Nat → Bool} {s0 : Nat} {dn : Nat → Nat → Prop} {D F : Nat → Nat} (hw : okW nb mB wt) (h : SpI nb mB wt al s0 dn D F) : ∀ s, s < 512 → s ≠ s0 → D s < inf → F s < nb := by
  obtain ⟨h1, h2, h3, h4, h5⟩ := h
  have key : ∀ k s, s < 512 → s ≠ s0 → D s = k → k < inf → F s < nb := by
    intro k
    induction k using Nat.strongRecOn with
    | ind k ih =>
      intro s hs hne hk hki
      obtain ⟨b, s', c1, c2, c3, c4, c5, c6, c7⟩ := h4 s hs hne (by omega)
      have := (hw b c1).1
      rw [c6]
      unfold cnd
      split
      · exact c1
      · rename_i q
        exact ih (D s') (by omega) s' c3 q rfl (by omega)
  exact fun s hs hne hd => key _ s hs hne rfl hd
theorem cV_m1 {d : Nat} : cV d = -1 ↔ ¬ d < inf := by
  unfold cV
  split
  · rename_i h
    exact ⟨fun q => absurd q (nI_ne1 (by simp only [inf] at h; omega)), fun q => absurd h q⟩
  · rename_i h
    exact ⟨fun _ => h, fun _ => rfl⟩
theorem cV_in {d : Nat} (h : d < inf) : cV d = nI d := if_pos h
theorem fV_in {s0 s d f : Nat} (h : d < inf) (hs : s ≠ s0) : fV s0 s d f = nI f := if_pos ⟨h, hs⟩
def RWy (G : aG) (y w : Nat) (by_ : Bool) (s0 fd : Nat) (D F od : Nat → Nat) (gb ge : Nat → Int32) (σ : aS) : Prop := σ.2 y = some (aO 10 [.ref w, .int (bI by_), .ref (y + 1), .ref (y + 2), .ref (y + 3), .ref (y + 4), .ref (y + 5), .int (nI s0), .int (nI fd)]) ∧
  (∃ gc gf go : Nat → Int32, σ.2 (y + 1) = some (aI G 512 gc) ∧ σ.2 (y + 2) = some (aI G 512 gf) ∧ σ.2 (y + 3) = some (aI G 512 go) ∧ (∀ s, s < 512 → gc s = cV (D s) ∧ gf s = fV s0 s (D s) (F s)) ∧ ∀ q, q < fd → go q = nI (od q) ∧ od q < 512) ∧ σ.2 (y + 4) = some (aI G 6 gb) ∧ σ.2 (y + 5) = some (aI G 6 ge)
def cnt (D : Nat → Nat) : Nat := cntN (fun s => decide (D s < inf)) 512
/-- what a loan at a cost does to what is known, and to the order -/
def Uo (D F : Nat → Nat) (fd : Nat) (od : Nat → Nat) (c to f : Nat) (D' F' : Nat → Nat) (fd' : Nat) (od' : Nat → Nat) : Prop :=
  (D' = D ∧ F' = F ∧ fd' = fd ∧ od' = od ∧ ¬ (c < D to ∨ (c = D to ∧ f < F to))) ∨
  ((c < D to ∨ (c = D to ∧ f < F to)) ∧ (∀ q, D' q = if q = to then c else D q) ∧ (∀ q, F' q = if q = to then f else F q) ∧ ((D to = inf ∧ fd' = fd + 1 ∧ od' = fun q => if q = fd then to else od q) ∨ (D to = c ∧ fd' = fd ∧ od' = od)))
set_option maxRecDepth 100000 in
set_option maxHeartbeats 1000000 in
theorem ct_addLoan (l : Launch) (G : aG) {y w tp nb s0 fd s b c : Nat} {by_ : Bool} {B : Nat → Nat × Nat × Nat × Nat} {D F od : Nat → Nat} {gb ge : Nat → Int32} {σ : aS} (hw : RTw G w tp nb B σ) (hR : RWy G y w by_ s0 fd D F od gb ge σ) (hwy : w + 5 ≤ y) (hyt : y + 6 ≤ tp) (hs : s < 512) (hb : b < nb) (hs0 : s0 < 512) (hD0 : D s0 = 0) (hD : ∀ q, q < 512 → D q < inf → D q ≤ c) (hDi : ∀ q, q < 512 → D q ≤ inf) (hds : D s < inf) (hc1 : 1 ≤ c) (hc2 : c ≤ 2560) (hF : ∀ q, q < 512 → q ≠ s0 → D q < inf → F q < nb) (hfd : fd = cnt D) : ACt l G yX10_addLoan cX10_addLoan 7 (none) 1 0 0 [.ref y, .int (nI s), .int (nI b), .int (nI c)] σ (vP (fun σ' => ∃ D' F' fd' od', Uo D F fd od c (mkB B b s) (cnd s0 F b s) D' F' fd' od' ∧ RWy G y w by_ s0 fd' D' F' od' gb ge σ' ∧ Fr y (y + 6) σ σ')) := by
  obtain ⟨hwt, hnb, hok, bor, fa, fo, fn, e0, e1, e2, e3, e4, e5, e6⟩ := id hw
  obtain ⟨a0, ⟨gc, gf, go, a1, a2, a3, hcf, hgo⟩, a4, a5⟩ := id hR
  have hto : mkB B b s < 512 := mkB_lt hok hb hs
  have hcnd : cnd s0 F b s < nb := by
    unfold cnd
    split
    · exact hb
    · rename_i q; exact hF s hs q hds
  refine ACt.intro (own := RX10) (nm := "addLoan") mk_X10_addLoan rfl rfl [some (.ref y), some (.int (nI s)), some (.int (nI b)), some (.int (nI c)), none, none, none] rfl (Nat.le_of_ble_eq_true rfl) (fun X hX hR => ?_)
  refine A_aload_n (pc := 0) rfl hX dX10_addLoan_0 ?_
  refine A_getf (pc := 1) hX fl_X10_31_10 dX10_addLoan_1 (by repeat (first | assumption | exact aSet_s | exact aNew_s | refine lk_n ?_ (by omega) | refine lk_f (by assumption) ?_ (by omega) | refine lk_w ?_ (by omega))) (by exact rfl) ?_
  refine A_iload_n (pc := 4) rfl hX dX10_addLoan_4 ?_
  refine A_iload_n (pc := 5) rfl hX dX10_addLoan_5 ?_
  refine A_V2d (pc := 6) hX mk_X8_after lv_X10_74 dX10_addLoan_6 (by repeat (first | assumption | exact aSet_s | exact aNew_s | refine lk_n ?_ (by omega) | refine lk_f (by assumption) ?_ (by omega) | refine lk_w ?_ (by omega))) (ct_after l G hw hb hs) rfl (Nat.le_of_ble_eq_true rfl) (Nat.le_of_ble_eq_true rfl) (Nat.le_of_ble_eq_true rfl) (Nat.le_of_ble_eq_true rfl) (Nat.le_of_ble_eq_true rfl) ?_
  refine A_istore (pc := 9) (lv' := [_, _, _, _, _, _, _]) hX dX10_addLoan_9 (Nat.le_of_ble_eq_true rfl) rfl rfl ?_
  suffices hj : AA G X 0 0 31 [some (.ref y), some (.int (nI s)), some (.int (nI b)), some (.int (nI c)), some (.int (nI (mkB B b s))), none, none] [.int (nI (cnd s0 F b s))] σ from by
    refine A_iload_n (pc := 11) rfl hX dX10_addLoan_11 ?_
    refine A_aload_n (pc := 12) rfl hX dX10_addLoan_12 ?_
    refine A_getf (pc := 13) hX fl_X10_27_10 dX10_addLoan_13 (by repeat (first | assumption | exact aSet_s | exact aNew_s | refine lk_n ?_ (by omega) | refine lk_f (by assumption) ?_ (by omega) | refine lk_w ?_ (by omega))) (by exact rfl) ?_
    refine A_icmp_ne (pc := 16) 23 hX dX10_addLoan_16 rfl (fun c16 => ?_) (fun c16 => ?_)
    · have hne : s ≠ s0 := fun e => c16 (by rw [e])
      have hx : nI (F s) = nI (cnd s0 F b s) := by rw [cnd, if_neg hne]
      refine A_aload_n (pc := 23) rfl hX dX10_addLoan_23 ?_
      refine A_getf (pc := 24) hX fl_X10_15_10 dX10_addLoan_24 (by repeat (first | assumption | exact aSet_s | exact aNew_s | refine lk_n ?_ (by omega) | refine lk_f (by assumption) ?_ (by omega) | refine lk_w ?_ (by omega))) (by exact rfl) ?_
      refine A_iload_n (pc := 27) rfl hX dX10_addLoan_27 ?_
      refine A_S2d (pc := 28) hX mk_X11_at ls_X10_39 dX10_addLoan_28 (ct_at l G (by repeat (first | assumption | exact aSet_s | exact aNew_s | refine lk_n ?_ (by omega) | refine lk_f (by assumption) ?_ (by omega) | refine lk_w ?_ (by omega))) (by decide)) rfl (Nat.le_of_ble_eq_true rfl) (Nat.le_of_ble_eq_true rfl) (Nat.le_of_ble_eq_true rfl) (Nat.le_of_ble_eq_true rfl) (Nat.le_of_ble_eq_true rfl) ?_
      refine A_top (y := nI (F s)) (by rw [atS_nI (by omega) (by decide), (hcf s hs).2, fV_in hds hne]) ?_
      exact A_top (by assumption) hj
    · have he : s = s0 := (nI_eq (by omega) (by omega)).mp (Decidable.byContradiction fun q => absurd c16 (by simpa using q))
      have hx : nI b = nI (cnd s0 F b s) := by rw [cnd, if_pos he]
      refine A_iload_n (pc := 19) rfl hX dX10_addLoan_19 ?_
      refine A_goto (pc := 20) 31 hX dX10_addLoan_20 rfl ?_
      exact A_top (by assumption) hj
  refine A_istore (pc := 31) (lv' := [_, _, _, _, _, _, _]) hX dX10_addLoan_31 (Nat.le_of_ble_eq_true rfl) rfl rfl ?_
  refine A_aload_n (pc := 33) rfl hX dX10_addLoan_33 ?_
  refine A_getf (pc := 34) hX fl_X10_9_10 dX10_addLoan_34 (by repeat (first | assumption | exact aSet_s | exact aNew_s | refine lk_n ?_ (by omega) | refine lk_f (by assumption) ?_ (by omega) | refine lk_w ?_ (by omega))) (by exact rfl) ?_
  refine A_iload (pc := 37) rfl hX dX10_addLoan_37 ?_
  refine A_S2d (pc := 39) hX mk_X11_at ls_X10_39 dX10_addLoan_39 (ct_at l G (by repeat (first | assumption | exact aSet_s | exact aNew_s | refine lk_n ?_ (by omega) | refine lk_f (by assumption) ?_ (by omega) | refine lk_w ?_ (by omega))) (by decide)) rfl (Nat.le_of_ble_eq_true rfl) (Nat.le_of_ble_eq_true rfl) (Nat.le_of_ble_eq_true rfl) (Nat.le_of_ble_eq_true rfl) (Nat.le_of_ble_eq_true rfl) ?_
  refine A_top (y := cV (D (mkB B b s))) (by rw [atS_nI hto (by decide), (hcf _ hto).1]) ?_
  refine A_istore (pc := 42) (lv' := [_, _, _, _, _, _, _]) hX dX10_addLoan_42 (Nat.le_of_ble_eq_true rfl) rfl rfl ?_
  refine A_iload (pc := 44) rfl hX dX10_addLoan_44 ?_
  refine A_iconst (pc := 46) (v := (-1)) (by decide) hX dX10_addLoan_46 ?_
  refine A_icmp_ne (pc := 47) 97 hX dX10_addLoan_47 rfl (fun c47 => ?_) (fun c47 => ?_)
  · have hdt : D (mkB B b s) < inf := Decidable.byContradiction fun q => c47 (cV_m1.mpr q)
    have hdc := hD _ hto hdt
    refine A_iload (pc := 97) rfl hX dX10_addLoan_97 ?_
    refine A_iload_n (pc := 99) rfl hX dX10_addLoan_99 ?_
    refine A_icmp_ne (pc := 100) 128 hX dX10_addLoan_100 rfl (fun c100 => ?_) (fun c100 => ?_)
    · rw [cV_in hdt] at c100
      have hne : D (mkB B b s) ≠ c := fun e => c100 (by rw [e])
      refine A_ret (pc := 128) hX hR dX10_addLoan_128 ?_
      exact ⟨rfl, D, F, fd, od, .inl ⟨rfl, rfl, rfl, rfl, (fun q => by omega)⟩, ⟨a0, ⟨gc, gf, go, a1, a2, a3, hcf, hgo⟩, a4, a5⟩, Fr.rf⟩
    · rw [cV_in hdt] at c100
      have hec : D (mkB B b s) = c := (nI_eq (by omega) (by omega)).mp (Decidable.byContradiction fun q => absurd c100 (by simpa using q))
      have hts : mkB B b s ≠ s0 := fun e => by rw [e, hD0] at hec; omega
      have hft := hF _ hto hts hdt
      refine A_iload (pc := 103) rfl hX dX10_addLoan_103 ?_
      refine A_aload_n (pc := 105) rfl hX dX10_addLoan_105 ?_
      refine A_getf (pc := 106) hX fl_X10_15_10 dX10_addLoan_106 (by repeat (first | assumption | exact aSet_s | exact aNew_s | refine lk_n ?_ (by omega) | refine lk_f (by assumption) ?_ (by omega) | refine lk_w ?_ (by omega))) (by exact rfl) ?_
      refine A_iload (pc := 109) rfl hX dX10_addLoan_109 ?_
      refine A_S2d (pc := 111) hX mk_X11_at ls_X10_39 dX10_addLoan_111 (ct_at l G (by repeat (first | assumption | exact aSet_s | exact aNew_s | refine lk_n ?_ (by omega) | refine lk_f (by assumption) ?_ (by omega) | refine lk_w ?_ (by omega))) (by decide)) rfl (Nat.le_of_ble_eq_true rfl) (Nat.le_of_ble_eq_true rfl) (Nat.le_of_ble_eq_true rfl) (Nat.le_of_ble_eq_true rfl) (Nat.le_of_ble_eq_true rfl) ?_
      refine A_top (y := nI (F (mkB B b s))) (by rw [atS_nI hto (by decide), (hcf _ hto).2, fV_in hdt hts]) ?_
      refine A_icmp_ge (pc := 114) 128 hX dX10_addLoan_114 rfl (fun c114 => ?_) (fun c114 => ?_)
      · refine A_ret (pc := 128) hX hR dX10_addLoan_128 ?_
        rw [nI_leI (by omega) (by omega)] at c114
        exact ⟨rfl, D, F, fd, od, .inl ⟨rfl, rfl, rfl, rfl, (fun q => by omega)⟩, ⟨a0, ⟨gc, gf, go, a1, a2, a3, hcf, hgo⟩, a4, a5⟩, Fr.rf⟩
      · refine A_aload_n (pc := 117) rfl hX dX10_addLoan_117 ?_
        refine A_getf (pc := 118) hX fl_X10_15_10 dX10_addLoan_118 (by repeat (first | assumption | exact aSet_s | exact aNew_s | refine lk_n ?_ (by omega) | refine lk_f (by assumption) ?_ (by omega) | refine lk_w ?_ (by omega))) (by exact rfl) ?_
        refine A_iload (pc := 121) rfl hX dX10_addLoan_121 ?_
        refine A_iload (pc := 123) rfl hX dX10_addLoan_123 ?_
        refine A_S3v (pc := 125) hX mk_X11_put ls_X10_53 dX10_addLoan_125 (ct_put l G (by repeat (first | assumption | exact aSet_s | exact aNew_s | refine lk_n ?_ (by omega) | refine lk_f (by assumption) ?_ (by omega) | refine lk_w ?_ (by omega))) (by decide)) rfl (Nat.le_of_ble_eq_true rfl) (Nat.le_of_ble_eq_true rfl) (Nat.le_of_ble_eq_true rfl) (Nat.le_of_ble_eq_true rfl) (Nat.le_of_ble_eq_true rfl) (fun σ125 h125 => ?_)
        obtain ⟨h125, hf125⟩ := h125
        refine A_ret (pc := 128) hX hR dX10_addLoan_128 ?_
        rw [nI_leI (by omega) (by omega)] at c114
        refine ⟨rfl, (fun q => if q = mkB B b s then c else D q), (fun q => if q = mkB B b s then cnd s0 F b s else F q), fd, od, .inr ⟨.inr ⟨hec.symm, by omega⟩, fun _ => rfl, fun _ => rfl, .inr ⟨hec, rfl, rfl⟩⟩, ⟨(by repeat (first | assumption | exact aSet_s | exact aNew_s | refine lk_n ?_ (by omega) | refine lk_f (by assumption) ?_ (by omega) | refine lk_w ?_ (by omega))), ⟨_, _, _, (by repeat (first | assumption | exact aSet_s | exact aNew_s | refine lk_n ?_ (by omega) | refine lk_f (by assumption) ?_ (by omega) | refine lk_w ?_ (by omega))), (by repeat (first | assumption | exact aSet_s | exact aNew_s | refine lk_n ?_ (by omega) | refine lk_f (by assumption) ?_ (by omega) | refine lk_w ?_ (by omega))), (by repeat (first | assumption | exact aSet_s | exact aNew_s | refine lk_n ?_ (by omega) | refine lk_f (by assumption) ?_ (by omega) | refine lk_w ?_ (by omega))), fun q hq => ?_, hgo⟩, (by repeat (first | assumption | exact aSet_s | exact aNew_s | refine lk_n ?_ (by omega) | refine lk_f (by assumption) ?_ (by omega) | refine lk_w ?_ (by omega))), (by repeat (first | assumption | exact aSet_s | exact aNew_s | refine lk_n ?_ (by omega) | refine lk_f (by assumption) ?_ (by omega) | refine lk_w ?_ (by omega)))⟩, (by repeat (first | exact Fr.rf | refine Fr.set ?_ (by omega) (by omega) | refine Fr.tr ?_ (Fr.wd (by assumption) (by omega) (by omega))))⟩
        rw [putS_nI hto (by decide)]
        by_cases e : q = mkB B b s
        · subst e
          simp only [upd, if_pos]
          exact ⟨by rw [(hcf _ hto).1, hec], (fV_in (by omega) hts).symm⟩
        · simp only [upd, if_neg e]; exact hcf q hq
  · have hdt : ¬ D (mkB B b s) < inf := cV_m1.mp (Decidable.byContradiction fun q => absurd c47 (by simpa using q))
    have hdi : D (mkB B b s) = inf := by have := hDi _ hto; omega
    have hfl : fd < 512 := by rw [hfd]; exact cntN_lt_n _ hto (decide_eq_false hdt)
    have hts : mkB B b s ≠ s0 := fun e => by rw [e, hD0] at hdi; simp at hdi
    refine A_aload_n (pc := 50) rfl hX dX10_addLoan_50 ?_
    refine A_getf (pc := 51) hX fl_X10_9_10 dX10_addLoan_51 (by repeat (first | assumption | exact aSet_s | exact aNew_s | refine lk_n ?_ (by omega) | refine lk_f (by assumption) ?_ (by omega) | refine lk_w ?_ (by omega))) (by exact rfl) ?_
    refine A_iload (pc := 54) rfl hX dX10_addLoan_54 ?_
    refine A_iload_n (pc := 56) rfl hX dX10_addLoan_56 ?_
    refine A_S3v (pc := 57) hX mk_X11_put ls_X10_53 dX10_addLoan_57 (ct_put l G (by repeat (first | assumption | exact aSet_s | exact aNew_s | refine lk_n ?_ (by omega) | refine lk_f (by assumption) ?_ (by omega) | refine lk_w ?_ (by omega))) (by decide)) rfl (Nat.le_of_ble_eq_true rfl) (Nat.le_of_ble_eq_true rfl) (Nat.le_of_ble_eq_true rfl) (Nat.le_of_ble_eq_true rfl) (Nat.le_of_ble_eq_true rfl) (fun σ57 h57 => ?_)
    obtain ⟨h57, hf57⟩ := h57
    refine A_aload_n (pc := 60) rfl hX dX10_addLoan_60 ?_
    refine A_getf (pc := 61) hX fl_X10_15_10 dX10_addLoan_61 (by repeat (first | assumption | exact aSet_s | exact aNew_s | refine lk_n ?_ (by omega) | refine lk_f (by assumption) ?_ (by omega) | refine lk_w ?_ (by omega))) (by exact rfl) ?_
    refine A_iload (pc := 64) rfl hX dX10_addLoan_64 ?_
    refine A_iload (pc := 66) rfl hX dX10_addLoan_66 ?_
    refine A_S3v (pc := 68) hX mk_X11_put ls_X10_53 dX10_addLoan_68 (ct_put l G (by repeat (first | assumption | exact aSet_s | exact aNew_s | refine lk_n ?_ (by omega) | refine lk_f (by assumption) ?_ (by omega) | refine lk_w ?_ (by omega))) (by decide)) rfl (Nat.le_of_ble_eq_true rfl) (Nat.le_of_ble_eq_true rfl) (Nat.le_of_ble_eq_true rfl) (Nat.le_of_ble_eq_true rfl) (Nat.le_of_ble_eq_true rfl) (fun σ68 h68 => ?_)
    obtain ⟨h68, hf68⟩ := h68
    refine A_aload_n (pc := 71) rfl hX dX10_addLoan_71 ?_
    refine A_getf (pc := 72) hX fl_X10_18_10 dX10_addLoan_72 (by repeat (first | assumption | exact aSet_s | exact aNew_s | refine lk_n ?_ (by omega) | refine lk_f (by assumption) ?_ (by omega) | refine lk_w ?_ (by omega))) (by exact rfl) ?_
    refine A_aload_n (pc := 75) rfl hX dX10_addLoan_75 ?_
    refine A_getf (pc := 76) hX fl_X10_47_10 dX10_addLoan_76 (by repeat (first | assumption | exact aSet_s | exact aNew_s | refine lk_n ?_ (by omega) | refine lk_f (by assumption) ?_ (by omega) | refine lk_w ?_ (by omega))) (by exact rfl) ?_
    refine A_iload (pc := 79) rfl hX dX10_addLoan_79 ?_
    refine A_S3v (pc := 81) hX mk_X11_put ls_X10_53 dX10_addLoan_81 (ct_put l G (by repeat (first | assumption | exact aSet_s | exact aNew_s | refine lk_n ?_ (by omega) | refine lk_f (by assumption) ?_ (by omega) | refine lk_w ?_ (by omega))) (by decide)) rfl (Nat.le_of_ble_eq_true rfl) (Nat.le_of_ble_eq_true rfl) (Nat.le_of_ble_eq_true rfl) (Nat.le_of_ble_eq_true rfl) (Nat.le_of_ble_eq_true rfl) (fun σ81 h81 => ?_)
    obtain ⟨h81, hf81⟩ := h81
    refine A_aload_n (pc := 84) rfl hX dX10_addLoan_84 ?_
    refine A_dup (pc := 85) rfl hX dX10_addLoan_85 ?_
    refine A_getf (pc := 86) hX fl_X10_47_10 dX10_addLoan_86 (by repeat (first | assumption | exact aSet_s | exact aNew_s | refine lk_n ?_ (by omega) | refine lk_f (by assumption) ?_ (by omega) | refine lk_w ?_ (by omega))) (by exact rfl) ?_
    refine A_iconst (pc := 89) (v := (nI 1)) (by decide) hX dX10_addLoan_89 ?_
    refine A_iadd (pc := 90) hX dX10_addLoan_90 ?_
    refine A_top (y := nI (fd + 1)) (nI_succ fd).symm ?_
    refine A_putf (pc := 91) (fs' := [_, _, _, _, _, _, _, _, _]) hX pl_X10_47_10 dX10_addLoan_91 (by repeat (first | assumption | exact aSet_s | exact aNew_s | refine lk_n ?_ (by omega) | refine lk_f (by assumption) ?_ (by omega) | refine lk_w ?_ (by omega))) (by exact Nat.le_of_ble_eq_true rfl) (by exact rfl) rfl rfl ?_
    refine A_goto (pc := 94) 128 hX dX10_addLoan_94 rfl ?_
    refine A_ret (pc := 128) hX hR dX10_addLoan_128 ?_
    refine ⟨rfl, (fun q => if q = mkB B b s then c else D q), (fun q => if q = mkB B b s then cnd s0 F b s else F q), fd + 1, (fun q => if q = fd then mkB B b s else od q), .inr ⟨.inl (by rw [hdi]; simp only [inf]; omega), fun _ => rfl, fun _ => rfl, .inl ⟨hdi, rfl, rfl⟩⟩, ⟨aSet_s, ⟨_, _, _, (by repeat (first | assumption | exact aSet_s | exact aNew_s | refine lk_n ?_ (by omega) | refine lk_f (by assumption) ?_ (by omega) | refine lk_w ?_ (by omega))), (by repeat (first | assumption | exact aSet_s | exact aNew_s | refine lk_n ?_ (by omega) | refine lk_f (by assumption) ?_ (by omega) | refine lk_w ?_ (by omega))), (by repeat (first | assumption | exact aSet_s | exact aNew_s | refine lk_n ?_ (by omega) | refine lk_f (by assumption) ?_ (by omega) | refine lk_w ?_ (by omega))), fun q hq => ?_, fun q hq => ?_⟩, (by repeat (first | assumption | exact aSet_s | exact aNew_s | refine lk_n ?_ (by omega) | refine lk_f (by assumption) ?_ (by omega) | refine lk_w ?_ (by omega))), (by repeat (first | assumption | exact aSet_s | exact aNew_s | refine lk_n ?_ (by omega) | refine lk_f (by assumption) ?_ (by omega) | refine lk_w ?_ (by omega)))⟩, (by repeat (first | exact Fr.rf | refine Fr.set ?_ (by omega) (by omega) | refine Fr.tr ?_ (Fr.wd (by assumption) (by omega) (by omega))))⟩
    · rw [putS_nI hto (by decide), putS_nI hto (by decide)]
      by_cases e : q = mkB B b s
      · subst e
        simp only [upd, if_pos]
        exact ⟨(cV_in (by simp only [inf]; omega)).symm, (fV_in (by simp only [inf]; omega) hts).symm⟩
      · simp only [upd, if_neg e]; exact hcf q hq
    · rw [putS_nI hfl (by decide)]
      by_cases e : q = fd
      · subst e; simp only [upd, if_pos]; exact ⟨trivial, hto⟩
      · simp only [upd, if_neg e]; exact hgo q (by omega)
