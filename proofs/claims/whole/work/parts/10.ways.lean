/-! the ways: y the object, y + 1 costs, y + 2 firsts, y + 3 order, y + 4 begins, y + 5 ends -/
def wtB (by_ : Bool) (B : Nat → Nat × Nat × Nat × Nat) (b : Nat) : Nat := if by_ = true then (B b).2.2.2 else 1
theorem okW_of {nb : Nat} {B : Nat → Nat × Nat × Nat × Nat} (by_ : Bool) (h : okB nb B) : okW nb (mkB B) (wtB by_ B) := by
  intro b hb
  obtain ⟨h1, h2, h3, h4, h5, h6⟩ := h b hb
  refine ⟨?_, ?_, fun s hs => mkB_lt h hb hs⟩ <;> unfold wtB <;> split <;> omega
theorem SpI.fst {nb : Nat} {mB : Nat → Nat → Nat} {wt : Nat → Nat} {al : Nat → Bool} {s0 : Nat} {dn : Nat → Nat → Prop} {D F : Nat → Nat} (hw : okW nb mB wt) (h : SpI nb mB wt al s0 dn D F) : ∀ s, s < 512 → s ≠ s0 → D s < inf → F s < nb := by
  obtain ⟨h1, h2, h3, h4, h5⟩ := h
  have key : ∀ k s, s < 512 → s ≠ s0 → D s = k → k < inf → F s < nb := by
    intro k
    induction k using Nat.strongRecOn with
    | ind k ih =>
      intro s hs hne hk hki
      obtain ⟨b, s', c1, c2, c3, c4, c5, c6, c7⟩ := h4 s hs hne (by omega)
      have := (hw b c1).1
      rw [c6]
      unfold cnd
      split
      · exact c1
      · rename_i q
        exact ih (D s') (by omega) s' c3 q rfl (by omega)
  exact fun s hs hne hd => key _ s hs hne rfl hd
theorem cV_m1 {d : Nat} : cV d = -1 ↔ ¬ d < inf := by
  unfold cV
  split
  · rename_i h
    exact ⟨fun q => absurd q (nI_ne1 (by simp only [inf] at h; omega)), fun q => absurd h q⟩
  · rename_i h
    exact ⟨fun _ => h, fun _ => rfl⟩
theorem cV_in {d : Nat} (h : d < inf) : cV d = nI d := if_pos h
theorem fV_in {s0 s d f : Nat} (h : d < inf) (hs : s ≠ s0) : fV s0 s d f = nI f := if_pos ⟨h, hs⟩
def RWy (G : aG) (y w : Nat) (by_ : Bool) (s0 fd : Nat) (D F od : Nat → Nat) (gb ge : Nat → Int32) (σ : aS) : Prop := σ.2 y = some (aO 10 [.ref w, .int (bI by_), .ref (y + 1), .ref (y + 2), .ref (y + 3), .ref (y + 4), .ref (y + 5), .int (nI s0), .int (nI fd)]) ∧
  (∃ gc gf go : Nat → Int32, σ.2 (y + 1) = some (aI G 512 gc) ∧ σ.2 (y + 2) = some (aI G 512 gf) ∧ σ.2 (y + 3) = some (aI G 512 go) ∧ (∀ s, s < 512 → gc s = cV (D s) ∧ gf s = fV s0 s (D s) (F s)) ∧ ∀ q, q < fd → go q = nI (od q) ∧ od q < 512) ∧ σ.2 (y + 4) = some (aI G 6 gb) ∧ σ.2 (y + 5) = some (aI G 6 ge)
def cnt (D : Nat → Nat) : Nat := cntN (fun s => decide (D s < inf)) 512
/-- what a loan at a cost does to what is known, and to the order -/
def Uo (D F : Nat → Nat) (fd : Nat) (od : Nat → Nat) (c to f : Nat) (D' F' : Nat → Nat) (fd' : Nat) (od' : Nat → Nat) : Prop :=
  (D' = D ∧ F' = F ∧ fd' = fd ∧ od' = od ∧ ¬ (c < D to ∨ (c = D to ∧ f < F to))) ∨
  ((c < D to ∨ (c = D to ∧ f < F to)) ∧ (∀ q, D' q = if q = to then c else D q) ∧ (∀ q, F' q = if q = to then f else F q) ∧ ((D to = inf ∧ fd' = fd + 1 ∧ od' = fun q => if q = fd then to else od q) ∨ (D to = c ∧ fd' = fd ∧ od' = od)))
set_option maxRecDepth 100000 in
set_option maxHeartbeats 1000000 in
theorem ct_addLoan (l : Launch) (G : aG) {y w tp nb s0 fd s b c : Nat} {by_ : Bool} {B : Nat → Nat × Nat × Nat × Nat} {D F od : Nat → Nat} {gb ge : Nat → Int32} {σ : aS} (hw : RTw G w tp nb B σ) (hY : RWy G y w by_ s0 fd D F od gb ge σ) (hwy : w + 5 ≤ y) (hyt : y + 6 ≤ tp) (hs : s < 512) (hb : b < nb) (hs0 : s0 < 512) (hD0 : D s0 = 0) (hD : ∀ q, q < 512 → D q < inf → D q ≤ c) (hDi : ∀ q, q < 512 → D q ≤ inf) (hds : D s < inf) (hc1 : 1 ≤ c) (hc2 : c ≤ 2560) (hF : ∀ q, q < 512 → q ≠ s0 → D q < inf → F q < nb) (hfd : fd = cnt D) : ACt l G yX10_addLoan cX10_addLoan 7 (none) 1 0 0 [.ref y, .int (nI s), .int (nI b), .int (nI c)] σ (vP (fun σ' => ∃ D' F' fd' od', Uo D F fd od c (mkB B b s) (cnd s0 F b s) D' F' fd' od' ∧ RWy G y w by_ s0 fd' D' F' od' gb ge σ' ∧ Fr y (y + 6) σ σ')) := by
  obtain ⟨hwt, hnb, hok, bor, fa, fo, fn, e0, e1, e2, e3, e4, e5, e6⟩ := id hw
  obtain ⟨a0, ⟨gc, gf, go, a1, a2, a3, hcf, hgo⟩, a4, a5⟩ := id hY
  have hto : mkB B b s < 512 := mkB_lt hok hb hs
  have hcnd : cnd s0 F b s < nb := by
    unfold cnd
    split
    · exact hb
    · rename_i q; exact hF s hs q hds
  refine ACt.intro (own := RX10) (nm := "addLoan") mk_X10_addLoan rfl rfl [some (.ref y), some (.int (nI s)), some (.int (nI b)), some (.int (nI c)), none, none, none] rfl (Nat.le_of_ble_eq_true rfl) (fun X hX hR => ?_)
  refine A_aload_n (pc := 0) rfl hX dX10_addLoan_0 ?_
  refine A_getf (pc := 1) hX fl_X10_31_10 dX10_addLoan_1 (by repeat (first | assumption | exact aSet_s | exact aNew_s | refine lk_n ?_ (by omega) | refine lk_f (by assumption) ?_ (by omega) | refine lk_w ?_ (by omega))) (by exact rfl) ?_
  refine A_iload_n (pc := 4) rfl hX dX10_addLoan_4 ?_
  refine A_iload_n (pc := 5) rfl hX dX10_addLoan_5 ?_
  refine A_V2d (pc := 6) hX mk_X8_after lv_X10_74 dX10_addLoan_6 (by repeat (first | assumption | exact aSet_s | exact aNew_s | refine lk_n ?_ (by omega) | refine lk_f (by assumption) ?_ (by omega) | refine lk_w ?_ (by omega))) (ct_after l G hw hb hs) rfl (Nat.le_of_ble_eq_true rfl) (Nat.le_of_ble_eq_true rfl) (Nat.le_of_ble_eq_true rfl) (Nat.le_of_ble_eq_true rfl) (Nat.le_of_ble_eq_true rfl) ?_
  refine A_istore (pc := 9) (lv' := [_, _, _, _, _, _, _]) hX dX10_addLoan_9 (Nat.le_of_ble_eq_true rfl) rfl rfl ?_
  suffices hj : AA G X 0 0 31 [some (.ref y), some (.int (nI s)), some (.int (nI b)), some (.int (nI c)), some (.int (nI (mkB B b s))), none, none] [.int (nI (cnd s0 F b s))] σ from by
    refine A_iload_n (pc := 11) rfl hX dX10_addLoan_11 ?_
    refine A_aload_n (pc := 12) rfl hX dX10_addLoan_12 ?_
    refine A_getf (pc := 13) hX fl_X10_27_10 dX10_addLoan_13 (by repeat (first | assumption | exact aSet_s | exact aNew_s | refine lk_n ?_ (by omega) | refine lk_f (by assumption) ?_ (by omega) | refine lk_w ?_ (by omega))) (by exact rfl) ?_
    refine A_icmp_ne (pc := 16) 23 hX dX10_addLoan_16 rfl (fun c16 => ?_) (fun c16 => ?_)
    · have hne : s ≠ s0 := fun e => c16 (by rw [e])
      have hx : nI (F s) = nI (cnd s0 F b s) := by rw [cnd, if_neg hne]
      refine A_aload_n (pc := 23) rfl hX dX10_addLoan_23 ?_
      refine A_getf (pc := 24) hX fl_X10_15_10 dX10_addLoan_24 (by repeat (first | assumption | exact aSet_s | exact aNew_s | refine lk_n ?_ (by omega) | refine lk_f (by assumption) ?_ (by omega) | refine lk_w ?_ (by omega))) (by exact rfl) ?_
      refine A_iload_n (pc := 27) rfl hX dX10_addLoan_27 ?_
      refine A_S2d (pc := 28) hX mk_X11_at ls_X10_39 dX10_addLoan_28 (ct_at l G (by repeat (first | assumption | exact aSet_s | exact aNew_s | refine lk_n ?_ (by omega) | refine lk_f (by assumption) ?_ (by omega) | refine lk_w ?_ (by omega))) (by decide)) rfl (Nat.le_of_ble_eq_true rfl) (Nat.le_of_ble_eq_true rfl) (Nat.le_of_ble_eq_true rfl) (Nat.le_of_ble_eq_true rfl) (Nat.le_of_ble_eq_true rfl) ?_
      refine A_top (y := nI (F s)) (by rw [atS_nI (by omega) (by decide), (hcf s hs).2, fV_in hds hne]) ?_
      exact A_top (by assumption) hj
    · have he : s = s0 := (nI_eq (by omega) (by omega)).mp (Decidable.byContradiction fun q => absurd c16 (by simpa using q))
      have hx : nI b = nI (cnd s0 F b s) := by rw [cnd, if_pos he]
      refine A_iload_n (pc := 19) rfl hX dX10_addLoan_19 ?_
      refine A_goto (pc := 20) 31 hX dX10_addLoan_20 rfl ?_
      exact A_top (by assumption) hj
  refine A_istore (pc := 31) (lv' := [_, _, _, _, _, _, _]) hX dX10_addLoan_31 (Nat.le_of_ble_eq_true rfl) rfl rfl ?_
  refine A_aload_n (pc := 33) rfl hX dX10_addLoan_33 ?_
  refine A_getf (pc := 34) hX fl_X10_9_10 dX10_addLoan_34 (by repeat (first | assumption | exact aSet_s | exact aNew_s | refine lk_n ?_ (by omega) | refine lk_f (by assumption) ?_ (by omega) | refine lk_w ?_ (by omega))) (by exact rfl) ?_
  refine A_iload (pc := 37) rfl hX dX10_addLoan_37 ?_
  refine A_S2d (pc := 39) hX mk_X11_at ls_X10_39 dX10_addLoan_39 (ct_at l G (by repeat (first | assumption | exact aSet_s | exact aNew_s | refine lk_n ?_ (by omega) | refine lk_f (by assumption) ?_ (by omega) | refine lk_w ?_ (by omega))) (by decide)) rfl (Nat.le_of_ble_eq_true rfl) (Nat.le_of_ble_eq_true rfl) (Nat.le_of_ble_eq_true rfl) (Nat.le_of_ble_eq_true rfl) (Nat.le_of_ble_eq_true rfl) ?_
  refine A_top (y := cV (D (mkB B b s))) (by rw [atS_nI hto (by decide), (hcf _ hto).1]) ?_
  refine A_istore (pc := 42) (lv' := [_, _, _, _, _, _, _]) hX dX10_addLoan_42 (Nat.le_of_ble_eq_true rfl) rfl rfl ?_
  refine A_iload (pc := 44) rfl hX dX10_addLoan_44 ?_
  refine A_iconst (pc := 46) (v := (-1)) (by decide) hX dX10_addLoan_46 ?_
  refine A_icmp_ne (pc := 47) 97 hX dX10_addLoan_47 rfl (fun c47 => ?_) (fun c47 => ?_)
  · have hdt : D (mkB B b s) < inf := Decidable.byContradiction fun q => c47 (cV_m1.mpr q)
    have hdc := hD _ hto hdt
    refine A_iload (pc := 97) rfl hX dX10_addLoan_97 ?_
    refine A_iload_n (pc := 99) rfl hX dX10_addLoan_99 ?_
    refine A_icmp_ne (pc := 100) 128 hX dX10_addLoan_100 rfl (fun c100 => ?_) (fun c100 => ?_)
    · rw [cV_in hdt] at c100
      have hne : D (mkB B b s) ≠ c := fun e => c100 (by rw [e])
      refine A_ret (pc := 128) hX hR dX10_addLoan_128 ?_
      exact ⟨rfl, D, F, fd, od, .inl ⟨rfl, rfl, rfl, rfl, (fun q => by omega)⟩, ⟨a0, ⟨gc, gf, go, a1, a2, a3, hcf, hgo⟩, a4, a5⟩, Fr.rf⟩
    · rw [cV_in hdt] at c100
      have hec : D (mkB B b s) = c := (nI_eq (by omega) (by omega)).mp (Decidable.byContradiction fun q => absurd c100 (by simpa using q))
      have hts : mkB B b s ≠ s0 := fun e => by rw [e, hD0] at hec; omega
      have hft := hF _ hto hts hdt
      refine A_iload (pc := 103) rfl hX dX10_addLoan_103 ?_
      refine A_aload_n (pc := 105) rfl hX dX10_addLoan_105 ?_
      refine A_getf (pc := 106) hX fl_X10_15_10 dX10_addLoan_106 (by repeat (first | assumption | exact aSet_s | exact aNew_s | refine lk_n ?_ (by omega) | refine lk_f (by assumption) ?_ (by omega) | refine lk_w ?_ (by omega))) (by exact rfl) ?_
      refine A_iload (pc := 109) rfl hX dX10_addLoan_109 ?_
      refine A_S2d (pc := 111) hX mk_X11_at ls_X10_39 dX10_addLoan_111 (ct_at l G (by repeat (first | assumption | exact aSet_s | exact aNew_s | refine lk_n ?_ (by omega) | refine lk_f (by assumption) ?_ (by omega) | refine lk_w ?_ (by omega))) (by decide)) rfl (Nat.le_of_ble_eq_true rfl) (Nat.le_of_ble_eq_true rfl) (Nat.le_of_ble_eq_true rfl) (Nat.le_of_ble_eq_true rfl) (Nat.le_of_ble_eq_true rfl) ?_
      refine A_top (y := nI (F (mkB B b s))) (by rw [atS_nI hto (by decide), (hcf _ hto).2, fV_in hdt hts]) ?_
      refine A_icmp_ge (pc := 114) 128 hX dX10_addLoan_114 rfl (fun c114 => ?_) (fun c114 => ?_)
      · refine A_ret (pc := 128) hX hR dX10_addLoan_128 ?_
        rw [nI_leI (by omega) (by omega)] at c114
        exact ⟨rfl, D, F, fd, od, .inl ⟨rfl, rfl, rfl, rfl, (fun q => by omega)⟩, ⟨a0, ⟨gc, gf, go, a1, a2, a3, hcf, hgo⟩, a4, a5⟩, Fr.rf⟩
      · refine A_aload_n (pc := 117) rfl hX dX10_addLoan_117 ?_
        refine A_getf (pc := 118) hX fl_X10_15_10 dX10_addLoan_118 (by repeat (first | assumption | exact aSet_s | exact aNew_s | refine lk_n ?_ (by omega) | refine lk_f (by assumption) ?_ (by omega) | refine lk_w ?_ (by omega))) (by exact rfl) ?_
        refine A_iload (pc := 121) rfl hX dX10_addLoan_121 ?_
        refine A_iload (pc := 123) rfl hX dX10_addLoan_123 ?_
        refine A_S3v (pc := 125) hX mk_X11_put ls_X10_53 dX10_addLoan_125 (ct_put l G (by repeat (first | assumption | exact aSet_s | exact aNew_s | refine lk_n ?_ (by omega) | refine lk_f (by assumption) ?_ (by omega) | refine lk_w ?_ (by omega))) (by decide)) rfl (Nat.le_of_ble_eq_true rfl) (Nat.le_of_ble_eq_true rfl) (Nat.le_of_ble_eq_true rfl) (Nat.le_of_ble_eq_true rfl) (Nat.le_of_ble_eq_true rfl) (fun σ125 h125 => ?_)
        obtain ⟨h125, hf125⟩ := h125
        refine A_ret (pc := 128) hX hR dX10_addLoan_128 ?_
        rw [nI_leI (by omega) (by omega)] at c114
        refine ⟨rfl, (fun q => if q = mkB B b s then c else D q), (fun q => if q = mkB B b s then cnd s0 F b s else F q), fd, od, .inr ⟨.inr ⟨hec.symm, by omega⟩, fun _ => rfl, fun _ => rfl, .inr ⟨hec, rfl, rfl⟩⟩, ⟨(by repeat (first | assumption | exact aSet_s | exact aNew_s | refine lk_n ?_ (by omega) | refine lk_f (by assumption) ?_ (by omega) | refine lk_w ?_ (by omega))), ⟨_, _, _, (by repeat (first | assumption | exact aSet_s | exact aNew_s | refine lk_n ?_ (by omega) | refine lk_f (by assumption) ?_ (by omega) | refine lk_w ?_ (by omega))), (by repeat (first | assumption | exact aSet_s | exact aNew_s | refine lk_n ?_ (by omega) | refine lk_f (by assumption) ?_ (by omega) | refine lk_w ?_ (by omega))), (by repeat (first | assumption | exact aSet_s | exact aNew_s | refine lk_n ?_ (by omega) | refine lk_f (by assumption) ?_ (by omega) | refine lk_w ?_ (by omega))), fun q hq => ?_, hgo⟩, (by repeat (first | assumption | exact aSet_s | exact aNew_s | refine lk_n ?_ (by omega) | refine lk_f (by assumption) ?_ (by omega) | refine lk_w ?_ (by omega))), (by repeat (first | assumption | exact aSet_s | exact aNew_s | refine lk_n ?_ (by omega) | refine lk_f (by assumption) ?_ (by omega) | refine lk_w ?_ (by omega)))⟩, (by repeat (first | exact Fr.rf | refine Fr.set ?_ (by omega) (by omega) | refine Fr.tr ?_ (Fr.wd (by assumption) (by omega) (by omega))))⟩
        rw [putS_nI hto (by decide)]
        by_cases e : q = mkB B b s
        · subst e
          simp only [upd, if_pos]
          exact ⟨by rw [(hcf _ hto).1, hec], (fV_in (by omega) hts).symm⟩
        · simp only [upd, if_neg e]; exact hcf q hq
  · have hdt : ¬ D (mkB B b s) < inf := cV_m1.mp (Decidable.byContradiction fun q => absurd c47 (by simpa using q))
    have hdi : D (mkB B b s) = inf := by have := hDi _ hto; omega
    have hfl : fd < 512 := by rw [hfd]; exact cntN_lt_n _ hto (decide_eq_false hdt)
    have hts : mkB B b s ≠ s0 := fun e => by rw [e, hD0] at hdi; simp at hdi
    refine A_aload_n (pc := 50) rfl hX dX10_addLoan_50 ?_
    refine A_getf (pc := 51) hX fl_X10_9_10 dX10_addLoan_51 (by repeat (first | assumption | exact aSet_s | exact aNew_s | refine lk_n ?_ (by omega) | refine lk_f (by assumption) ?_ (by omega) | refine lk_w ?_ (by omega))) (by exact rfl) ?_
    refine A_iload (pc := 54) rfl hX dX10_addLoan_54 ?_
    refine A_iload_n (pc := 56) rfl hX dX10_addLoan_56 ?_
    refine A_S3v (pc := 57) hX mk_X11_put ls_X10_53 dX10_addLoan_57 (ct_put l G (by repeat (first | assumption | exact aSet_s | exact aNew_s | refine lk_n ?_ (by omega) | refine lk_f (by assumption) ?_ (by omega) | refine lk_w ?_ (by omega))) (by decide)) rfl (Nat.le_of_ble_eq_true rfl) (Nat.le_of_ble_eq_true rfl) (Nat.le_of_ble_eq_true rfl) (Nat.le_of_ble_eq_true rfl) (Nat.le_of_ble_eq_true rfl) (fun σ57 h57 => ?_)
    obtain ⟨h57, hf57⟩ := h57
    refine A_aload_n (pc := 60) rfl hX dX10_addLoan_60 ?_
    refine A_getf (pc := 61) hX fl_X10_15_10 dX10_addLoan_61 (by repeat (first | assumption | exact aSet_s | exact aNew_s | refine lk_n ?_ (by omega) | refine lk_f (by assumption) ?_ (by omega) | refine lk_w ?_ (by omega))) (by exact rfl) ?_
    refine A_iload (pc := 64) rfl hX dX10_addLoan_64 ?_
    refine A_iload (pc := 66) rfl hX dX10_addLoan_66 ?_
    refine A_S3v (pc := 68) hX mk_X11_put ls_X10_53 dX10_addLoan_68 (ct_put l G (by repeat (first | assumption | exact aSet_s | exact aNew_s | refine lk_n ?_ (by omega) | refine lk_f (by assumption) ?_ (by omega) | refine lk_w ?_ (by omega))) (by decide)) rfl (Nat.le_of_ble_eq_true rfl) (Nat.le_of_ble_eq_true rfl) (Nat.le_of_ble_eq_true rfl) (Nat.le_of_ble_eq_true rfl) (Nat.le_of_ble_eq_true rfl) (fun σ68 h68 => ?_)
    obtain ⟨h68, hf68⟩ := h68
    refine A_aload_n (pc := 71) rfl hX dX10_addLoan_71 ?_
    refine A_getf (pc := 72) hX fl_X10_18_10 dX10_addLoan_72 (by repeat (first | assumption | exact aSet_s | exact aNew_s | refine lk_n ?_ (by omega) | refine lk_f (by assumption) ?_ (by omega) | refine lk_w ?_ (by omega))) (by exact rfl) ?_
    refine A_aload_n (pc := 75) rfl hX dX10_addLoan_75 ?_
    refine A_getf (pc := 76) hX fl_X10_47_10 dX10_addLoan_76 (by repeat (first | assumption | exact aSet_s | exact aNew_s | refine lk_n ?_ (by omega) | refine lk_f (by assumption) ?_ (by omega) | refine lk_w ?_ (by omega))) (by exact rfl) ?_
    refine A_iload (pc := 79) rfl hX dX10_addLoan_79 ?_
    refine A_S3v (pc := 81) hX mk_X11_put ls_X10_53 dX10_addLoan_81 (ct_put l G (by repeat (first | assumption | exact aSet_s | exact aNew_s | refine lk_n ?_ (by omega) | refine lk_f (by assumption) ?_ (by omega) | refine lk_w ?_ (by omega))) (by decide)) rfl (Nat.le_of_ble_eq_true rfl) (Nat.le_of_ble_eq_true rfl) (Nat.le_of_ble_eq_true rfl) (Nat.le_of_ble_eq_true rfl) (Nat.le_of_ble_eq_true rfl) (fun σ81 h81 => ?_)
    obtain ⟨h81, hf81⟩ := h81
    refine A_aload_n (pc := 84) rfl hX dX10_addLoan_84 ?_
    refine A_dup (pc := 85) rfl hX dX10_addLoan_85 ?_
    refine A_getf (pc := 86) hX fl_X10_47_10 dX10_addLoan_86 (by repeat (first | assumption | exact aSet_s | exact aNew_s | refine lk_n ?_ (by omega) | refine lk_f (by assumption) ?_ (by omega) | refine lk_w ?_ (by omega))) (by exact rfl) ?_
    refine A_iconst (pc := 89) (v := (nI 1)) (by decide) hX dX10_addLoan_89 ?_
    refine A_iadd (pc := 90) hX dX10_addLoan_90 ?_
    refine A_top (y := nI (fd + 1)) (nI_succ fd).symm ?_
    refine A_putf (pc := 91) (fs' := [_, _, _, _, _, _, _, _, _]) hX pl_X10_47_10 dX10_addLoan_91 (by repeat (first | assumption | exact aSet_s | exact aNew_s | refine lk_n ?_ (by omega) | refine lk_f (by assumption) ?_ (by omega) | refine lk_w ?_ (by omega))) (by exact Nat.le_of_ble_eq_true rfl) (by exact rfl) rfl rfl ?_
    refine A_goto (pc := 94) 128 hX dX10_addLoan_94 rfl ?_
    refine A_ret (pc := 128) hX hR dX10_addLoan_128 ?_
    refine ⟨rfl, (fun q => if q = mkB B b s then c else D q), (fun q => if q = mkB B b s then cnd s0 F b s else F q), fd + 1, (fun q => if q = fd then mkB B b s else od q), .inr ⟨.inl (by rw [hdi]; simp only [inf]; omega), fun _ => rfl, fun _ => rfl, .inl ⟨hdi, rfl, rfl⟩⟩, ⟨aSet_s, ⟨_, _, _, (by repeat (first | assumption | exact aSet_s | exact aNew_s | refine lk_n ?_ (by omega) | refine lk_f (by assumption) ?_ (by omega) | refine lk_w ?_ (by omega))), (by repeat (first | assumption | exact aSet_s | exact aNew_s | refine lk_n ?_ (by omega) | refine lk_f (by assumption) ?_ (by omega) | refine lk_w ?_ (by omega))), (by repeat (first | assumption | exact aSet_s | exact aNew_s | refine lk_n ?_ (by omega) | refine lk_f (by assumption) ?_ (by omega) | refine lk_w ?_ (by omega))), fun q hq => ?_, fun q hq => ?_⟩, (by repeat (first | assumption | exact aSet_s | exact aNew_s | refine lk_n ?_ (by omega) | refine lk_f (by assumption) ?_ (by omega) | refine lk_w ?_ (by omega))), (by repeat (first | assumption | exact aSet_s | exact aNew_s | refine lk_n ?_ (by omega) | refine lk_f (by assumption) ?_ (by omega) | refine lk_w ?_ (by omega)))⟩, (by repeat (first | exact Fr.rf | refine Fr.set ?_ (by omega) (by omega) | refine Fr.tr ?_ (Fr.wd (by assumption) (by omega) (by omega))))⟩
    · rw [putS_nI hto (by decide), putS_nI hto (by decide)]
      by_cases e : q = mkB B b s
      · subst e
        simp only [upd, if_pos]
        exact ⟨(cV_in (by simp only [inf]; omega)).symm, (fV_in (by simp only [inf]; omega) hts).symm⟩
      · simp only [upd, if_neg e]; exact hcf q hq
    · rw [putS_nI hfl (by decide)]
      by_cases e : q = fd
      · subst e; simp only [upd, if_pos]; exact ⟨trivial, hto⟩
      · simp only [upd, if_neg e]; exact hgo q (by omega)
def alT : Nat → Bool := fun _ => true
def LyI (c : Nat) (D : Nat → Nat) (fd : Nat) (od bg en : Nat → Nat) : Prop := ∀ k, k < c → c ≤ k + 5 → (∀ s, s < 512 → D s = k → ∃ q, bg (k % 6) ≤ q ∧ q < en (k % 6) ∧ od q = s) ∧ ∀ q, bg (k % 6) ≤ q → q < en (k % 6) → q < fd ∧ D (od q) = k
def dnA (D wt : Nat → Nat) (c b : Nat) (P : Nat → Prop) : Nat → Nat → Prop := fun s' b' => D s' + wt b' < c ∨ (D s' + wt b' = c ∧ (b' < b ∨ (b' = b ∧ P s')))
theorem dnA_F {D wt : Nat → Nat} {c b s' b' : Nat} : dnA D wt c b (fun _ => False) s' b' ↔ D s' + wt b' < c ∨ (D s' + wt b' = c ∧ b' < b) := by simp [dnA]
def JA (nb : Nat) (mB : Nat → Nat → Nat) (wt : Nat → Nat) (s0 c : Nat) (D : Nat → Nat) (fd : Nat) (od : Nat → Nat) (dn : Nat → Nat → Prop) (D1 F1 : Nat → Nat) (fd1 : Nat) (od1 : Nat → Nat) : Prop :=
  SpI nb mB wt alT s0 dn D1 F1 ∧ (∀ s, s < 512 → D s < inf → D1 s = D s) ∧ (∀ s, s < 512 → D s = inf → D1 s = inf ∨ D1 s = c) ∧ fd1 = cnt D1 ∧ fd ≤ fd1 ∧ (∀ q, q < fd → od1 q = od q) ∧ ∀ s, s < 512 → (D1 s = c ↔ ∃ q, fd ≤ q ∧ q < fd1 ∧ od1 q = s)
theorem JA.cg {nb : Nat} {mB : Nat → Nat → Nat} {wt : Nat → Nat} {s0 c : Nat} {D : Nat → Nat} {fd : Nat} {od : Nat → Nat} {dn dn' : Nat → Nat → Prop} {D1 F1 : Nat → Nat} {fd1 : Nat} {od1 : Nat → Nat} (h : JA nb mB wt s0 c D fd od dn D1 F1 fd1 od1) (hd : ∀ s b, s < 512 → b < nb → (dn s b ↔ dn' s b)) : JA nb mB wt s0 c D fd od dn' D1 F1 fd1 od1 :=
  ⟨h.1.cg fun s b h1 h2 _ => hd s b h1 h2, h.2⟩
theorem JA.step {nb : Nat} {mB : Nat → Nat → Nat} {wt : Nat → Nat} {s0 c : Nat} {D : Nat → Nat} {fd : Nat} {od : Nat → Nat} {b s : Nat} {P : Nat → Prop} {D1 F1 : Nat → Nat} {fd1 : Nat} {od1 : Nat → Nat} {D2 F2 : Nat → Nat} {fd2 : Nat} {od2 : Nat → Nat} (hw : okW nb mB wt) (h2 : ∀ s, s < 512 → D s < inf → D s < c) (hDi : ∀ s, s < 512 → D s ≤ inf) (hc : c ≤ 2560) (h : JA nb mB wt s0 c D fd od (dnA D wt c b P) D1 F1 fd1 od1) (hb : b < nb) (hs : s < 512) (hds : D s + wt b = c) (hU : Uo D1 F1 fd1 od1 c (mB b s) (cnd s0 F1 b s) D2 F2 fd2 od2) : JA nb mB wt s0 c D fd od (dnA D wt c b (fun x => P x ∨ x = s)) D2 F2 fd2 od2 := by
  obtain ⟨g1, g2, g3, g4, g5, g6, g7⟩ := h
  obtain ⟨w1, w2, w3⟩ := hw b hb
  have hdi : D s < inf := by simp only [inf]; omega
  have e1 : D1 s = D s := g2 s hs hdi
  have hto := w3 s hs
  have hw' := fun b hb => (hw b hb).1
  have hdn : ∀ s' b', dnA D wt c b (fun x => P x ∨ x = s) s' b' ↔ dnA D wt c b P s' b' ∨ (s' = s ∧ b' = b) := by
    intro s' b'
    unfold dnA
    constructor
    · rintro (q | ⟨q1, q2 | ⟨q2, q3 | q3⟩⟩)
      · exact .inl (.inl q)
      · exact .inl (.inr ⟨q1, .inl q2⟩)
      · exact .inl (.inr ⟨q1, .inr ⟨q2, q3⟩⟩)
      · exact .inr ⟨q3, q2⟩
    · rintro ((q | ⟨q1, q2 | ⟨q2, q3⟩⟩) | ⟨rfl, rfl⟩)
      · exact .inl q
      · exact .inr ⟨q1, .inl q2⟩
      · exact .inr ⟨q1, .inr ⟨q2, .inl q3⟩⟩
      · exact .inr ⟨hds, .inr ⟨rfl, .inr rfl⟩⟩
  have e3 : D1 s + wt b = c := by rw [e1]; exact hds
  have hub : ∀ q, q < 512 → D1 q = inf ∨ D1 q ≤ c := fun q hq => by
    by_cases z : D q < inf
    · have := g2 q hq z; have := h2 q hq z; omega
    · have := hDi q hq
      rcases g3 q hq (by omega) with y | y
      · exact .inl y
      · exact .inr (by omega)
  rcases hU with ⟨rfl, rfl, rfl, rfl, hn⟩ | ⟨hc1, hD, hF, hO⟩
  · exact ⟨g1.relax hw hb rfl hs (by omega) hdn (.inl ⟨rfl, rfl, by rw [e3]; exact hn⟩), g2, g3, g4, g5, g6, g7⟩
  · -- a state that is new at this cost, or a better first
    have hDto : D (mB b s) = inf := by
      by_cases z : D (mB b s) < inf
      · have z1 := g2 _ hto z
        have z2 := h2 _ hto z
        omega
      · have := hDi _ hto; omega
    have hnd : ∀ b', ¬ dnA D wt c b P (mB b s) b' := by
      intro b' q
      unfold dnA at q
      rw [hDto] at q
      simp only [inf] at q
      omega
    have hsp := g1.relax (D' := D2) (F' := F2) hw hb rfl hs (by omega) hdn (.inr ⟨by rw [e3]; exact hc1, hnd, by rw [e3]; exact hD, hF⟩)
    have i1 : ∀ q, q < 512 → D q < inf → D2 q = D q := fun q hq z => by
      rw [hD, if_neg (fun e => by rw [e, hDto] at z; exact Nat.lt_irrefl _ z)]
      exact g2 q hq z
    have i2 : ∀ q, q < 512 → D q = inf → D2 q = inf ∨ D2 q = c := fun q hq z => by
      rw [hD]
      split
      · exact .inr rfl
      · exact g3 q hq z
    rcases hO with ⟨o1, rfl, rfl⟩ | ⟨o1, rfl, rfl⟩
    · refine ⟨hsp, i1, i2, ?_, by omega, fun q hq => ?_, fun q hq => ?_⟩
      · rw [g4]
        refine (cntN_up (mB b s) hto (decide_eq_false (by omega)) (decide_eq_true (by rw [hD, if_pos rfl]; simp only [inf]; omega)) fun q hq hne => ?_).symm
        show decide (D2 q < inf) = decide (D1 q < inf)
        rw [hD, if_neg hne]
      · simp only [if_neg (show ¬ q = fd1 by omega)]
        exact g6 q hq
      · rw [hD]
        constructor
        · intro z
          by_cases e : q = mB b s
          · exact ⟨fd1, g5, by omega, by simp [e]⟩
          · rw [if_neg e] at z
            obtain ⟨q', y1, y2, y3⟩ := (g7 q hq).mp z
            exact ⟨q', y1, by omega, by simp only [if_neg (show ¬ q' = fd1 by omega)]; exact y3⟩
        · rintro ⟨q', y1, y2, y3⟩
          by_cases e : q' = fd1
          · simp only [if_pos e] at y3
            rw [if_pos y3.symm]
          · simp only [if_neg e] at y3
            have := (g7 q hq).mpr ⟨q', y1, by omega, y3⟩
            split
            · rfl
            · exact this
    · have hDc : ∀ q, D2 q = D1 q := fun q => by
        rw [hD]
        split
        · rename_i e; rw [e, o1]
        · rfl
      refine ⟨hsp, i1, i2, ?_, g5, g6, fun q hq => by rw [hDc]; exact g7 q hq⟩
      rw [g4]
      exact cntN_cg fun q _ => by rw [hDc]
set_option maxRecDepth 100000 in
set_option maxHeartbeats 1000000 in
theorem ct_addAllOf (l : Launch) (G : aG) {y w tp nb s0 fd c : Nat} {by_ : Bool} {B : Nat → Nat × Nat × Nat × Nat} {D F od bg en : Nat → Nat} {gb ge : Nat → Int32} {σ : aS} (hw : RTw G w tp nb B σ) (hY : RWy G y w by_ s0 fd D F od gb ge σ) (hwy : w + 5 ≤ y) (hyt : y + 6 ≤ tp) (h1 : SpI nb (mkB B) (wtB by_ B) alT s0 (fun s b => D s + wtB by_ B b < c) D F) (h2 : ∀ s, s < 512 → D s < inf → D s < c) (h3 : fd = cnt D) (h4 : LyI c D fd od bg en) (h5 : ∀ j, j < 6 → gb j = nI (bg j) ∧ ge j = nI (en j) ∧ bg j ≤ 512 ∧ en j ≤ 512) (hc1 : 1 ≤ c) (hc2 : c ≤ 2560) : ACt l G yX10_addAllOf cX10_addAllOf 7 (none) 2 0 0 [.ref y, .int (nI c)] σ (vP (fun σ' => ∃ D' F' fd' od', JA nb (mkB B) (wtB by_ B) s0 c D fd od (fun s b => D s + wtB by_ B b ≤ c) D' F' fd' od' ∧ RWy G y w by_ s0 fd' D' F' od' gb ge σ' ∧ Fr y (y + 6) σ σ')) := by
  obtain ⟨hwt, hnb, hok, bor, fa, fo, fn, e0, e1, e2, e3, e4, e5, e6⟩ := id hw
  obtain ⟨a0, ⟨gc, gf, go, a1, a2, a3, hcf, hgo⟩, a4, a5⟩ := id hY
  have hwk := okW_of by_ hok
  have hs0 := h1.1
  have hDi := h1.2.2.1
  have hnew : ∀ s, s < 512 → (D s = c ↔ ∃ q, fd ≤ q ∧ q < fd ∧ od q = s) := fun s hs => ⟨fun e => by
    by_cases z : D s < inf
    · have := h2 s hs z; omega
    · have := hDi s hs; simp only [inf] at *; omega, fun ⟨q, q1, q2, _⟩ => by omega⟩
  refine ACt.intro (own := RX10) (nm := "addAllOf") mk_X10_addAllOf rfl rfl [some (.ref y), some (.int (nI c)), none, none, none, none, none] rfl (Nat.le_of_ble_eq_true rfl) (fun X hX hR => ?_)
  refine A_iconst (pc := 0) (v := (nI 0)) (by decide) hX dX10_addAllOf_0 ?_
  refine A_istore_n (pc := 1) (lv' := [_, _, _, _, _, _, _]) hX dX10_addAllOf_1 (Nat.le_of_ble_eq_true rfl) rfl rfl ?_
  suffices hl : ∀ (m b : Nat) (σ1 : aS) (D1 F1 : Nat → Nat) (fd1 : Nat) (od1 : Nat → Nat) (v3 v4 v5 v6 : Option Value), b ≤ nb → nb - b = m → Fr y (y + 6) σ σ1 → RWy G y w by_ s0 fd1 D1 F1 od1 gb ge σ1 → JA nb (mkB B) (wtB by_ B) s0 c D fd od (dnA D (wtB by_ B) c b (fun _ => False)) D1 F1 fd1 od1 → AA G X 0 0 2 [some (.ref y), some (.int (nI c)), some (.int (nI b)), v3, v4, v5, v6] [] σ1 from hl nb 0 σ D F fd od none none none none (Nat.zero_le _) (by omega) Fr.rf hY ⟨h1.cg (fun s b _ _ _ => by rw [dnA_F]; omega), fun _ _ _ => rfl, fun _ _ e => .inl e, h3, Nat.le_refl _, fun _ _ => rfl, hnew⟩
  intro m
  induction m with
  | zero =>
    intro b σ1 D1 F1 fd1 od1 v3 v4 v5 v6 hb hm hFr hR1 hJ
    have e : b = nb := by omega
    subst e
    obtain ⟨b0, ⟨kc, kf, ko, b1, b2, b3, kcf, kgo⟩, b4, b5⟩ := id hR1
    have g0 := lk_f hFr e0 (by omega)
    refine A_iload_n (pc := 2) rfl hX dX10_addAllOf_2 ?_
    refine A_aload_n (pc := 3) rfl hX dX10_addAllOf_3 ?_
    refine A_getf (pc := 4) hX fl_X10_31_10 dX10_addAllOf_4 (by repeat (first | assumption | exact aSet_s | exact aNew_s | refine lk_n ?_ (by omega) | refine lk_f (by assumption) ?_ (by omega) | refine lk_w ?_ (by omega))) (by exact rfl) ?_
    refine A_getf (pc := 7) hX fl_X10_61_8 dX10_addAllOf_7 (by repeat (first | assumption | exact aSet_s | exact aNew_s | refine lk_n ?_ (by omega) | refine lk_f (by assumption) ?_ (by omega) | refine lk_w ?_ (by omega))) (by exact rfl) ?_
    refine A_icmp_ge (pc := 10) 102 hX dX10_addAllOf_10 rfl (fun c10 => ?_) (fun c10 => ?_)
    · refine A_ret (pc := 102) hX hR dX10_addAllOf_102 ?_
      exact ⟨rfl, D1, F1, fd1, od1, hJ.cg (fun s b hs hb2 => by rw [dnA_F]; omega), hR1, hFr⟩
    · exact absurd (nI_le (by omega) (by omega)) c10
  | succ m ih =>
    intro b σ1 D1 F1 fd1 od1 v3 v4 v5 v6 hb hm hFr hR1 hJ
    have hlt : b < nb := by omega
    have hwb := hwk b hlt
    have hw1 := hw.fr hFr (by omega) (.inr (by omega))
    obtain ⟨b0, ⟨kc, kf, ko, b1, b2, b3, kcf, kgo⟩, b4, b5⟩ := id hR1
    have g0 := lk_f hFr e0 (by omega)
    have hnx : ∀ (σ2 : aS) (D2 F2 : Nat → Nat) (fd2 : Nat) (od2 : Nat → Nat) (v3 v4 v5 v6 : Option Value), Fr y (y + 6) σ σ2 → RWy G y w by_ s0 fd2 D2 F2 od2 gb ge σ2 → JA nb (mkB B) (wtB by_ B) s0 c D fd od (dnA D (wtB by_ B) c (b + 1) (fun _ => False)) D2 F2 fd2 od2 → AA G X 0 0 96 [some (.ref y), some (.int (nI c)), some (.int (nI b)), v3, v4, v5, v6] [] σ2 := by
      intro σ2 D2 F2 fd2 od2 v3 v4 v5 v6 x1 x2 x3
      refine A_iinc (pc := 96) (v := (nI (b + 1))) (lv' := [_, _, _, _, _, _, _]) hX dX10_addAllOf_96 rfl (nI_succ b).symm rfl rfl ?_
      refine A_goto (pc := 99) 2 hX dX10_addAllOf_99 rfl ?_
      exact ih (b + 1) σ2 D2 F2 fd2 od2 _ _ _ _ (by omega) (by omega) x1 x2 x3
    suffices hj : AA G X 0 0 32 [some (.ref y), some (.int (nI c)), some (.int (nI b)), v3, v4, v5, v6] [.int (nI (wtB by_ B b))] σ1 from by
      refine A_iload_n (pc := 2) rfl hX dX10_addAllOf_2 ?_
      refine A_aload_n (pc := 3) rfl hX dX10_addAllOf_3 ?_
      refine A_getf (pc := 4) hX fl_X10_31_10 dX10_addAllOf_4 (by repeat (first | assumption | exact aSet_s | exact aNew_s | refine lk_n ?_ (by omega) | refine lk_f (by assumption) ?_ (by omega) | refine lk_w ?_ (by omega))) (by exact rfl) ?_
      refine A_getf (pc := 7) hX fl_X10_61_8 dX10_addAllOf_7 (by repeat (first | assumption | exact aSet_s | exact aNew_s | refine lk_n ?_ (by omega) | refine lk_f (by assumption) ?_ (by omega) | refine lk_w ?_ (by omega))) (by exact rfl) ?_
      refine A_icmp_ge (pc := 10) 102 hX dX10_addAllOf_10 rfl (fun c10 => ?_) (fun c10 => ?_)
      · exact absurd c10 (nI_ge hlt (by omega))
      · refine A_aload_n (pc := 13) rfl hX dX10_addAllOf_13 ?_
        refine A_getf (pc := 14) hX fl_X10_35_10 dX10_addAllOf_14 (by repeat (first | assumption | exact aSet_s | exact aNew_s | refine lk_n ?_ (by omega) | refine lk_f (by assumption) ?_ (by omega) | refine lk_w ?_ (by omega))) (by exact rfl) ?_
        refine A_if_eq (pc := 17) 31 hX dX10_addAllOf_17 rfl (fun c17 => ?_) (fun c17 => ?_)
        · have hx : nI 1 = nI (wtB by_ B b) := by rw [wtB, if_neg (by rw [bI_eq c17]; decide)]
          refine A_iconst (pc := 31) (v := (nI 1)) (by decide) hX dX10_addAllOf_31 ?_
          exact A_top (by assumption) hj
        · have hx : nI (B b).2.2.2 = nI (wtB by_ B b) := by rw [wtB, if_pos (bI_ne c17)]
          refine A_aload_n (pc := 20) rfl hX dX10_addAllOf_20 ?_
          refine A_getf (pc := 21) hX fl_X10_31_10 dX10_addAllOf_21 (by repeat (first | assumption | exact aSet_s | exact aNew_s | refine lk_n ?_ (by omega) | refine lk_f (by assumption) ?_ (by omega) | refine lk_w ?_ (by omega))) (by exact rfl) ?_
          refine A_iload_n (pc := 24) rfl hX dX10_addAllOf_24 ?_
          refine A_V1d (pc := 25) hX mk_X8_daysOf lv_X10_66 dX10_addAllOf_25 (by repeat (first | assumption | exact aSet_s | exact aNew_s | refine lk_n ?_ (by omega) | refine lk_f (by assumption) ?_ (by omega) | refine lk_w ?_ (by omega))) (ct_daysOf l G hw1 hlt) rfl (Nat.le_of_ble_eq_true rfl) (Nat.le_of_ble_eq_true rfl) (Nat.le_of_ble_eq_true rfl) (Nat.le_of_ble_eq_true rfl) (Nat.le_of_ble_eq_true rfl) ?_
          refine A_goto (pc := 28) 32 hX dX10_addAllOf_28 rfl ?_
          exact A_top (by assumption) hj
    refine A_istore_n (pc := 32) (lv' := [_, _, _, _, _, _, _]) hX dX10_addAllOf_32 (Nat.le_of_ble_eq_true rfl) rfl rfl ?_
    refine A_iload_n (pc := 33) rfl hX dX10_addAllOf_33 ?_
    refine A_iload_n (pc := 34) rfl hX dX10_addAllOf_34 ?_
    refine A_icmp_gt (pc := 35) 96 hX dX10_addAllOf_35 rfl (fun c35 => ?_) (fun c35 => ?_)
    · have c35 := (nI_ltI (by omega) (by omega)).mp c35
      exact hnx σ1 D1 F1 fd1 od1 _ _ _ _ hFr hR1 (hJ.cg (fun s b' hs hb' => by
        unfold dnA
        constructor
        · rintro (q | ⟨q1, q2 | ⟨_, q3⟩⟩)
          · exact .inl q
          · exact .inr ⟨q1, .inl (by omega)⟩
          · exact q3.elim
        · rintro (q | ⟨q1, q2 | ⟨_, q3⟩⟩)
          · exact .inl q
          · by_cases e : b' = b
            · subst e; omega
            · exact .inr ⟨q1, .inl (by omega)⟩
          · exact q3.elim))
    · have c35 : wtB by_ B b ≤ c := by
        rcases Nat.lt_or_ge c (wtB by_ B b) with z | z
        · exact absurd (nI_lt z (by omega)) c35
        · exact z
      have hl6 : (c - wtB by_ B b) % 6 < 6 := Nat.mod_lt _ (by decide)
      have hj6 := h5 _ hl6
      have hly := h4 (c - wtB by_ B b) (by omega) (by omega)
      refine A_iload_n (pc := 38) rfl hX dX10_addAllOf_38 ?_
      refine A_iload_n (pc := 39) rfl hX dX10_addAllOf_39 ?_
      refine A_isub (pc := 40) hX dX10_addAllOf_40 ?_
      refine A_top (y := nI (c - wtB by_ B b)) (pk_sub c35) ?_
      refine A_bipush (pc := 41) (v := (nI 6)) (by decide) hX dX10_addAllOf_41 ?_
      refine A_irem (pc := 43) (by decide) hX dX10_addAllOf_43 ?_
      refine A_top (y := nI ((c - wtB by_ B b) % 6)) (pk_rem (by omega) (by decide) (by decide)) ?_
      refine A_istore (pc := 44) (lv' := [_, _, _, _, _, _, _]) hX dX10_addAllOf_44 (Nat.le_of_ble_eq_true rfl) rfl rfl ?_
      refine A_aload_n (pc := 46) rfl hX dX10_addAllOf_46 ?_
      refine A_getf (pc := 47) hX fl_X10_24_10 dX10_addAllOf_47 (by repeat (first | assumption | exact aSet_s | exact aNew_s | refine lk_n ?_ (by omega) | refine lk_f (by assumption) ?_ (by omega) | refine lk_w ?_ (by omega))) (by exact rfl) ?_
      refine A_iload (pc := 50) rfl hX dX10_addAllOf_50 ?_
      refine A_S2d (pc := 52) hX mk_X11_at ls_X10_39 dX10_addAllOf_52 (ct_at l G (by repeat (first | assumption | exact aSet_s | exact aNew_s | refine lk_n ?_ (by omega) | refine lk_f (by assumption) ?_ (by omega) | refine lk_w ?_ (by omega))) (by decide)) rfl (Nat.le_of_ble_eq_true rfl) (Nat.le_of_ble_eq_true rfl) (Nat.le_of_ble_eq_true rfl) (Nat.le_of_ble_eq_true rfl) (Nat.le_of_ble_eq_true rfl) ?_
      refine A_top (y := nI (en ((c - wtB by_ B b) % 6))) (by rw [atS_nI hl6 (by decide), hj6.2.1]) ?_
      refine A_istore (pc := 55) (lv' := [_, _, _, _, _, _, _]) hX dX10_addAllOf_55 (Nat.le_of_ble_eq_true rfl) rfl rfl ?_
      refine A_aload_n (pc := 57) rfl hX dX10_addAllOf_57 ?_
      refine A_getf (pc := 58) hX fl_X10_21_10 dX10_addAllOf_58 (by repeat (first | assumption | exact aSet_s | exact aNew_s | refine lk_n ?_ (by omega) | refine lk_f (by assumption) ?_ (by omega) | refine lk_w ?_ (by omega))) (by exact rfl) ?_
      refine A_iload (pc := 61) rfl hX dX10_addAllOf_61 ?_
      refine A_S2d (pc := 63) hX mk_X11_at ls_X10_39 dX10_addAllOf_63 (ct_at l G (by repeat (first | assumption | exact aSet_s | exact aNew_s | refine lk_n ?_ (by omega) | refine lk_f (by assumption) ?_ (by omega) | refine lk_w ?_ (by omega))) (by decide)) rfl (Nat.le_of_ble_eq_true rfl) (Nat.le_of_ble_eq_true rfl) (Nat.le_of_ble_eq_true rfl) (Nat.le_of_ble_eq_true rfl) (Nat.le_of_ble_eq_true rfl) ?_
      refine A_top (y := nI (bg ((c - wtB by_ B b) % 6))) (by rw [atS_nI hl6 (by decide), hj6.1]) ?_
      refine A_istore (pc := 66) (lv' := [_, _, _, _, _, _, _]) hX dX10_addAllOf_66 (Nat.le_of_ble_eq_true rfl) rfl rfl ?_
      suffices hi : ∀ (m2 q : Nat) (σ2 : aS) (D2 F2 : Nat → Nat) (fd2 : Nat) (od2 : Nat → Nat), bg ((c - wtB by_ B b) % 6) ≤ q → q ≤ 512 → en ((c - wtB by_ B b) % 6) - q = m2 → Fr y (y + 6) σ σ2 → RWy G y w by_ s0 fd2 D2 F2 od2 gb ge σ2 → JA nb (mkB B) (wtB by_ B) s0 c D fd od (dnA D (wtB by_ B) c b (fun x => ∃ q', bg ((c - wtB by_ B b) % 6) ≤ q' ∧ q' < q ∧ od q' = x)) D2 F2 fd2 od2 → AA G X 0 0 68 [some (.ref y), some (.int (nI c)), some (.int (nI b)), some (.int (nI (wtB by_ B b))), some (.int (nI ((c - wtB by_ B b) % 6))), some (.int (nI (en ((c - wtB by_ B b) % 6)))), some (.int (nI q))] [] σ2 from hi _ _ σ1 D1 F1 fd1 od1 (Nat.le_refl _) hj6.2.2.1 rfl hFr hR1 (hJ.cg (fun s b' hs hb' => by
        unfold dnA
        constructor
        · rintro (q | ⟨q1, q2 | ⟨_, q3⟩⟩)
          · exact .inl q
          · exact .inr ⟨q1, .inl q2⟩
          · exact q3.elim
        · rintro (q | ⟨q1, q2 | ⟨_, q', q3, q4, _⟩⟩)
          · exact .inl q
          · exact .inr ⟨q1, .inl q2⟩
          · omega))
      intro m2
      induction m2 with
      | zero =>
        intro q σ2 D2 F2 fd2 od2 hq hq5 hm2 hFr2 hR2 hJ2
        refine A_iload (pc := 68) rfl hX dX10_addAllOf_68 ?_
        refine A_iload (pc := 70) rfl hX dX10_addAllOf_70 ?_
        refine A_icmp_ge (pc := 72) 96 hX dX10_addAllOf_72 rfl (fun c72 => ?_) (fun c72 => ?_)
        · refine hnx σ2 D2 F2 fd2 od2 _ _ _ _ hFr2 hR2 (hJ2.cg (fun s b' hs hb' => ?_))
          unfold dnA
          constructor
          · rintro (q | ⟨q1, q2 | ⟨q2, q3⟩⟩)
            · exact .inl q
            · exact .inr ⟨q1, .inl (by omega)⟩
            · exact .inr ⟨q1, .inl (by omega)⟩
          · rintro (q | ⟨q1, q2 | ⟨_, q3⟩⟩)
            · exact .inl q
            · by_cases e : b' = b
              · subst e
                obtain ⟨q', z1, z2, z3⟩ := hly.1 s hs (by omega)
                exact .inr ⟨q1, .inr ⟨rfl, q', z1, by omega, z3⟩⟩
              · exact .inr ⟨q1, .inl (by omega)⟩
            · exact q3.elim
        · exact absurd (nI_le (by omega) (by omega)) c72
      | succ m2 ih2 =>
        intro q σ2 D2 F2 fd2 od2 hq hq5 hm2 hFr2 hR2 hJ2
        obtain ⟨k0, ⟨mc, mf, mo, k1, k2, k3, mcf, mgo⟩, k4, k5⟩ := id hR2
        obtain ⟨j1, j2, j3, j4, j5, j6, j7⟩ := id hJ2
        obtain ⟨z1, z2⟩ := hly.2 q hq (by omega)
        have hod := hgo q z1
        have z3 : D (od q) < inf := by simp only [inf]; omega
        have hw2 := hw.fr hFr2 (by omega) (.inr (by omega))
        refine A_iload (pc := 68) rfl hX dX10_addAllOf_68 ?_
        refine A_iload (pc := 70) rfl hX dX10_addAllOf_70 ?_
        refine A_icmp_ge (pc := 72) 96 hX dX10_addAllOf_72 rfl (fun c72 => ?_) (fun c72 => ?_)
        · exact absurd c72 (nI_ge (by omega) (by omega))
        · refine A_aload_n (pc := 75) rfl hX dX10_addAllOf_75 ?_
          refine A_aload_n (pc := 76) rfl hX dX10_addAllOf_76 ?_
          refine A_getf (pc := 77) hX fl_X10_18_10 dX10_addAllOf_77 (by assumption) (by exact rfl) ?_
          refine A_iload (pc := 80) rfl hX dX10_addAllOf_80 ?_
          refine A_S2d (pc := 82) hX mk_X11_at ls_X10_39 dX10_addAllOf_82 (ct_at l G k3 (by decide)) rfl (Nat.le_of_ble_eq_true rfl) (Nat.le_of_ble_eq_true rfl) (Nat.le_of_ble_eq_true rfl) (Nat.le_of_ble_eq_true rfl) (Nat.le_of_ble_eq_true rfl) ?_
          refine A_top (y := nI (od q)) (by rw [atS_nI (by omega) (by decide), (mgo q (by omega)).1, j6 q z1]) ?_
          refine A_iload_n (pc := 85) rfl hX dX10_addAllOf_85 ?_
          refine A_iload_n (pc := 86) rfl hX dX10_addAllOf_86 ?_
          refine A_V3v (pc := 87) hX mk_X10_addLoan lv_X10_70 dX10_addAllOf_87 (by repeat (first | assumption | exact aSet_s | exact aNew_s | refine lk_n ?_ (by omega) | refine lk_f (by assumption) ?_ (by omega) | refine lk_w ?_ (by omega))) (ct_addLoan l G hw2 hR2 hwy hyt hod.2 hlt hs0 j1.2.1 (fun q hq z => by
            by_cases z9 : D q < inf
            · have := j2 q hq z9; have := h2 q hq z9; omega
            · have := hDi q hq
              rcases j3 q hq (by omega) with z8 | z8 <;> omega) j1.2.2.1 (by rw [j2 _ hod.2 z3]; exact z3) hc1 hc2 (j1.fst hwk) j4) rfl (Nat.le_of_ble_eq_true rfl) (Nat.le_of_ble_eq_true rfl) (Nat.le_of_ble_eq_true rfl) (Nat.le_of_ble_eq_true rfl) (Nat.le_of_ble_eq_true rfl) (fun σ87 h87 => ?_)
          obtain ⟨D3, F3, fd3, od3, hU, hR3, hF3⟩ := h87
          refine A_iinc (pc := 90) (v := (nI (q + 1))) (lv' := [_, _, _, _, _, _, _]) hX dX10_addAllOf_90 rfl (nI_succ q).symm rfl rfl ?_
          refine A_goto (pc := 93) 68 hX dX10_addAllOf_93 rfl ?_
          refine ih2 (q + 1) σ87 D3 F3 fd3 od3 (by omega) (by omega) (by omega) (hFr2.tr hF3) hR3 ((hJ2.step hwk h2 hDi hc2 hlt hod.2 (by omega) hU).cg (fun s b' hs hb' => ?_))
          unfold dnA
          constructor
          · rintro (x | ⟨x1, x2 | ⟨x2, ⟨q', x3, x4, x5⟩ | x3⟩⟩)
            · exact .inl x
            · exact .inr ⟨x1, .inl x2⟩
            · exact .inr ⟨x1, .inr ⟨x2, q', x3, by omega, x5⟩⟩
            · exact .inr ⟨x1, .inr ⟨x2, q, hq, by omega, x3.symm⟩⟩
          · rintro (x | ⟨x1, x2 | ⟨x2, q', x3, x4, x5⟩⟩)
            · exact .inl x
            · exact .inr ⟨x1, .inl x2⟩
            · by_cases e : q' = q
              · subst e; exact .inr ⟨x1, .inr ⟨x2, .inr x5.symm⟩⟩
              · exact .inr ⟨x1, .inr ⟨x2, .inl ⟨q', x3, by omega, x5⟩⟩⟩
theorem cntN_z : ∀ n, cntN (fun _ => false) n = 0
  | 0 => rfl
  | n + 1 => by rw [cntN, cntN_z n]; rfl
def RWr (G : aG) (y w : Nat) (by_ : Bool) (st fd : Int32) (σ : aS) : Prop := ∃ gc gf go gb ge : Nat → Int32, σ.2 y = some (aO 10 [.ref w, .int (bI by_), .ref (y + 1), .ref (y + 2), .ref (y + 3), .ref (y + 4), .ref (y + 5), .int st, .int fd]) ∧ σ.2 (y + 1) = some (aI G 512 gc) ∧ σ.2 (y + 2) = some (aI G 512 gf) ∧ σ.2 (y + 3) = some (aI G 512 go) ∧ σ.2 (y + 4) = some (aI G 6 gb) ∧ σ.2 (y + 5) = some (aI G 6 ge)
/-- a search from s0 that is through -/
def RWd (G : aG) (y w : Nat) (by_ : Bool) (nb : Nat) (B : Nat → Nat × Nat × Nat × Nat) (s0 : Nat) (σ : aS) : Prop := ∃ (fd : Nat) (D F od : Nat → Nat) (gb ge : Nat → Int32), RWy G y w by_ s0 fd D F od gb ge σ ∧ SpF nb (mkB B) (wtB by_ B) alT s0 D F ∧ fd = cnt D
def RWs (G : aG) (y w : Nat) (by_ : Bool) (nb : Nat) (B : Nat → Nat × Nat × Nat × Nat) (σ : aS) : Prop := (∃ fd, RWr G y w by_ (-1) fd σ) ∨ ∃ s0, RWd G y w by_ nb B s0 σ
theorem RWr.kept {G : aG} {y w : Nat} {by_ : Bool} {st fd : Int32} {σ σ' : aS} (h : RWr G y w by_ st fd σ) (hk : ∀ a, y ≤ a → a < y + 6 → σ'.2 a = σ.2 a) : RWr G y w by_ st fd σ' := by
  obtain ⟨gc, gf, go, gb, ge, h0, h1, h2, h3, h4, h5⟩ := h
  exact ⟨gc, gf, go, gb, ge, (hk y (by omega) (by omega)).trans h0, (hk _ (by omega) (by omega)).trans h1, (hk _ (by omega) (by omega)).trans h2, (hk _ (by omega) (by omega)).trans h3, (hk _ (by omega) (by omega)).trans h4, (hk _ (by omega) (by omega)).trans h5⟩
theorem RWy.kept {G : aG} {y w s0 fd : Nat} {by_ : Bool} {D F od : Nat → Nat} {gb ge : Nat → Int32} {σ σ' : aS} (h : RWy G y w by_ s0 fd D F od gb ge σ) (hk : ∀ a, y ≤ a → a < y + 6 → σ'.2 a = σ.2 a) : RWy G y w by_ s0 fd D F od gb ge σ' := by
  obtain ⟨h0, ⟨gc, gf, go, h1, h2, h3, h6⟩, h4, h5⟩ := h
  exact ⟨(hk y (by omega) (by omega)).trans h0, ⟨gc, gf, go, (hk _ (by omega) (by omega)).trans h1, (hk _ (by omega) (by omega)).trans h2, (hk _ (by omega) (by omega)).trans h3, h6⟩, (hk _ (by omega) (by omega)).trans h4, (hk _ (by omega) (by omega)).trans h5⟩
theorem RWd.kept {G : aG} {y w nb s0 : Nat} {by_ : Bool} {B : Nat → Nat × Nat × Nat × Nat} {σ σ' : aS} (h : RWd G y w by_ nb B s0 σ) (hk : ∀ a, y ≤ a → a < y + 6 → σ'.2 a = σ.2 a) : RWd G y w by_ nb B s0 σ' := by
  obtain ⟨fd, D, F, od, gb, ge, h1, h2⟩ := h
  exact ⟨fd, D, F, od, gb, ge, h1.kept hk, h2⟩
theorem RWs.kept {G : aG} {y w nb : Nat} {by_ : Bool} {B : Nat → Nat × Nat × Nat × Nat} {σ σ' : aS} (h : RWs G y w by_ nb B σ) (hk : ∀ a, y ≤ a → a < y + 6 → σ'.2 a = σ.2 a) : RWs G y w by_ nb B σ' := by
  rcases h with ⟨fd, h⟩ | ⟨s0, h⟩
  · exact .inl ⟨fd, h.kept hk⟩
  · exact .inr ⟨s0, h.kept hk⟩
theorem RWs.raw {G : aG} {y w nb : Nat} {by_ : Bool} {B : Nat → Nat × Nat × Nat × Nat} {σ : aS} (h : RWs G y w by_ nb B σ) : ∃ st fd, RWr G y w by_ st fd σ ∧ ∀ s, s < 512 → nI s = st → RWd G y w by_ nb B s σ := by
  rcases h with ⟨fd, h⟩ | ⟨s0, fd, D, F, od, gb, ge, hy, hs, hc⟩
  · exact ⟨-1, fd, h, fun s hs e => absurd e (nI_ne1 (by omega))⟩
  · obtain ⟨h0, ⟨gc, gf, go, h1, h2, h3, h6⟩, h4, h5⟩ := id hy
    have h512 := hs.1
    exact ⟨_, _, ⟨gc, gf, go, gb, ge, h0, h1, h2, h3, h4, h5⟩, fun s hs' e => by
      have e := (nI_eq (by omega) (by omega)).mp e
      subst e
      exact ⟨fd, D, F, od, gb, ge, hy, hs, hc⟩⟩
set_option maxRecDepth 100000 in
set_option maxHeartbeats 1000000 in
theorem ct_Wy_begin (l : Launch) (G : aG) {y w s : Nat} {by_ : Bool} {st fd : Int32} {σ : aS} (hr : RWr G y w by_ st fd σ) (hs : s < 512) : ACt l G yX10_begin cX10_begin 2 (none) 1 0 0 [.ref y, .int (nI s)] σ (vP (fun σ' => ∃ gb ge, RWy G y w by_ s 1 (fun q => if q = s then 0 else inf) (fun _ => 0) (fun _ => s) gb ge σ' ∧ (∀ j, j < 6 → gb j = nI 0 ∧ ge j = nI (if j = 0 then 1 else 0)) ∧ Fr y (y + 6) σ σ')) := by
  obtain ⟨gc, gf, go, gb, ge, a0, a1, a2, a3, a4, a5⟩ := id hr
  refine ACt.intro (own := RX10) (nm := "begin") mk_X10_begin rfl rfl [some (.ref y), some (.int (nI s))] rfl (Nat.le_of_ble_eq_true rfl) (fun X hX hR => ?_)
  refine A_aload_n (pc := 0) rfl hX dX10_begin_0 ?_
  refine A_iload_n (pc := 1) rfl hX dX10_begin_1 ?_
  refine A_putf (pc := 2) (fs' := [_, _, _, _, _, _, _, _, _]) hX pl_X10_27_10 dX10_begin_2 (by repeat (first | assumption | exact aSet_s | exact aNew_s | refine lk_n ?_ (by omega) | refine lk_f (by assumption) ?_ (by omega) | refine lk_w ?_ (by omega))) (by exact Nat.le_of_ble_eq_true rfl) (by exact rfl) rfl rfl ?_
  refine A_aload_n (pc := 5) rfl hX dX10_begin_5 ?_
  refine A_getf (pc := 6) hX fl_X10_9_10 dX10_begin_6 (by repeat (first | assumption | exact aSet_s | exact aNew_s | refine lk_n ?_ (by omega) | refine lk_f (by assumption) ?_ (by omega) | refine lk_w ?_ (by omega))) (by exact rfl) ?_
  refine A_iconst (pc := 9) (v := (-1)) (by decide) hX dX10_begin_9 ?_
  refine A_S2v (pc := 10) hX mk_X11_fill ls_X10_57 dX10_begin_10 (ct_fill l G (by repeat (first | assumption | exact aSet_s | exact aNew_s | refine lk_n ?_ (by omega) | refine lk_f (by assumption) ?_ (by omega) | refine lk_w ?_ (by omega))) (by decide)) rfl (Nat.le_of_ble_eq_true rfl) (Nat.le_of_ble_eq_true rfl) (Nat.le_of_ble_eq_true rfl) (Nat.le_of_ble_eq_true rfl) (Nat.le_of_ble_eq_true rfl) (fun σ10 h10 => ?_)
  obtain ⟨h10, hf10⟩ := h10
  refine A_aload_n (pc := 13) rfl hX dX10_begin_13 ?_
  refine A_getf (pc := 14) hX fl_X10_15_10 dX10_begin_14 (by repeat (first | assumption | exact aSet_s | exact aNew_s | refine lk_n ?_ (by omega) | refine lk_f (by assumption) ?_ (by omega) | refine lk_w ?_ (by omega))) (by exact rfl) ?_
  refine A_iconst (pc := 17) (v := (-1)) (by decide) hX dX10_begin_17 ?_
  refine A_S2v (pc := 18) hX mk_X11_fill ls_X10_57 dX10_begin_18 (ct_fill l G (by repeat (first | assumption | exact aSet_s | exact aNew_s | refine lk_n ?_ (by omega) | refine lk_f (by assumption) ?_ (by omega) | refine lk_w ?_ (by omega))) (by decide)) rfl (Nat.le_of_ble_eq_true rfl) (Nat.le_of_ble_eq_true rfl) (Nat.le_of_ble_eq_true rfl) (Nat.le_of_ble_eq_true rfl) (Nat.le_of_ble_eq_true rfl) (fun σ18 h18 => ?_)
  obtain ⟨h18, hf18⟩ := h18
  refine A_aload_n (pc := 21) rfl hX dX10_begin_21 ?_
  refine A_getf (pc := 22) hX fl_X10_21_10 dX10_begin_22 (by repeat (first | assumption | exact aSet_s | exact aNew_s | refine lk_n ?_ (by omega) | refine lk_f (by assumption) ?_ (by omega) | refine lk_w ?_ (by omega))) (by exact rfl) ?_
  refine A_iconst (pc := 25) (v := (nI 0)) (by decide) hX dX10_begin_25 ?_
  refine A_S2v (pc := 26) hX mk_X11_fill ls_X10_57 dX10_begin_26 (ct_fill l G (by repeat (first | assumption | exact aSet_s | exact aNew_s | refine lk_n ?_ (by omega) | refine lk_f (by assumption) ?_ (by omega) | refine lk_w ?_ (by omega))) (by decide)) rfl (Nat.le_of_ble_eq_true rfl) (Nat.le_of_ble_eq_true rfl) (Nat.le_of_ble_eq_true rfl) (Nat.le_of_ble_eq_true rfl) (Nat.le_of_ble_eq_true rfl) (fun σ26 h26 => ?_)
  obtain ⟨h26, hf26⟩ := h26
  refine A_aload_n (pc := 29) rfl hX dX10_begin_29 ?_
  refine A_getf (pc := 30) hX fl_X10_24_10 dX10_begin_30 (by repeat (first | assumption | exact aSet_s | exact aNew_s | refine lk_n ?_ (by omega) | refine lk_f (by assumption) ?_ (by omega) | refine lk_w ?_ (by omega))) (by exact rfl) ?_
  refine A_iconst (pc := 33) (v := (nI 0)) (by decide) hX dX10_begin_33 ?_
  refine A_S2v (pc := 34) hX mk_X11_fill ls_X10_57 dX10_begin_34 (ct_fill l G (by repeat (first | assumption | exact aSet_s | exact aNew_s | refine lk_n ?_ (by omega) | refine lk_f (by assumption) ?_ (by omega) | refine lk_w ?_ (by omega))) (by decide)) rfl (Nat.le_of_ble_eq_true rfl) (Nat.le_of_ble_eq_true rfl) (Nat.le_of_ble_eq_true rfl) (Nat.le_of_ble_eq_true rfl) (Nat.le_of_ble_eq_true rfl) (fun σ34 h34 => ?_)
  obtain ⟨h34, hf34⟩ := h34
  refine A_aload_n (pc := 37) rfl hX dX10_begin_37 ?_
  refine A_getf (pc := 38) hX fl_X10_9_10 dX10_begin_38 (by repeat (first | assumption | exact aSet_s | exact aNew_s | refine lk_n ?_ (by omega) | refine lk_f (by assumption) ?_ (by omega) | refine lk_w ?_ (by omega))) (by exact rfl) ?_
  refine A_iload_n (pc := 41) rfl hX dX10_begin_41 ?_
  refine A_iconst (pc := 42) (v := (nI 0)) (by decide) hX dX10_begin_42 ?_
  refine A_S3v (pc := 43) hX mk_X11_put ls_X10_53 dX10_begin_43 (ct_put l G (by repeat (first | assumption | exact aSet_s | exact aNew_s | refine lk_n ?_ (by omega) | refine lk_f (by assumption) ?_ (by omega) | refine lk_w ?_ (by omega))) (by decide)) rfl (Nat.le_of_ble_eq_true rfl) (Nat.le_of_ble_eq_true rfl) (Nat.le_of_ble_eq_true rfl) (Nat.le_of_ble_eq_true rfl) (Nat.le_of_ble_eq_true rfl) (fun σ43 h43 => ?_)
  obtain ⟨h43, hf43⟩ := h43
  refine A_aload_n (pc := 46) rfl hX dX10_begin_46 ?_
  refine A_getf (pc := 47) hX fl_X10_18_10 dX10_begin_47 (by repeat (first | assumption | exact aSet_s | exact aNew_s | refine lk_n ?_ (by omega) | refine lk_f (by assumption) ?_ (by omega) | refine lk_w ?_ (by omega))) (by exact rfl) ?_
  refine A_iconst (pc := 50) (v := (nI 0)) (by decide) hX dX10_begin_50 ?_
  refine A_iload_n (pc := 51) rfl hX dX10_begin_51 ?_
  refine A_S3v (pc := 52) hX mk_X11_put ls_X10_53 dX10_begin_52 (ct_put l G (by repeat (first | assumption | exact aSet_s | exact aNew_s | refine lk_n ?_ (by omega) | refine lk_f (by assumption) ?_ (by omega) | refine lk_w ?_ (by omega))) (by decide)) rfl (Nat.le_of_ble_eq_true rfl) (Nat.le_of_ble_eq_true rfl) (Nat.le_of_ble_eq_true rfl) (Nat.le_of_ble_eq_true rfl) (Nat.le_of_ble_eq_true rfl) (fun σ52 h52 => ?_)
  obtain ⟨h52, hf52⟩ := h52
  refine A_aload_n (pc := 55) rfl hX dX10_begin_55 ?_
  refine A_getf (pc := 56) hX fl_X10_24_10 dX10_begin_56 (by repeat (first | assumption | exact aSet_s | exact aNew_s | refine lk_n ?_ (by omega) | refine lk_f (by assumption) ?_ (by omega) | refine lk_w ?_ (by omega))) (by exact rfl) ?_
  refine A_iconst (pc := 59) (v := (nI 0)) (by decide) hX dX10_begin_59 ?_
  refine A_iconst (pc := 60) (v := (nI 1)) (by decide) hX dX10_begin_60 ?_
  refine A_S3v (pc := 61) hX mk_X11_put ls_X10_53 dX10_begin_61 (ct_put l G (by repeat (first | assumption | exact aSet_s | exact aNew_s | refine lk_n ?_ (by omega) | refine lk_f (by assumption) ?_ (by omega) | refine lk_w ?_ (by omega))) (by decide)) rfl (Nat.le_of_ble_eq_true rfl) (Nat.le_of_ble_eq_true rfl) (Nat.le_of_ble_eq_true rfl) (Nat.le_of_ble_eq_true rfl) (Nat.le_of_ble_eq_true rfl) (fun σ61 h61 => ?_)
  obtain ⟨h61, hf61⟩ := h61
  refine A_aload_n (pc := 64) rfl hX dX10_begin_64 ?_
  refine A_iconst (pc := 65) (v := (nI 1)) (by decide) hX dX10_begin_65 ?_
  refine A_putf (pc := 66) (fs' := [_, _, _, _, _, _, _, _, _]) hX pl_X10_47_10 dX10_begin_66 (by repeat (first | assumption | exact aSet_s | exact aNew_s | refine lk_n ?_ (by omega) | refine lk_f (by assumption) ?_ (by omega) | refine lk_w ?_ (by omega))) (by exact Nat.le_of_ble_eq_true rfl) (by exact rfl) rfl rfl ?_
  refine A_ret (pc := 69) hX hR dX10_begin_69 ?_
  refine ⟨rfl, _, _, ⟨aSet_s, ⟨_, _, _, (by repeat (first | assumption | exact aSet_s | exact aNew_s | refine lk_n ?_ (by omega) | refine lk_f (by assumption) ?_ (by omega) | refine lk_w ?_ (by omega))), (by repeat (first | assumption | exact aSet_s | exact aNew_s | refine lk_n ?_ (by omega) | refine lk_f (by assumption) ?_ (by omega) | refine lk_w ?_ (by omega))), (by repeat (first | assumption | exact aSet_s | exact aNew_s | refine lk_n ?_ (by omega) | refine lk_f (by assumption) ?_ (by omega) | refine lk_w ?_ (by omega))), fun q hq => ?_, fun q hq => ?_⟩, (by repeat (first | assumption | exact aSet_s | exact aNew_s | refine lk_n ?_ (by omega) | refine lk_f (by assumption) ?_ (by omega) | refine lk_w ?_ (by omega))), (by repeat (first | assumption | exact aSet_s | exact aNew_s | refine lk_n ?_ (by omega) | refine lk_f (by assumption) ?_ (by omega) | refine lk_w ?_ (by omega)))⟩, fun j hj => ?_, (by repeat (first | exact Fr.rf | refine Fr.set ?_ (by omega) (by omega) | refine Fr.tr ?_ (Fr.wd (by assumption) (by omega) (by omega))))⟩
  · rw [putS_nI hs (by decide)]
    by_cases e : q = s
    · subst e; simp only [upd, if_pos]; exact ⟨by decide, by rw [if_pos hq, fV, if_neg (fun z => z.2 rfl)]⟩
    · simp only [upd, if_neg e, if_pos hq]; exact ⟨by decide, by rw [fV, if_neg (fun z => absurd z.1 (by decide))]⟩
  · have e : q = 0 := by omega
    subst e
    rw [putS_nI (by decide) (by decide)]
    exact ⟨by simp [upd], hs⟩
  · rw [putS_nI (by decide) (by decide)]
    refine ⟨if_pos hj, ?_⟩
    by_cases e : j = 0
    · subst e; simp [upd]
    · simp [upd, e, hj]
set_option maxRecDepth 100000 in
set_option maxHeartbeats 1000000 in
theorem ct_Wy_forget (l : Launch) (G : aG) {y w nb : Nat} {by_ : Bool} {B : Nat → Nat × Nat × Nat × Nat} {σ : aS} (hq : RWs G y w by_ nb B σ) : ACt l G yX10_forget cX10_forget 1 (none) 0 0 0 [.ref y] σ (vP (fun σ' => (∀ nb' B', RWs G y w by_ nb' B' σ') ∧ Fr y (y + 6) σ σ')) := by
  obtain ⟨st, fd, hr, -⟩ := hq.raw
  obtain ⟨gc, gf, go, gb, ge, a0, a1, a2, a3, a4, a5⟩ := id hr
  refine ACt.intro (own := RX10) (nm := "forget") mk_X10_forget rfl rfl [some (.ref y)] rfl (Nat.le_of_ble_eq_true rfl) (fun X hX hR => ?_)
  refine A_aload_n (pc := 0) rfl hX dX10_forget_0 ?_
  refine A_iconst (pc := 1) (v := (-1)) (by decide) hX dX10_forget_1 ?_
  refine A_putf (pc := 2) (fs' := [_, _, _, _, _, _, _, _, _]) hX pl_X10_27_10 dX10_forget_2 (by repeat (first | assumption | exact aSet_s | exact aNew_s | refine lk_n ?_ (by omega) | refine lk_f (by assumption) ?_ (by omega) | refine lk_w ?_ (by omega))) (by exact Nat.le_of_ble_eq_true rfl) (by exact rfl) rfl rfl ?_
  refine A_ret (pc := 5) hX hR dX10_forget_5 ?_
  exact ⟨rfl, fun _ _ => .inl ⟨fd, gc, gf, go, gb, ge, aSet_s, (by repeat (first | assumption | exact aSet_s | exact aNew_s | refine lk_n ?_ (by omega) | refine lk_f (by assumption) ?_ (by omega) | refine lk_w ?_ (by omega))), (by repeat (first | assumption | exact aSet_s | exact aNew_s | refine lk_n ?_ (by omega) | refine lk_f (by assumption) ?_ (by omega) | refine lk_w ?_ (by omega))), (by repeat (first | assumption | exact aSet_s | exact aNew_s | refine lk_n ?_ (by omega) | refine lk_f (by assumption) ?_ (by omega) | refine lk_w ?_ (by omega))), (by repeat (first | assumption | exact aSet_s | exact aNew_s | refine lk_n ?_ (by omega) | refine lk_f (by assumption) ?_ (by omega) | refine lk_w ?_ (by omega))), (by repeat (first | assumption | exact aSet_s | exact aNew_s | refine lk_n ?_ (by omega) | refine lk_f (by assumption) ?_ (by omega) | refine lk_w ?_ (by omega)))⟩, (by repeat (first | exact Fr.rf | refine Fr.set ?_ (by omega) (by omega) | refine Fr.tr ?_ (Fr.wd (by assumption) (by omega) (by omega))))⟩
/-- what is told of a wish: the cost, the first of the row -/
noncomputable def wC (nb : Nat) (B : Nat → Nat × Nat × Nat × Nat) (by_ : Bool) (s0 s : Nat) : Int32 := cV ((wDF nb (mkB B) (wtB by_ B) alT s0).1 s)
noncomputable def wF (nb : Nat) (B : Nat → Nat × Nat × Nat × Nat) (by_ : Bool) (s0 s : Nat) : Int32 := fV s0 s ((wDF nb (mkB B) (wtB by_ B) alT s0).1 s) ((wDF nb (mkB B) (wtB by_ B) alT s0).2 s)
noncomputable def wR (nb : Nat) (B : Nat → Nat × Nat × Nat × Nat) (s0 : Nat) : Int32 := nI (cnt (wDF nb (mkB B) (wtB false B) alT s0).1)
theorem SpF.nameC {nb : Nat} {B : Nat → Nat × Nat × Nat × Nat} {by_ : Bool} {s0 : Nat} {D F : Nat → Nat} (hk : okB nb B) (h : SpF nb (mkB B) (wtB by_ B) alT s0 D F) {s : Nat} (hs : s < 512) : cV (D s) = wC nb B by_ s0 s := by
  rw [wC, (h.name (okW_of by_ hk) s hs).1]
theorem SpF.nameF {nb : Nat} {B : Nat → Nat × Nat × Nat × Nat} {by_ : Bool} {s0 : Nat} {D F : Nat → Nat} (hk : okB nb B) (h : SpF nb (mkB B) (wtB by_ B) alT s0 D F) {s : Nat} (hs : s < 512) : fV s0 s (D s) (F s) = wF nb B by_ s0 s := by
  obtain ⟨h1, h2⟩ := h.name (okW_of by_ hk) s hs
  rw [wF, ← h1]
  unfold fV
  split
  · rename_i q
    rw [h2 q.2 q.1]
  · rfl
theorem SpF.nameR {nb : Nat} {B : Nat → Nat × Nat × Nat × Nat} {s0 : Nat} {D F : Nat → Nat} (hk : okB nb B) (h : SpF nb (mkB B) (wtB false B) alT s0 D F) : nI (cnt D) = wR nb B s0 := by
  rw [wR, cnt, cnt, cntN_cg fun s hs => by rw [(h.name (okW_of false hk) s hs).1]]
set_option maxRecDepth 100000 in
set_option maxHeartbeats 1000000 in
theorem ct_costOf (l : Launch) (G : aG) {y w nb s0 : Nat} {by_ : Bool} {B : Nat → Nat × Nat × Nat × Nat} {σ : aS} (hW : RWd G y w by_ nb B s0 σ) (hk : okB nb B) {s : Nat} (hs : s < 512) : ACt l G yX10_costOf cX10_costOf 2 (some .int) 1 0 0 [.ref y, .int (nI s)] σ (dP (some (.int (wC nb B by_ s0 s))) σ) := by
  obtain ⟨fd, D, F, od, gb, ge, ⟨a0, ⟨gc, gf, go, a1, a2, a3, hcf, hgo⟩, a4, a5⟩, hsp, hfd⟩ := id hW
  have hN := hsp.name (okW_of by_ hk)
  refine ACt.intro (own := RX10) (nm := "costOf") mk_X10_costOf rfl rfl [some (.ref y), some (.int (nI s))] rfl (Nat.le_of_ble_eq_true rfl) (fun X hX hR => ?_)
  refine A_aload_n (pc := 0) rfl hX dX10_costOf_0 ?_
  refine A_getf (pc := 1) hX fl_X10_9_10 dX10_costOf_1 (by repeat (first | assumption | exact aSet_s | exact aNew_s | refine lk_n ?_ (by omega) | refine lk_f (by assumption) ?_ (by omega) | refine lk_w ?_ (by omega))) (by exact rfl) ?_
  refine A_iload_n (pc := 4) rfl hX dX10_costOf_4 ?_
  refine A_S2d (pc := 5) hX mk_X11_at ls_X10_39 dX10_costOf_5 (ct_at l G (by repeat (first | assumption | exact aSet_s | exact aNew_s | refine lk_n ?_ (by omega) | refine lk_f (by assumption) ?_ (by omega) | refine lk_w ?_ (by omega))) (by decide)) rfl (Nat.le_of_ble_eq_true rfl) (Nat.le_of_ble_eq_true rfl) (Nat.le_of_ble_eq_true rfl) (Nat.le_of_ble_eq_true rfl) (Nat.le_of_ble_eq_true rfl) ?_
  refine A_iret (pc := 8) hX hR dX10_costOf_8 rfl rfl ?_
  exact ⟨by rw [atS_nI hs (by decide), (hcf s hs).1, hsp.nameC hk hs], rfl⟩
set_option maxRecDepth 100000 in
set_option maxHeartbeats 1000000 in
theorem ct_firstTo (l : Launch) (G : aG) {y w nb s0 : Nat} {by_ : Bool} {B : Nat → Nat × Nat × Nat × Nat} {σ : aS} (hW : RWd G y w by_ nb B s0 σ) (hk : okB nb B) {s : Nat} (hs : s < 512) : ACt l G yX10_firstTo cX10_firstTo 2 (some .int) 1 0 0 [.ref y, .int (nI s)] σ (dP (some (.int (wF nb B by_ s0 s))) σ) := by
  obtain ⟨fd, D, F, od, gb, ge, ⟨a0, ⟨gc, gf, go, a1, a2, a3, hcf, hgo⟩, a4, a5⟩, hsp, hfd⟩ := id hW
  have hN := hsp.name (okW_of by_ hk)
  refine ACt.intro (own := RX10) (nm := "firstTo") mk_X10_firstTo rfl rfl [some (.ref y), some (.int (nI s))] rfl (Nat.le_of_ble_eq_true rfl) (fun X hX hR => ?_)
  refine A_aload_n (pc := 0) rfl hX dX10_firstTo_0 ?_
  refine A_getf (pc := 1) hX fl_X10_15_10 dX10_firstTo_1 (by repeat (first | assumption | exact aSet_s | exact aNew_s | refine lk_n ?_ (by omega) | refine lk_f (by assumption) ?_ (by omega) | refine lk_w ?_ (by omega))) (by exact rfl) ?_
  refine A_iload_n (pc := 4) rfl hX dX10_firstTo_4 ?_
  refine A_S2d (pc := 5) hX mk_X11_at ls_X10_39 dX10_firstTo_5 (ct_at l G (by repeat (first | assumption | exact aSet_s | exact aNew_s | refine lk_n ?_ (by omega) | refine lk_f (by assumption) ?_ (by omega) | refine lk_w ?_ (by omega))) (by decide)) rfl (Nat.le_of_ble_eq_true rfl) (Nat.le_of_ble_eq_true rfl) (Nat.le_of_ble_eq_true rfl) (Nat.le_of_ble_eq_true rfl) (Nat.le_of_ble_eq_true rfl) ?_
  refine A_iret (pc := 8) hX hR dX10_firstTo_8 rfl rfl ?_
  exact ⟨by rw [atS_nI hs (by decide), (hcf s hs).2, hsp.nameF hk hs], rfl⟩
set_option maxRecDepth 100000 in
set_option maxHeartbeats 1000000 in
theorem ct_searchFrom (l : Launch) (G : aG) {y w tp nb s : Nat} {by_ : Bool} {B : Nat → Nat × Nat × Nat × Nat} {σ : aS} (hw : RTw G w tp nb B σ) (hq : RWs G y w by_ nb B σ) (hwy : w + 5 ≤ y) (hyt : y + 6 ≤ tp) (hs : s < 512) : ACt l G yX10_searchFrom cX10_searchFrom 5 (none) 3 0 0 [.ref y, .int (nI s)] σ (vP (fun σ' => RWd G y w by_ nb B s σ' ∧ Fr y (y + 6) σ σ')) := by
  obtain ⟨hwt, hnb, hok, bor, fa, fo, fn, e0, e1, e2, e3, e4, e5, e6⟩ := id hw
  obtain ⟨st, fd0, hr, hst⟩ := hq.raw
  obtain ⟨gc, gf, go, gb, ge, a0, a1, a2, a3, a4, a5⟩ := id hr
  have hwk := okW_of by_ hok
  refine ACt.intro (own := RX10) (nm := "searchFrom") mk_X10_searchFrom rfl rfl [some (.ref y), some (.int (nI s)), none, none, none] rfl (Nat.le_of_ble_eq_true rfl) (fun X hX hR => ?_)
  refine A_iload_n (pc := 0) rfl hX dX10_searchFrom_0 ?_
  refine A_aload_n (pc := 1) rfl hX dX10_searchFrom_1 ?_
  refine A_getf (pc := 2) hX fl_X10_27_10 dX10_searchFrom_2 (by repeat (first | assumption | exact aSet_s | exact aNew_s | refine lk_n ?_ (by omega) | refine lk_f (by assumption) ?_ (by omega) | refine lk_w ?_ (by omega))) (by exact rfl) ?_
  refine A_icmp_ne (pc := 5) 9 hX dX10_searchFrom_5 rfl (fun c5 => ?_) (fun c5 => ?_)
  · refine A_aload_n (pc := 9) rfl hX dX10_searchFrom_9 ?_
    refine A_iload_n (pc := 10) rfl hX dX10_searchFrom_10 ?_
    refine A_V1v (pc := 11) hX mk_X10_begin lv_X10_43 dX10_searchFrom_11 (by repeat (first | assumption | exact aSet_s | exact aNew_s | refine lk_n ?_ (by omega) | refine lk_f (by assumption) ?_ (by omega) | refine lk_w ?_ (by omega))) (ct_Wy_begin l G hr hs) rfl (Nat.le_of_ble_eq_true rfl) (Nat.le_of_ble_eq_true rfl) (Nat.le_of_ble_eq_true rfl) (Nat.le_of_ble_eq_true rfl) (Nat.le_of_ble_eq_true rfl) (fun σ11 h11 => ?_)
    obtain ⟨gb11, ge11, h11, g11, hf11⟩ := h11
    refine A_iconst (pc := 14) (v := (nI 0)) (by decide) hX dX10_searchFrom_14 ?_
    refine A_istore_n (pc := 15) (lv' := [_, _, _, _, _]) hX dX10_searchFrom_15 (Nat.le_of_ble_eq_true rfl) rfl rfl ?_
    refine A_iconst (pc := 16) (v := (nI 1)) (by decide) hX dX10_searchFrom_16 ?_
    refine A_istore_n (pc := 17) (lv' := [_, _, _, _, _]) hX dX10_searchFrom_17 (Nat.le_of_ble_eq_true rfl) rfl rfl ?_
    suffices hl : ∀ (m c lt : Nat) (σ1 : aS) (fd : Nat) (D F od bg en : Nat → Nat) (gb ge : Nat → Int32) (v4 : Option Value), 2561 - c = m → Fr y (y + 6) σ σ1 → RWy G y w by_ s fd D F od gb ge σ1 → SpI nb (mkB B) (wtB by_ B) alT s (fun s b => D s + wtB by_ B b < c) D F → (∀ s, s < 512 → D s < inf → D s < c) → fd = cnt D → LyI c D fd od bg en → (∀ j, j < 6 → gb j = nI (bg j) ∧ ge j = nI (en j) ∧ bg j ≤ 512 ∧ en j ≤ 512) → lt < c → (∀ s, s < 512 → D s < inf → D s ≤ lt) → 1 ≤ c → c ≤ 2561 → AA G X 0 0 18 [some (.ref y), some (.int (nI s)), some (.int (nI lt)), some (.int (nI c)), v4] [] σ1 from by
      refine hl 2560 1 0 _ 1 (fun q => if q = s then 0 else inf) (fun _ => 0) (fun _ => s) (fun _ => 0) (fun j => if j = 0 then 1 else 0) _ _ none (by omega) hf11 h11 ⟨hs, if_pos rfl, fun q hq => ?_, fun q hq hne hd => ?_, fun b q hb _ hq hd => ?_⟩ (fun q hq hd => ?_) ?_ (fun k hk1 hk2 => ?_) (fun j hj => ⟨(g11 j hj).1, (g11 j hj).2, by omega, by split <;> omega⟩) (by omega) (fun q hq hd => ?_) (by omega) (by omega)
      · show (if q = s then 0 else inf) ≤ inf
        split <;> omega
      · simp only [if_neg hne] at hd
        exact absurd hd (Nat.lt_irrefl _)
      · have := (hwk b hb).1
        exact absurd hd (by omega)
      · by_cases e : q = s
        · simp only [if_pos e]; omega
        · simp only [if_neg e] at hd
          exact absurd hd (Nat.lt_irrefl _)
      · rw [cnt, cntN_up (f := fun _ => false) s hs rfl (decide_eq_true (by simp)) (fun q hq hne => by simp only [if_neg hne]; exact decide_eq_false (Nat.lt_irrefl _))]
        have : cntN (fun _ => false) 512 = 0 := by
          have := cntN_z 512
          exact this
        rw [this]
      · have : k = 0 := by omega
        subst this
        refine ⟨fun q hq e => ⟨0, Nat.le_refl _, by simp, ?_⟩, fun q h1 h2 => ?_⟩
        · by_cases e2 : q = s
          · exact e2.symm
          · simp only [if_neg e2] at e; exact absurd e (by decide)
        · have h2 : q < 1 := by simpa using h2
          exact ⟨h2, by simp⟩
      · by_cases e : q = s
        · simp only [if_pos e]; omega
        · simp only [if_neg e] at hd
          exact absurd hd (Nat.lt_irrefl _)
    intro m
    induction m with
    | zero =>
      intro c lt σ1 fd D F od bg en gb ge v4 hm hFr hY i1 i2 i3 i4 i5 i6 i7 i8 i9
      have e : c = 2561 := by omega
      subst e
      refine A_iload_n (pc := 18) rfl hX dX10_searchFrom_18 ?_
      refine A_sipush (pc := 19) (v := (nI 2560)) (by decide) hX dX10_searchFrom_19 ?_
      refine A_icmp_gt (pc := 22) 88 hX dX10_searchFrom_22 rfl (fun c22 => ?_) (fun c22 => ?_)
      · refine A_ret (pc := 88) hX hR dX10_searchFrom_88 ?_
        have hb5 := i1.bnd hwk
        exact ⟨rfl, ⟨fd, D, F, od, gb, ge, hY, i1.cg (fun q b hq hb _ => ⟨fun z => by simp only [inf]; omega, fun z => by have := hb5 q hq z; have := (hwk b hb).2.1; omega⟩), i3⟩, hFr⟩
      · exact absurd (nI_lt (by omega) (by omega)) c22
    | succ m ih =>
      intro c lt σ1 fd D F od bg en gb ge v4 hm hFr hY i1 i2 i3 i4 i5 i6 i7 i8 i9
      have hc25 : c ≤ 2560 := by omega
      have hw1 := hw.fr hFr (by omega) (.inr (by omega))
      obtain ⟨b0, ⟨kc, kf, ko, b1, b2, b3, kcf, kgo⟩, b4, b5⟩ := id hY
      have hl6 : c % 6 < 6 := Nat.mod_lt _ (by decide)
      refine A_iload_n (pc := 18) rfl hX dX10_searchFrom_18 ?_
      refine A_sipush (pc := 19) (v := (nI 2560)) (by decide) hX dX10_searchFrom_19 ?_
      refine A_icmp_gt (pc := 22) 88 hX dX10_searchFrom_22 rfl (fun c22 => ?_) (fun c22 => ?_)
      · exact absurd c22 (nI_nlt (by omega) (by omega))
      · refine A_iload_n (pc := 25) rfl hX dX10_searchFrom_25 ?_
        refine A_iload_n (pc := 26) rfl hX dX10_searchFrom_26 ?_
        refine A_iconst (pc := 27) (v := (nI 5)) (by decide) hX dX10_searchFrom_27 ?_
        refine A_iadd (pc := 28) hX dX10_searchFrom_28 ?_
        refine A_top (y := nI (lt + 5)) (nI_add _ _) ?_
        refine A_icmp_gt (pc := 29) 88 hX dX10_searchFrom_29 rfl (fun c29 => ?_) (fun c29 => ?_)
        · refine A_ret (pc := 88) hX hR dX10_searchFrom_88 ?_
          have c29' : lt + 5 < c := (nI_ltI (by omega) (by omega)).mp c29
          exact ⟨rfl, ⟨fd, D, F, od, gb, ge, hY, i1.cg (fun q b hq hb _ => ⟨fun z => by simp only [inf]; omega, fun z => by have := i7 q hq z; have := (hwk b hb).2.1; omega⟩), i3⟩, hFr⟩
        · refine A_aload_n (pc := 32) rfl hX dX10_searchFrom_32 ?_
          refine A_getf (pc := 33) hX fl_X10_47_10 dX10_searchFrom_33 (by repeat (first | assumption | exact aSet_s | exact aNew_s | refine lk_n ?_ (by omega) | refine lk_f (by assumption) ?_ (by omega) | refine lk_w ?_ (by omega))) (by exact rfl) ?_
          refine A_istore (pc := 36) (lv' := [_, _, _, _, _]) hX dX10_searchFrom_36 (Nat.le_of_ble_eq_true rfl) rfl rfl ?_
          refine A_aload_n (pc := 38) rfl hX dX10_searchFrom_38 ?_
          refine A_iload_n (pc := 39) rfl hX dX10_searchFrom_39 ?_
          refine A_V1v (pc := 40) hX mk_X10_addAllOf lv_X10_50 dX10_searchFrom_40 (by repeat (first | assumption | exact aSet_s | exact aNew_s | refine lk_n ?_ (by omega) | refine lk_f (by assumption) ?_ (by omega) | refine lk_w ?_ (by omega))) (ct_addAllOf l G hw1 hY hwy hyt i1 i2 i3 i4 i5 i8 (by omega)) rfl (Nat.le_of_ble_eq_true rfl) (Nat.le_of_ble_eq_true rfl) (Nat.le_of_ble_eq_true rfl) (Nat.le_of_ble_eq_true rfl) (Nat.le_of_ble_eq_true rfl) (fun σ40 h40 => ?_)
          obtain ⟨D', F', fd', od', hJ, hY', hF40⟩ := h40
          obtain ⟨k0, ⟨mc, mf, mo, k1, k2, k3, mcf, mgo⟩, k4, k5⟩ := id hY'
          refine A_aload_n (pc := 43) rfl hX dX10_searchFrom_43 ?_
          refine A_getf (pc := 44) hX fl_X10_21_10 dX10_searchFrom_44 (by repeat (first | assumption | exact aSet_s | exact aNew_s | refine lk_n ?_ (by omega) | refine lk_f (by assumption) ?_ (by omega) | refine lk_w ?_ (by omega))) (by exact rfl) ?_
          refine A_iload_n (pc := 47) rfl hX dX10_searchFrom_47 ?_
          refine A_bipush (pc := 48) (v := (nI 6)) (by decide) hX dX10_searchFrom_48 ?_
          refine A_irem (pc := 50) (by decide) hX dX10_searchFrom_50 ?_
          refine A_top (y := nI (c % 6)) (pk_rem (by omega) (by decide) (by decide)) ?_
          refine A_iload (pc := 51) rfl hX dX10_searchFrom_51 ?_
          refine A_S3v (pc := 53) hX mk_X11_put ls_X10_53 dX10_searchFrom_53 (ct_put l G k4 (by decide)) rfl (Nat.le_of_ble_eq_true rfl) (Nat.le_of_ble_eq_true rfl) (Nat.le_of_ble_eq_true rfl) (Nat.le_of_ble_eq_true rfl) (Nat.le_of_ble_eq_true rfl) (fun σ53 h53 => ?_)
          obtain ⟨h53, hf53⟩ := h53
          refine A_aload_n (pc := 56) rfl hX dX10_searchFrom_56 ?_
          refine A_getf (pc := 57) hX fl_X10_24_10 dX10_searchFrom_57 (by repeat (first | assumption | exact aSet_s | exact aNew_s | refine lk_n ?_ (by omega) | refine lk_f (by assumption) ?_ (by omega) | refine lk_w ?_ (by omega))) (by exact rfl) ?_
          refine A_iload_n (pc := 60) rfl hX dX10_searchFrom_60 ?_
          refine A_bipush (pc := 61) (v := (nI 6)) (by decide) hX dX10_searchFrom_61 ?_
          refine A_irem (pc := 63) (by decide) hX dX10_searchFrom_63 ?_
          refine A_top (y := nI (c % 6)) (pk_rem (by omega) (by decide) (by decide)) ?_
          refine A_aload_n (pc := 64) rfl hX dX10_searchFrom_64 ?_
          refine A_getf (pc := 65) hX fl_X10_47_10 dX10_searchFrom_65 (by repeat (first | assumption | exact aSet_s | exact aNew_s | refine lk_n ?_ (by omega) | refine lk_f (by assumption) ?_ (by omega) | refine lk_w ?_ (by omega))) (by exact rfl) ?_
          refine A_S3v (pc := 68) hX mk_X11_put ls_X10_53 dX10_searchFrom_68 (ct_put l G (lk_f hf53 k5 (by omega)) (by decide)) rfl (Nat.le_of_ble_eq_true rfl) (Nat.le_of_ble_eq_true rfl) (Nat.le_of_ble_eq_true rfl) (Nat.le_of_ble_eq_true rfl) (Nat.le_of_ble_eq_true rfl) (fun σ68 h68 => ?_)
          obtain ⟨h68, hf68⟩ := h68
          have hY2 : RWy G y w by_ s fd' D' F' od' (upd gb (c % 6) (nI fd)) (upd ge (c % 6) (nI fd')) σ68 := by
            refine ⟨(by repeat (first | assumption | exact aSet_s | exact aNew_s | refine lk_n ?_ (by omega) | refine lk_f (by assumption) ?_ (by omega) | refine lk_w ?_ (by omega))), ⟨mc, mf, mo, (by repeat (first | assumption | exact aSet_s | exact aNew_s | refine lk_n ?_ (by omega) | refine lk_f (by assumption) ?_ (by omega) | refine lk_w ?_ (by omega))), (by repeat (first | assumption | exact aSet_s | exact aNew_s | refine lk_n ?_ (by omega) | refine lk_f (by assumption) ?_ (by omega) | refine lk_w ?_ (by omega))), (by repeat (first | assumption | exact aSet_s | exact aNew_s | refine lk_n ?_ (by omega) | refine lk_f (by assumption) ?_ (by omega) | refine lk_w ?_ (by omega))), mcf, mgo⟩, ?_, ?_⟩
            · rw [← putS_nI hl6 (by decide)]; exact lk_f hf68 h53 (by omega)
            · rw [← putS_nI hl6 (by decide)]; exact h68
          obtain ⟨j1, j2, j3, j4, j5, j6, j7⟩ := hJ
          have hDi := i1.2.2.1
          have hfd5 : fd' ≤ 512 := by rw [j4]; exact cntN_n _ _
          have hsub : ∀ q, q < 512 → D' q < inf → D' q = D q ∨ D' q = c := fun q hq z => by
            by_cases z2 : D q < inf
            · exact .inl (j2 q hq z2)
            · rcases j3 q hq (by have := hDi q hq; omega) with z3 | z3
              · omega
              · exact .inr z3
          have hlt' : ∀ q, q < 512 → D' q < inf → D' q < c + 1 := fun q hq z => by
            by_cases z2 : D q < inf
            · rw [j2 q hq z2]; have := i2 q hq z2; omega
            · rcases j3 q hq (by have := hDi q hq; omega) with z3 | z3 <;> omega
          have hih := fun lt' (z1 : lt' < c + 1) (z2 : ∀ q, q < 512 → D' q < inf → D' q ≤ lt') v4 => ih (c + 1) lt' σ68 fd' D' F' od' (fun j => if j = c % 6 then fd else bg j) (fun j => if j = c % 6 then fd' else en j) _ _ v4 (by omega) (hFr.tr (hF40.tr ((hf53.wd (by omega) (by omega)).tr (hf68.wd (by omega) (by omega))))) hY2 (j1.cg (fun q b hq hb _ => by
            have hwb := hwk b hb
            constructor
            · intro z
              rw [j2 q hq (by simp only [inf]; omega)]; omega
            · intro z
              by_cases z2 : D q < inf
              · rw [j2 q hq z2] at z; omega
              · rcases j3 q hq (by have := hDi q hq; omega) with z3 | z3
                · rw [z3] at z; simp only [inf] at z; omega
                · omega)) hlt' j4 (fun k k1 k2 => by
            by_cases e : k = c
            · subst e
              simp only [if_pos]
              exact ⟨fun q hq z => (j7 q hq).mp z, fun q q1 q2 => ⟨q2, (j7 _ (mgo q q2).2).mpr ⟨q, q1, q2, rfl⟩⟩⟩
            · have hne : k % 6 ≠ c % 6 := by omega
              simp only [if_neg hne]
              obtain ⟨y1, y2⟩ := i4 k (by omega) (by omega)
              refine ⟨fun q hq z => ?_, fun q q1 q2 => ?_⟩
              · have z0 : D q = k := by
                  by_cases z2 : D q < inf
                  · rw [← j2 q hq z2]; exact z
                  · rcases j3 q hq (by have := hDi q hq; omega) with z3 | z3
                    · rw [z3] at z; simp only [inf] at z; omega
                    · omega
                obtain ⟨q', x1, x2, x3⟩ := y1 q hq z0
                exact ⟨q', x1, x2, by rw [j6 q' (y2 q' x1 x2).1]; exact x3⟩
              · obtain ⟨x1, x2⟩ := y2 q q1 q2
                have x3 := kgo q x1
                exact ⟨by omega, by rw [j6 q x1, j2 _ x3.2 (by simp only [inf]; omega)]; exact x2⟩) (fun j hj => by
            by_cases e : j = c % 6
            · subst e; simp only [upd, if_pos]; exact ⟨trivial, trivial, by omega, hfd5⟩
            · simp only [upd, if_neg e]; exact i5 j hj) z1 z2 (by omega) (by omega)
          refine A_aload_n (pc := 71) rfl hX dX10_searchFrom_71 ?_
          refine A_getf (pc := 72) hX fl_X10_47_10 dX10_searchFrom_72 (by repeat (first | assumption | exact aSet_s | exact aNew_s | refine lk_n ?_ (by omega) | refine lk_f (by assumption) ?_ (by omega) | refine lk_w ?_ (by omega))) (by exact rfl) ?_
          refine A_iload (pc := 75) rfl hX dX10_searchFrom_75 ?_
          refine A_icmp_le (pc := 77) 82 hX dX10_searchFrom_77 rfl (fun c77 => ?_) (fun c77 => ?_)
          · rw [nI_leI (by omega) (by omega)] at c77
            refine A_iinc (pc := 82) (v := (nI (c + 1))) (lv' := [_, _, _, _, _]) hX dX10_searchFrom_82 rfl (nI_succ c).symm rfl rfl ?_
            refine A_goto (pc := 85) 18 hX dX10_searchFrom_85 rfl ?_
            exact hih lt (by omega) (fun q hq z => by
              rcases hsub q hq z with z1 | z1
              · rw [z1]; exact i7 q hq (by rw [← z1]; exact z)
              · obtain ⟨q', x1, x2, _⟩ := (j7 q hq).mp z1; omega) _
          · refine A_iload_n (pc := 80) rfl hX dX10_searchFrom_80 ?_
            refine A_istore_n (pc := 81) (lv' := [_, _, _, _, _]) hX dX10_searchFrom_81 (Nat.le_of_ble_eq_true rfl) rfl rfl ?_
            refine A_iinc (pc := 82) (v := (nI (c + 1))) (lv' := [_, _, _, _, _]) hX dX10_searchFrom_82 rfl (nI_succ c).symm rfl rfl ?_
            refine A_goto (pc := 85) 18 hX dX10_searchFrom_85 rfl ?_
            exact hih c (by omega) (fun q hq z => by have := hlt' q hq z; omega) _
  · have e5 : nI s = st := Decidable.byContradiction fun q => absurd c5 (by simpa using q)
    refine A_ret (pc := 8) hX hR dX10_searchFrom_8 ?_
    exact ⟨rfl, hst s hs e5, Fr.rf⟩
theorem bI_fit (b : Bool) : fits .boolean (.int (bI b)) = true := by cases b <;> rfl
set_option maxRecDepth 100000 in
set_option maxHeartbeats 1000000 in
theorem ct_Wy_init (l : Launch) (G : aG) {y w : Nat} {by_ : Bool} {σ : aS} (ho : σ.2 y = some (aO 10 [.null, .int 0, .null, .null, .null, .null, .null, .int 0, .int 0])) (hz : σ.1 = y + 1) : ACt l G yX10_init cX10_init 3 (none) 1 5 1548 [.ref y, .ref w, .int (bI by_)] σ (vP (fun σ' => σ'.1 = y + 6 ∧ (∀ a, a < y → σ'.2 a = σ.2 a) ∧ ∀ nb B, RWs G y w by_ nb B σ')) := by
  have hl : ∀ a, a < y → σ.2 a = σ.2 a := fun _ _ => rfl
  refine ACt.intro (own := RX10) (nm := "<init>") mk_X10_init rfl rfl [some (.ref y), some (.ref w), some (.int (bI by_))] rfl (Nat.le_of_ble_eq_true rfl) (fun X hX hR => ?_)
  refine A_aload_n (pc := 0) rfl hX dX10_init_0 ?_
  refine A_objInit (pc := 1) hX lo_X10_3 dX10_init_1 rfl (Nat.le_of_ble_eq_true rfl) (Nat.le_of_ble_eq_true rfl) ?_
  refine A_aload_n (pc := 4) rfl hX dX10_init_4 ?_
  refine A_sipush (pc := 5) (v := (nI 512)) (by decide) hX dX10_init_5 ?_
  refine A_newI (pc := 8) (N := 512) hX dX10_init_8 (by decide) (by decide) (by decide) (Nat.le_of_ble_eq_true rfl) (Nat.le_of_ble_eq_true rfl) ?_
  refine A_putF (pc := 10) (fs' := [_, _, _, _, _, _, _, _, _]) hX pl_X10_9_10 dX10_init_10 (by repeat (first | assumption | exact aSet_s | exact aNew_s | refine lk_n ?_ (by omega) | refine lk_f (by assumption) ?_ (by omega) | refine lk_w ?_ (by omega))) (by exact Nat.le_of_ble_eq_true rfl) (by exact rfl) rfl rfl ?_
  refine A_gen (fun z => z.1 = y + 2 ∧ (∀ a, a < y → z.2 a = σ.2 a) ∧ z.2 y = some (aO 10 [.null, .int 0, .ref (y + 1), .null, .null, .null, .null, .int 0, .int 0]) ∧ z.2 (y + 1) = some (aI G 512 (fun _ => 0))) ⟨by show _ + 1 = _; omega, fun a ha => (aSet_n (by omega)).trans ((aNew_n (by omega)).trans (hl a ha)), by rw [aSet_s, hz], lk_n (aNew_s' (by omega)) (by omega)⟩ (fun σ13 hg => ?_)
  obtain ⟨hz, hl, ho, hc1⟩ := hg
  refine A_aload_n (pc := 13) rfl hX dX10_init_13 ?_
  refine A_sipush (pc := 14) (v := (nI 512)) (by decide) hX dX10_init_14 ?_
  refine A_newI (pc := 17) (N := 512) hX dX10_init_17 (by decide) (by decide) (by decide) (Nat.le_of_ble_eq_true rfl) (Nat.le_of_ble_eq_true rfl) ?_
  refine A_putF (pc := 19) (fs' := [_, _, _, _, _, _, _, _, _]) hX pl_X10_15_10 dX10_init_19 (by repeat (first | assumption | exact aSet_s | exact aNew_s | refine lk_n ?_ (by omega) | refine lk_f (by assumption) ?_ (by omega) | refine lk_w ?_ (by omega))) (by exact Nat.le_of_ble_eq_true rfl) (by exact rfl) rfl rfl ?_
  refine A_gen (fun z => z.1 = y + 3 ∧ (∀ a, a < y → z.2 a = σ.2 a) ∧ z.2 y = some (aO 10 [.null, .int 0, .ref (y + 1), .ref (y + 2), .null, .null, .null, .int 0, .int 0]) ∧ z.2 (y + 1) = some (aI G 512 (fun _ => 0)) ∧ z.2 (y + 2) = some (aI G 512 (fun _ => 0))) ⟨by show _ + 1 = _; omega, fun a ha => (aSet_n (by omega)).trans ((aNew_n (by omega)).trans (hl a ha)), by rw [aSet_s, hz], lk_n (lk_w hc1 (by omega)) (by omega), lk_n (aNew_s' (by omega)) (by omega)⟩ (fun σ22 hg => ?_)
  obtain ⟨hz, hl, ho, hc1, hc2⟩ := hg
  refine A_aload_n (pc := 22) rfl hX dX10_init_22 ?_
  refine A_sipush (pc := 23) (v := (nI 512)) (by decide) hX dX10_init_23 ?_
  refine A_newI (pc := 26) (N := 512) hX dX10_init_26 (by decide) (by decide) (by decide) (Nat.le_of_ble_eq_true rfl) (Nat.le_of_ble_eq_true rfl) ?_
  refine A_putF (pc := 28) (fs' := [_, _, _, _, _, _, _, _, _]) hX pl_X10_18_10 dX10_init_28 (by repeat (first | assumption | exact aSet_s | exact aNew_s | refine lk_n ?_ (by omega) | refine lk_f (by assumption) ?_ (by omega) | refine lk_w ?_ (by omega))) (by exact Nat.le_of_ble_eq_true rfl) (by exact rfl) rfl rfl ?_
  refine A_gen (fun z => z.1 = y + 4 ∧ (∀ a, a < y → z.2 a = σ.2 a) ∧ z.2 y = some (aO 10 [.null, .int 0, .ref (y + 1), .ref (y + 2), .ref (y + 3), .null, .null, .int 0, .int 0]) ∧ z.2 (y + 1) = some (aI G 512 (fun _ => 0)) ∧ z.2 (y + 2) = some (aI G 512 (fun _ => 0)) ∧ z.2 (y + 3) = some (aI G 512 (fun _ => 0))) ⟨by show _ + 1 = _; omega, fun a ha => (aSet_n (by omega)).trans ((aNew_n (by omega)).trans (hl a ha)), by rw [aSet_s, hz], lk_n (lk_w hc1 (by omega)) (by omega), lk_n (lk_w hc2 (by omega)) (by omega), lk_n (aNew_s' (by omega)) (by omega)⟩ (fun σ31 hg => ?_)
  obtain ⟨hz, hl, ho, hc1, hc2, hc3⟩ := hg
  refine A_aload_n (pc := 31) rfl hX dX10_init_31 ?_
  refine A_bipush (pc := 32) (v := (nI 6)) (by decide) hX dX10_init_32 ?_
  refine A_newI (pc := 34) (N := 6) hX dX10_init_34 (by decide) (by decide) (by decide) (Nat.le_of_ble_eq_true rfl) (Nat.le_of_ble_eq_true rfl) ?_
  refine A_putF (pc := 36) (fs' := [_, _, _, _, _, _, _, _, _]) hX pl_X10_21_10 dX10_init_36 (by repeat (first | assumption | exact aSet_s | exact aNew_s | refine lk_n ?_ (by omega) | refine lk_f (by assumption) ?_ (by omega) | refine lk_w ?_ (by omega))) (by exact Nat.le_of_ble_eq_true rfl) (by exact rfl) rfl rfl ?_
  refine A_gen (fun z => z.1 = y + 5 ∧ (∀ a, a < y → z.2 a = σ.2 a) ∧ z.2 y = some (aO 10 [.null, .int 0, .ref (y + 1), .ref (y + 2), .ref (y + 3), .ref (y + 4), .null, .int 0, .int 0]) ∧ z.2 (y + 1) = some (aI G 512 (fun _ => 0)) ∧ z.2 (y + 2) = some (aI G 512 (fun _ => 0)) ∧ z.2 (y + 3) = some (aI G 512 (fun _ => 0)) ∧ z.2 (y + 4) = some (aI G 6 (fun _ => 0))) ⟨by show _ + 1 = _; omega, fun a ha => (aSet_n (by omega)).trans ((aNew_n (by omega)).trans (hl a ha)), by rw [aSet_s, hz], lk_n (lk_w hc1 (by omega)) (by omega), lk_n (lk_w hc2 (by omega)) (by omega), lk_n (lk_w hc3 (by omega)) (by omega), lk_n (aNew_s' (by omega)) (by omega)⟩ (fun σ39 hg => ?_)
  obtain ⟨hz, hl, ho, hc1, hc2, hc3, hc4⟩ := hg
  refine A_aload_n (pc := 39) rfl hX dX10_init_39 ?_
  refine A_bipush (pc := 40) (v := (nI 6)) (by decide) hX dX10_init_40 ?_
  refine A_newI (pc := 42) (N := 6) hX dX10_init_42 (by decide) (by decide) (by decide) (Nat.le_of_ble_eq_true rfl) (Nat.le_of_ble_eq_true rfl) ?_
  refine A_putF (pc := 44) (fs' := [_, _, _, _, _, _, _, _, _]) hX pl_X10_24_10 dX10_init_44 (by repeat (first | assumption | exact aSet_s | exact aNew_s | refine lk_n ?_ (by omega) | refine lk_f (by assumption) ?_ (by omega) | refine lk_w ?_ (by omega))) (by exact Nat.le_of_ble_eq_true rfl) (by exact rfl) rfl rfl ?_
  refine A_gen (fun z => z.1 = y + 6 ∧ (∀ a, a < y → z.2 a = σ.2 a) ∧ z.2 y = some (aO 10 [.null, .int 0, .ref (y + 1), .ref (y + 2), .ref (y + 3), .ref (y + 4), .ref (y + 5), .int 0, .int 0]) ∧ z.2 (y + 1) = some (aI G 512 (fun _ => 0)) ∧ z.2 (y + 2) = some (aI G 512 (fun _ => 0)) ∧ z.2 (y + 3) = some (aI G 512 (fun _ => 0)) ∧ z.2 (y + 4) = some (aI G 6 (fun _ => 0)) ∧ z.2 (y + 5) = some (aI G 6 (fun _ => 0))) ⟨by show _ + 1 = _; omega, fun a ha => (aSet_n (by omega)).trans ((aNew_n (by omega)).trans (hl a ha)), by rw [aSet_s, hz], lk_n (lk_w hc1 (by omega)) (by omega), lk_n (lk_w hc2 (by omega)) (by omega), lk_n (lk_w hc3 (by omega)) (by omega), lk_n (lk_w hc4 (by omega)) (by omega), lk_n (aNew_s' (by omega)) (by omega)⟩ (fun σ47 hg => ?_)
  obtain ⟨hz, hl, ho, hc1, hc2, hc3, hc4, hc5⟩ := hg
  refine A_aload_n (pc := 47) rfl hX dX10_init_47 ?_
  refine A_iconst (pc := 48) (v := (-1)) (by decide) hX dX10_init_48 ?_
  refine A_putf (pc := 49) (fs' := [_, _, _, _, _, _, _, _, _]) hX pl_X10_27_10 dX10_init_49 (by repeat (first | assumption | exact aSet_s | exact aNew_s | refine lk_n ?_ (by omega) | refine lk_f (by assumption) ?_ (by omega) | refine lk_w ?_ (by omega))) (by exact Nat.le_of_ble_eq_true rfl) (by exact rfl) rfl rfl ?_
  refine A_gen (fun z => z.1 = y + 6 ∧ (∀ a, a < y → z.2 a = σ.2 a) ∧ z.2 y = some (aO 10 [.null, .int 0, .ref (y + 1), .ref (y + 2), .ref (y + 3), .ref (y + 4), .ref (y + 5), .int (-1), .int 0]) ∧ z.2 (y + 1) = some (aI G 512 (fun _ => 0)) ∧ z.2 (y + 2) = some (aI G 512 (fun _ => 0)) ∧ z.2 (y + 3) = some (aI G 512 (fun _ => 0)) ∧ z.2 (y + 4) = some (aI G 6 (fun _ => 0)) ∧ z.2 (y + 5) = some (aI G 6 (fun _ => 0))) ⟨hz, fun a ha => (aSet_n (by omega)).trans (hl a ha), aSet_s, lk_n hc1 (by omega), lk_n hc2 (by omega), lk_n hc3 (by omega), lk_n hc4 (by omega), lk_n hc5 (by omega)⟩ (fun σ52 hg => ?_)
  obtain ⟨hz, hl, ho, hc1, hc2, hc3, hc4, hc5⟩ := hg
  refine A_aload_n (pc := 52) rfl hX dX10_init_52 ?_
  refine A_aload_n (pc := 53) rfl hX dX10_init_53 ?_
  refine A_putF (pc := 54) (fs' := [_, _, _, _, _, _, _, _, _]) hX pl_X10_31_10 dX10_init_54 (by repeat (first | assumption | exact aSet_s | exact aNew_s | refine lk_n ?_ (by omega) | refine lk_f (by assumption) ?_ (by omega) | refine lk_w ?_ (by omega))) (by exact Nat.le_of_ble_eq_true rfl) (by exact rfl) rfl rfl ?_
  refine A_gen (fun z => z.1 = y + 6 ∧ (∀ a, a < y → z.2 a = σ.2 a) ∧ z.2 y = some (aO 10 [.ref w, .int 0, .ref (y + 1), .ref (y + 2), .ref (y + 3), .ref (y + 4), .ref (y + 5), .int (-1), .int 0]) ∧ z.2 (y + 1) = some (aI G 512 (fun _ => 0)) ∧ z.2 (y + 2) = some (aI G 512 (fun _ => 0)) ∧ z.2 (y + 3) = some (aI G 512 (fun _ => 0)) ∧ z.2 (y + 4) = some (aI G 6 (fun _ => 0)) ∧ z.2 (y + 5) = some (aI G 6 (fun _ => 0))) ⟨hz, fun a ha => (aSet_n (by omega)).trans (hl a ha), aSet_s, lk_n hc1 (by omega), lk_n hc2 (by omega), lk_n hc3 (by omega), lk_n hc4 (by omega), lk_n hc5 (by omega)⟩ (fun σ57 hg => ?_)
  obtain ⟨hz, hl, ho, hc1, hc2, hc3, hc4, hc5⟩ := hg
  refine A_aload_n (pc := 57) rfl hX dX10_init_57 ?_
  refine A_iload_n (pc := 58) rfl hX dX10_init_58 ?_
  refine A_putF (pc := 59) (fs' := [_, _, _, _, _, _, _, _, _]) hX pl_X10_35_10 dX10_init_59 (by repeat (first | assumption | exact aSet_s | exact aNew_s | refine lk_n ?_ (by omega) | refine lk_f (by assumption) ?_ (by omega) | refine lk_w ?_ (by omega))) (by exact Nat.le_of_ble_eq_true rfl) (by exact rfl) (bI_z _) (bI_fit _) ?_
  refine A_gen (fun z => z.1 = y + 6 ∧ (∀ a, a < y → z.2 a = σ.2 a) ∧ z.2 y = some (aO 10 [.ref w, .int (bI by_), .ref (y + 1), .ref (y + 2), .ref (y + 3), .ref (y + 4), .ref (y + 5), .int (-1), .int 0]) ∧ z.2 (y + 1) = some (aI G 512 (fun _ => 0)) ∧ z.2 (y + 2) = some (aI G 512 (fun _ => 0)) ∧ z.2 (y + 3) = some (aI G 512 (fun _ => 0)) ∧ z.2 (y + 4) = some (aI G 6 (fun _ => 0)) ∧ z.2 (y + 5) = some (aI G 6 (fun _ => 0))) ⟨hz, fun a ha => (aSet_n (by omega)).trans (hl a ha), aSet_s, lk_n hc1 (by omega), lk_n hc2 (by omega), lk_n hc3 (by omega), lk_n hc4 (by omega), lk_n hc5 (by omega)⟩ (fun σ62 hg => ?_)
  obtain ⟨hz, hl, ho, hc1, hc2, hc3, hc4, hc5⟩ := hg
  refine A_ret (pc := 62) hX hR dX10_init_62 ?_
  exact ⟨rfl, hz, hl, fun _ _ => .inl ⟨_, _, _, _, _, _, ho, hc1, hc2, hc3, hc4, hc5⟩⟩
