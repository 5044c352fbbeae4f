theorem RMa.kx {G : aG} {m nb : Nat} {B : BorT} {σ σ' : aS} (h : RMa G m nb B σ) (hk : ∀ a, m + 1 ≤ a → a < m + 5 → σ'.2 a = σ.2 a) : RMa G m nb B σ' := by
  obtain ⟨h0, h1, gk, gt, gm, gd, e1, e2, e3, e4, e5⟩ := h
  exact ⟨h0, h1, gk, gt, gm, gd, (hk _ (by omega) (by omega)).trans e1, (hk _ (by omega) (by omega)).trans e2, (hk _ (by omega) (by omega)).trans e3, (hk _ (by omega) (by omega)).trans e4, e5⟩
theorem RMt.kx {G : aG} {q nt : Nat} {V : ThT} {σ σ' : aS} (h : RMt G q nt V σ) (hk : ∀ a, q ≤ a → a < q + 4 → σ'.2 a = σ.2 a) : RMt G q nt V σ' := by
  obtain ⟨gs, gw, gl, gr, e1, e2, e3, e4, e5⟩ := h
  exact ⟨gs, gw, gl, gr, (hk _ (by omega) (by omega)).trans e1, (hk _ (by omega) (by omega)).trans e2, (hk _ (by omega) (by omega)).trans e3, (hk _ (by omega) (by omega)).trans e4, e5⟩
theorem RMp.kx {G : aG} {m len : Nat} {cd : Nat → Nat} {σ σ' : aS} (h : RMp G m len cd σ) (hk : σ'.2 (m + 9) = σ.2 (m + 9)) : RMp G m len cd σ' := by
  obtain ⟨f, h1, h3⟩ := h
  exact ⟨f, hk.trans h1, h3⟩
theorem RMn.kx {G : aG} {m : Nat} {σ σ' : aS} (h : RMn G m σ) (hk : ∀ a, m + 10 ≤ a → a < m + 14 → σ'.2 a = σ.2 a) : RMn G m σ' := by
  obtain ⟨a, b, c, d, e1, e2, e3, e4⟩ := h
  exact ⟨a, b, c, d, (hk _ (by omega) (by omega)).trans e1, (hk _ (by omega) (by omega)).trans e2, (hk _ (by omega) (by omega)).trans e3, (hk _ (by omega) (by omega)).trans e4⟩
/-- only the object and what is thought may have changed -/
def FX (m : Nat) (σ σ' : aS) : Prop := σ'.1 = σ.1 ∧ ∀ a, a ≠ m → a ≠ m + 18 → σ'.2 a = σ.2 a
theorem FX.tr {m lo hi : Nat} {σ σ1 σ2 : aS} (h : FX m σ σ1) (hf : Fr lo hi σ1 σ2) (hl : ∀ a, lo ≤ a → a < hi → a = m ∨ a = m + 18) : FX m σ σ2 := ⟨hf.1.trans h.1, fun a h1 h2 => (hf.2 a (by
  rcases Nat.lt_or_ge a lo with q | q
  · exact .inl q
  · refine .inr ?_
    rcases Nat.lt_or_ge a hi with q2 | q2
    · rcases hl a q q2 with e | e
      · exact absurd e h1
      · exact absurd e h2
    · exact q2)).trans (h.2 a h1 h2)⟩
theorem FX.one {m : Nat} {σ σ1 : aS} (hf : Fr m (m + 1) σ σ1) : FX m σ σ1 := ⟨hf.1, fun a h1 _ => hf.2 a (by omega)⟩
theorem yrs_s {B : BorT} {nt nb k s : Nat} {Y : Nat → Nat} : yrs B nt nb (k + 1) Y s = yrs B nt nb k (fun j => if j = nxtN s / 65536 % nt then mkB B (nxtN (nxtN s) / 65536 % nb) (Y (nxtN s / 65536 % nt)) else Y j) (nxtN (nxtN s)) := by rw [yrs]
set_option maxRecDepth 100000 in
set_option maxHeartbeats 1000000 in
theorem ct_yearsNow (l : Launch) (G : aG) {m tw nb nt hn len kt kn k s c : Nat} {dy fa nm kd : Int32} {wh hk : Bool} {sn hd : Int64} {σ : aS} (ho : σ.2 m = some (oM m tw nb nt dy hn len fa wh nm sn hk kt kn kd hd)) {B : BorT} (ha : RMa G m nb B σ) {V : ThT} (ht : RMt G (m + 5) nt V σ) (hV : okV nb nt V) (hs1 : RMs G m σ) (hk2 : k < 2 ^ 31) (hsd : s < 2147483648) (hn0 : 0 < nt) (hb0 : 0 < nb) (hc : c < 3) : ACt l G yX12_yearsNow cX12_yearsNow 7 (some .int) 3 0 0 [.ref m, .int (nI k), .int (nI s), .int (nI c)] σ (iP (fun v σ' => v = yeN nt (yrs B nt nb k (fun i => homeV B (V i)) s) c ∧ (∃ sn', σ'.2 m = some (oM m tw nb nt dy hn len fa wh nm (sn') hk kt kn kd hd)) ∧ RMs G m σ' ∧ FX m σ σ')) := by
  obtain ⟨hnb, hok, _⟩ := id ha
  have hnt : nt ≤ 4 := by obtain ⟨_, _, _, _, _, _, _, _, q, _⟩ := id ht; exact q
  obtain ⟨sa, sb, sc, sd, se, s1, s2, s3, s4, s5⟩ := id hs1
  refine ACt.intro (own := RX12) (nm := "yearsNow") mk_X12_yearsNow rfl rfl [some (.ref m), some (.int (nI k)), some (.int (nI s)), some (.int (nI c)), none, none, none] rfl (Nat.le_of_ble_eq_true rfl) (fun X hX hR => ?_)
  refine A_aload_n (pc := 0) rfl hX dX12_yearsNow_0 ?_
  refine A_iload_n (pc := 1) rfl hX dX12_yearsNow_1 ?_
  refine A_i2l (pc := 2) hX dX12_yearsNow_2 ?_
  refine A_putf (pc := 3) (fs' := [_, _, _, _, _, _, _, _, _, _, _, _, _, _, _, _, _, _, _, _, _, _, _, _, _, _, _, _, _, _, _, _, _, _, _, _, _]) hX pl_X12_197_12 dX12_yearsNow_3 (by repeat (first | assumption | exact aSet_s | exact aNew_s | refine lk_n ?_ (by omega) | refine lk_f (by assumption) ?_ (by omega) | refine lk_w ?_ (by omega))) (by exact Nat.le_of_ble_eq_true rfl) (by exact rfl) rfl rfl ?_
  refine A_gen (fun z => (z.2 m = some (oM m (tw) (nb) (nt) (dy) (hn) (len) (fa) (wh) (nm) (lN s) (hk) (kt) (kn) (kd) (hd))) ∧ Fr (m) (m + 1) σ z) ⟨aSet_s.trans (by rw [nI_l (by omega)]), (Fr.rf.set (by omega) (by omega))⟩ (fun σ6 hg => ?_)
  obtain ⟨h6, f6⟩ := hg
  refine A_iconst (pc := 6) (v := (nI 0)) (by decide) hX dX12_yearsNow_6 ?_
  refine A_istore (pc := 7) (lv' := [_, _, _, _, _, _, _]) hX dX12_yearsNow_7 (Nat.le_of_ble_eq_true rfl) rfl rfl ?_
  suffices hl : ∀ (q i : Nat) (σ1 : aS) (g : Nat → Int32), i ≤ nt → nt - i = q → FX m σ σ1 → σ1.2 m = some (oM m tw nb nt dy hn len fa wh nm (lN s) hk kt kn kd hd) → σ1.2 (m + 18) = some (aI G 4 g) → (∀ j, j < i → g j = nI (homeV B (V j))) → AA G X 0 0 9 [some (.ref m), some (.int (nI k)), some (.int (nI s)), some (.int (nI c)), some (.int (nI i)), none, none] [] σ1 from hl nt 0 σ6 se (Nat.zero_le _) rfl (FX.one f6) h6 (lk_f f6 s5 (by omega)) (fun j h => absurd h (Nat.not_lt_zero j))
  intro q
  induction q with
  | zero =>
    intro i σ1 g hi hq hF x0 x1 hx
    have e : nt = i := by omega
    subst e
    refine A_iload (pc := 9) rfl hX dX12_yearsNow_9 ?_
    refine A_aload_n (pc := 11) rfl hX dX12_yearsNow_11 ?_
    refine A_getf (pc := 12) hX fl_X12_115_12 dX12_yearsNow_12 (by repeat (first | assumption | exact aSet_s | exact aNew_s | refine lk_n ?_ (by omega) | refine lk_f (by assumption) ?_ (by omega) | refine lk_w ?_ (by omega))) (by exact rfl) ?_
    refine A_icmp_ge (pc := 15) 37 hX dX12_yearsNow_15 rfl (fun c15 => ?_) (fun c15 => ?_)
    · refine A_iconst (pc := 37) (v := (nI 0)) (by decide) hX dX12_yearsNow_37 ?_
      refine A_istore (pc := 38) (lv' := [_, _, _, _, _, _, _]) hX dX12_yearsNow_38 (Nat.le_of_ble_eq_true rfl) rfl rfl ?_
      suffices hB : ∀ (n i s' : Nat) (Y : Nat → Nat) (σ2 : aS) (g : Nat → Int32) (v5 v6 : Option Value), i + n = k → s' < 2147483648 → FX m σ σ2 → σ2.2 m = some (oM m tw nb nt dy hn len fa wh nm (lN s') hk kt kn kd hd) → σ2.2 (m + 18) = some (aI G 4 g) → (∀ j, j < nt → g j = nI (Y j) ∧ Y j < 512) → yrs B nt nb k (fun i => homeV B (V i)) s = yrs B nt nb n Y s' → AA G X 0 0 40 [some (.ref m), some (.int (nI k)), some (.int (nI s)), some (.int (nI c)), some (.int (nI i)), v5, v6] [] σ2 from hB k 0 s _ σ1 g none none (by omega) hsd hF x0 x1 (fun j h => ⟨hx j h, homeV_lt hok hnb hV h⟩) rfl
      intro n
      induction n with
      | zero =>
        intro i s' Y σ2 g v5 v6 hi hs' hF2 y0 y1 hy hyr
        have e : k = i := by omega
        rw [yrs] at hyr
        refine A_iload (pc := 40) rfl hX dX12_yearsNow_40 ?_
        refine A_iload_n (pc := 42) rfl hX dX12_yearsNow_42 ?_
        refine A_icmp_ge (pc := 43) 92 hX dX12_yearsNow_43 rfl (fun c43 => ?_) (fun c43 => ?_)
        · refine A_iconst (pc := 92) (v := (nI 0)) (by decide) hX dX12_yearsNow_92 ?_
          refine A_istore (pc := 93) (lv' := [_, _, _, _, _, _, _]) hX dX12_yearsNow_93 (Nat.le_of_ble_eq_true rfl) rfl rfl ?_
          refine A_iconst (pc := 95) (v := (nI 0)) (by decide) hX dX12_yearsNow_95 ?_
          refine A_istore (pc := 96) (lv' := [_, _, _, _, _, _, _]) hX dX12_yearsNow_96 (Nat.le_of_ble_eq_true rfl) rfl rfl ?_
          suffices hS : ∀ (q t : Nat), t ≤ nt → nt - t = q → AA G X 0 0 98 [some (.ref m), some (.int (nI k)), some (.int (nI s)), some (.int (nI c)), some (.int (nI (sumN (fun i => trS (Y i)) t))), some (.int (nI t)), v6] [] σ2 from hS nt 0 (Nat.zero_le _) rfl
          intro q
          induction q with
          | zero =>
            intro t ht2 hq
            have e2 : nt = t := by omega
            subst e2
            have hY0 := (hy 0 hn0).1
            have hend : ∀ v, v = yeN nt (Y, s') c → iP (fun v σ' => v = yeN nt (yrs B nt nb k (fun i => homeV B (V i)) s) c ∧ (∃ sn', σ'.2 m = some (oM m tw nb nt dy hn len fa wh nm (sn') hk kt kn kd hd)) ∧ RMs G m σ' ∧ FX m σ σ') (some (.int v)) σ2 := fun v hv => ⟨_, rfl, by rw [hyr]; exact hv, ⟨_, y0⟩, ⟨sa, sb, sc, sd, g, (hF2.2 _ (by omega) (by omega)).trans s1, (hF2.2 _ (by omega) (by omega)).trans s2, (hF2.2 _ (by omega) (by omega)).trans s3, (hF2.2 _ (by omega) (by omega)).trans s4, y1⟩, hF2⟩
            refine A_iload (pc := 98) rfl hX dX12_yearsNow_98 ?_
            refine A_aload_n (pc := 100) rfl hX dX12_yearsNow_100 ?_
            refine A_getf (pc := 101) hX fl_X12_115_12 dX12_yearsNow_101 (by repeat (first | assumption | exact aSet_s | exact aNew_s | refine lk_n ?_ (by omega) | refine lk_f (by assumption) ?_ (by omega) | refine lk_w ?_ (by omega))) (by exact rfl) ?_
            refine A_icmp_ge (pc := 104) 128 hX dX12_yearsNow_104 rfl (fun c104 => ?_) (fun c104 => ?_)
            · refine A_iload_n (pc := 128) rfl hX dX12_yearsNow_128 ?_
              refine A_if_ne (pc := 129) 141 hX dX12_yearsNow_129 rfl (fun c129 => ?_) (fun c129 => ?_)
              · refine A_iload_n (pc := 141) rfl hX dX12_yearsNow_141 ?_
                refine A_iconst (pc := 142) (v := (nI 1)) (by decide) hX dX12_yearsNow_142 ?_
                refine A_icmp_ne (pc := 143) 151 hX dX12_yearsNow_143 rfl (fun c143 => ?_) (fun c143 => ?_)
                · refine A_aload_n (pc := 151) rfl hX dX12_yearsNow_151 ?_
                  refine A_getf (pc := 152) hX fl_X12_197_12 dX12_yearsNow_152 (by repeat (first | assumption | exact aSet_s | exact aNew_s | refine lk_n ?_ (by omega) | refine lk_f (by assumption) ?_ (by omega) | refine lk_w ?_ (by omega))) (by exact rfl) ?_
                  refine A_l2i (pc := 155) hX dX12_yearsNow_155 ?_
                  refine A_top (y := nI s') (lN_i _) ?_
                  refine A_iret (pc := 156) hX hR dX12_yearsNow_156 rfl rfl ?_
                  exact hend _ (by rw [show c = 2 by have z1 : ¬ c = 0 := (fun q => c129 (by rw [q]; rfl)); have z2 : ¬ c = 1 := (fun q => c143 (by rw [q])); omega]; rfl)
                · refine A_iload (pc := 146) rfl hX dX12_yearsNow_146 ?_
                  refine A_goto (pc := 148) 156 hX dX12_yearsNow_148 rfl ?_
                  refine A_iret (pc := 156) hX hR dX12_yearsNow_156 rfl rfl ?_
                  exact hend _ (by rw [(nI_eq (b := 1) (by omega) (by decide)).mp c143]; rfl)
              · refine A_aload_n (pc := 132) rfl hX dX12_yearsNow_132 ?_
                refine A_getf (pc := 133) hX fl_X12_62_12 dX12_yearsNow_133 (by repeat (first | assumption | exact aSet_s | exact aNew_s | refine lk_n ?_ (by omega) | refine lk_f (by assumption) ?_ (by omega) | refine lk_w ?_ (by omega))) (by exact rfl) ?_
                refine A_iconst (pc := 136) (v := (nI 0)) (by decide) hX dX12_yearsNow_136 ?_
                refine A_iald (pc := 137) hX dX12_yearsNow_137 (by repeat (first | assumption | exact aSet_s | exact aNew_s | refine lk_n ?_ (by omega) | refine lk_f (by assumption) ?_ (by omega) | refine lk_w ?_ (by omega))) (vp_in_nI (by decide) (by decide)) ?_
                refine A_top (y := nI (Y 0)) (by rw [nI_clamp (by decide)]; exact hY0) ?_
                refine A_goto (pc := 138) 156 hX dX12_yearsNow_138 rfl ?_
                refine A_iret (pc := 156) hX hR dX12_yearsNow_156 rfl rfl ?_
                exact hend _ (by rw [(nI_eq (b := 0) (by omega) (by decide)).mp c129]; rfl)
            · exact absurd (nI_le (Nat.le_refl _) (by omega)) c104
          | succ q ihS =>
            intro t ht2 hq
            have htl : t < nt := by omega
            have htc := nI_clamp (n := t) (by omega)
            obtain ⟨hy1, hy2⟩ := hy t htl
            refine A_iload (pc := 98) rfl hX dX12_yearsNow_98 ?_
            refine A_aload_n (pc := 100) rfl hX dX12_yearsNow_100 ?_
            refine A_getf (pc := 101) hX fl_X12_115_12 dX12_yearsNow_101 (by repeat (first | assumption | exact aSet_s | exact aNew_s | refine lk_n ?_ (by omega) | refine lk_f (by assumption) ?_ (by omega) | refine lk_w ?_ (by omega))) (by exact rfl) ?_
            refine A_icmp_ge (pc := 104) 128 hX dX12_yearsNow_104 rfl (fun c104 => ?_) (fun c104 => ?_)
            · exact absurd c104 (nI_ge htl (by omega))
            · refine A_iload (pc := 107) rfl hX dX12_yearsNow_107 ?_
              refine A_aload_n (pc := 109) rfl hX dX12_yearsNow_109 ?_
              refine A_getf (pc := 110) hX fl_X12_62_12 dX12_yearsNow_110 (by repeat (first | assumption | exact aSet_s | exact aNew_s | refine lk_n ?_ (by omega) | refine lk_f (by assumption) ?_ (by omega) | refine lk_w ?_ (by omega))) (by exact rfl) ?_
              refine A_iload (pc := 113) rfl hX dX12_yearsNow_113 ?_
              refine A_iald (pc := 115) hX dX12_yearsNow_115 (by repeat (first | assumption | exact aSet_s | exact aNew_s | refine lk_n ?_ (by omega) | refine lk_f (by assumption) ?_ (by omega) | refine lk_w ?_ (by omega))) (vp_in_nI (by omega) (by decide)) ?_
              refine A_top (y := nI (Y t)) (by rw [htc]; exact hy1) ?_
              refine A_S1d (pc := 116) hX mk_X12_traitsIn ls_X12_210 dX12_yearsNow_116 (ct_traitsIn l G hy2) rfl (Nat.le_of_ble_eq_true rfl) (Nat.le_of_ble_eq_true rfl) (Nat.le_of_ble_eq_true rfl) (Nat.le_of_ble_eq_true rfl) (Nat.le_of_ble_eq_true rfl) ?_
              refine A_iadd (pc := 119) hX dX12_yearsNow_119 ?_
              refine A_top (y := nI (sumN (fun i => trS (Y i)) (t + 1))) (nI_add _ _) ?_
              refine A_istore (pc := 120) (lv' := [_, _, _, _, _, _, _]) hX dX12_yearsNow_120 (Nat.le_of_ble_eq_true rfl) rfl rfl ?_
              refine A_iinc (pc := 122) (v := (nI (t + 1))) (lv' := [_, _, _, _, _, _, _]) hX dX12_yearsNow_122 rfl (nI_succ t).symm rfl rfl ?_
              refine A_goto (pc := 125) 98 hX dX12_yearsNow_125 rfl ?_
              exact ihS (t + 1) (by omega) (by omega)
        · exact absurd (nI_le (by omega) (by omega)) c43
      | succ n ih2 =>
        intro i s' Y σ2 g v5 v6 hi hs' hF2 y0 y1 hy hyr
        have hil : i < k := by omega
        rw [yrs_s] at hyr
        have hd1 : nxtN s' / 65536 % nt < nt := Nat.mod_lt _ hn0
        have hd2 : nxtN (nxtN s') / 65536 % nb < nb := Nat.mod_lt _ hb0
        have hdc := nI_clamp (n := nxtN s' / 65536 % nt) (by omega)
        have hn1 := nxtN_lt s'
        obtain ⟨hy1, hy2⟩ := hy _ hd1
        have hmk := mkB_lt hok hd2 hy2
        refine A_iload (pc := 40) rfl hX dX12_yearsNow_40 ?_
        refine A_iload_n (pc := 42) rfl hX dX12_yearsNow_42 ?_
        refine A_icmp_ge (pc := 43) 92 hX dX12_yearsNow_43 rfl (fun c43 => ?_) (fun c43 => ?_)
        · exact absurd c43 (nI_ge hil hk2)
        · refine A_aload_n (pc := 46) rfl hX dX12_yearsNow_46 ?_
          refine A_aload_n (pc := 47) rfl hX dX12_yearsNow_47 ?_
          refine A_getf (pc := 48) hX fl_X12_115_12 dX12_yearsNow_48 (by repeat (first | assumption | exact aSet_s | exact aNew_s | refine lk_n ?_ (by omega) | refine lk_f (by assumption) ?_ (by omega) | refine lk_w ?_ (by omega))) (by exact rfl) ?_
          refine A_V1i (pc := 51) hX mk_X12_draw lv_X12_207 dX12_yearsNow_51 (by repeat (first | assumption | exact aSet_s | exact aNew_s | refine lk_n ?_ (by omega) | refine lk_f (by assumption) ?_ (by omega) | refine lk_w ?_ (by omega))) (ct_draw l G y0 hs' hn0 (by omega)) rfl (Nat.le_of_ble_eq_true rfl) (Nat.le_of_ble_eq_true rfl) (Nat.le_of_ble_eq_true rfl) (Nat.le_of_ble_eq_true rfl) (Nat.le_of_ble_eq_true rfl) (fun x51 σ51 h51 => ?_)
          obtain ⟨rfl, h51, f51⟩ := h51
          refine A_istore (pc := 54) (lv' := [_, _, _, _, _, _, _]) hX dX12_yearsNow_54 (Nat.le_of_ble_eq_true rfl) rfl rfl ?_
          refine A_aload_n (pc := 56) rfl hX dX12_yearsNow_56 ?_
          refine A_aload_n (pc := 57) rfl hX dX12_yearsNow_57 ?_
          refine A_getf (pc := 58) hX fl_X12_103_12 dX12_yearsNow_58 (by repeat (first | assumption | exact aSet_s | exact aNew_s | refine lk_n ?_ (by omega) | refine lk_f (by assumption) ?_ (by omega) | refine lk_w ?_ (by omega))) (by exact rfl) ?_
          refine A_V1i (pc := 61) hX mk_X12_draw lv_X12_207 dX12_yearsNow_61 (by repeat (first | assumption | exact aSet_s | exact aNew_s | refine lk_n ?_ (by omega) | refine lk_f (by assumption) ?_ (by omega) | refine lk_w ?_ (by omega))) (ct_draw l G h51 hn1 hb0 (by omega)) rfl (Nat.le_of_ble_eq_true rfl) (Nat.le_of_ble_eq_true rfl) (Nat.le_of_ble_eq_true rfl) (Nat.le_of_ble_eq_true rfl) (Nat.le_of_ble_eq_true rfl) (fun x61 σ61 h61 => ?_)
          obtain ⟨rfl, h61, f61⟩ := h61
          have hF61 : FX m σ σ61 := (hF2.tr f51 (by omega)).tr f61 (by omega)
          have y61 := lk_f f61 (lk_f f51 y1 (by omega)) (by omega)
          have ha61 := ha.kx (σ' := σ61) (fun a h1 h2 => hF61.2 a (by omega) (by omega))
          refine A_istore (pc := 64) (lv' := [_, _, _, _, _, _, _]) hX dX12_yearsNow_64 (Nat.le_of_ble_eq_true rfl) rfl rfl ?_
          refine A_aload_n (pc := 66) rfl hX dX12_yearsNow_66 ?_
          refine A_getf (pc := 67) hX fl_X12_62_12 dX12_yearsNow_67 (by repeat (first | assumption | exact aSet_s | exact aNew_s | refine lk_n ?_ (by omega) | refine lk_f (by assumption) ?_ (by omega) | refine lk_w ?_ (by omega))) (by exact rfl) ?_
          refine A_iload (pc := 70) rfl hX dX12_yearsNow_70 ?_
          refine A_aload_n (pc := 72) rfl hX dX12_yearsNow_72 ?_
          refine A_iload (pc := 73) rfl hX dX12_yearsNow_73 ?_
          refine A_aload_n (pc := 75) rfl hX dX12_yearsNow_75 ?_
          refine A_getf (pc := 76) hX fl_X12_62_12 dX12_yearsNow_76 (by repeat (first | assumption | exact aSet_s | exact aNew_s | refine lk_n ?_ (by omega) | refine lk_f (by assumption) ?_ (by omega) | refine lk_w ?_ (by omega))) (by exact rfl) ?_
          refine A_iload (pc := 79) rfl hX dX12_yearsNow_79 ?_
          refine A_iald (pc := 81) hX dX12_yearsNow_81 (by repeat (first | assumption | exact aSet_s | exact aNew_s | refine lk_n ?_ (by omega) | refine lk_f (by assumption) ?_ (by omega) | refine lk_w ?_ (by omega))) (vp_in_nI (by omega) (by decide)) ?_
          refine A_top (y := nI (Y (nxtN s' / 65536 % nt))) (by rw [hdc]; exact hy1) ?_
          refine A_V2d (pc := 82) hX mk_X12_made lv_X12_141 dX12_yearsNow_82 (by repeat (first | assumption | exact aSet_s | exact aNew_s | refine lk_n ?_ (by omega) | refine lk_f (by assumption) ?_ (by omega) | refine lk_w ?_ (by omega))) (ct_made l G h61 ha61 hd2 hy2) rfl (Nat.le_of_ble_eq_true rfl) (Nat.le_of_ble_eq_true rfl) (Nat.le_of_ble_eq_true rfl) (Nat.le_of_ble_eq_true rfl) (Nat.le_of_ble_eq_true rfl) ?_
          refine A_iast (pc := 85) hX dX12_yearsNow_85 (by repeat (first | assumption | exact aSet_s | exact aNew_s | refine lk_n ?_ (by omega) | refine lk_f (by assumption) ?_ (by omega) | refine lk_w ?_ (by omega))) (vp_in_nI (by omega) (by decide)) ?_
          refine A_iinc (pc := 86) (v := (nI (i + 1))) (lv' := [_, _, _, _, _, _, _]) hX dX12_yearsNow_86 rfl (nI_succ i).symm rfl rfl ?_
          refine A_goto (pc := 89) 40 hX dX12_yearsNow_89 rfl ?_
          rw [hdc]
          refine ih2 (i + 1) _ _ _ _ _ _ (by omega) (nxtN_lt _) ((hF61.tr (Fr.rf.set (Nat.le_refl (m + 18)) (Nat.lt_succ_self _)) (by omega))) (lk_n h61 (by omega)) aSet_s (fun j hj => ?_) hyr
          by_cases e : j = nxtN s' / 65536 % nt
          · rw [e]; simp only [upd, if_pos]; exact ⟨trivial, hmk⟩
          · simp only [upd, if_neg e]; exact hy j hj
    · exact absurd (nI_le (Nat.le_refl _) (by omega)) c15
  | succ q ih =>
    intro i σ1 g hi hq hF x0 x1 hx
    have hil : i < nt := by omega
    have hic := nI_clamp (n := i) (by omega)
    have ha1 := ha.kx (σ' := σ1) (fun a h1 h2 => hF.2 a (by omega) (by omega))
    have ht1 := ht.kx (σ' := σ1) (fun a h1 h2 => hF.2 a (by omega) (by omega))
    refine A_iload (pc := 9) rfl hX dX12_yearsNow_9 ?_
    refine A_aload_n (pc := 11) rfl hX dX12_yearsNow_11 ?_
    refine A_getf (pc := 12) hX fl_X12_115_12 dX12_yearsNow_12 (by repeat (first | assumption | exact aSet_s | exact aNew_s | refine lk_n ?_ (by omega) | refine lk_f (by assumption) ?_ (by omega) | refine lk_w ?_ (by omega))) (by exact rfl) ?_
    refine A_icmp_ge (pc := 15) 37 hX dX12_yearsNow_15 rfl (fun c15 => ?_) (fun c15 => ?_)
    · exact absurd c15 (nI_ge hil (by omega))
    · refine A_aload_n (pc := 18) rfl hX dX12_yearsNow_18 ?_
      refine A_getf (pc := 19) hX fl_X12_62_12 dX12_yearsNow_19 (by repeat (first | assumption | exact aSet_s | exact aNew_s | refine lk_n ?_ (by omega) | refine lk_f (by assumption) ?_ (by omega) | refine lk_w ?_ (by omega))) (by exact rfl) ?_
      refine A_iload (pc := 22) rfl hX dX12_yearsNow_22 ?_
      refine A_aload_n (pc := 24) rfl hX dX12_yearsNow_24 ?_
      refine A_iload (pc := 25) rfl hX dX12_yearsNow_25 ?_
      refine A_V1d (pc := 27) hX mk_X12_homeState lv_X12_144 dX12_yearsNow_27 (by repeat (first | assumption | exact aSet_s | exact aNew_s | refine lk_n ?_ (by omega) | refine lk_f (by assumption) ?_ (by omega) | refine lk_w ?_ (by omega))) (ct_homeState l G x0 ha1 ht1 hV hil) rfl (Nat.le_of_ble_eq_true rfl) (Nat.le_of_ble_eq_true rfl) (Nat.le_of_ble_eq_true rfl) (Nat.le_of_ble_eq_true rfl) (Nat.le_of_ble_eq_true rfl) ?_
      refine A_iast (pc := 30) hX dX12_yearsNow_30 (by repeat (first | assumption | exact aSet_s | exact aNew_s | refine lk_n ?_ (by omega) | refine lk_f (by assumption) ?_ (by omega) | refine lk_w ?_ (by omega))) (vp_in_nI (by omega) (by decide)) ?_
      refine A_iinc (pc := 31) (v := (nI (i + 1))) (lv' := [_, _, _, _, _, _, _]) hX dX12_yearsNow_31 rfl (nI_succ i).symm rfl rfl ?_
      refine A_goto (pc := 34) 9 hX dX12_yearsNow_34 rfl ?_
      rw [hic]
      refine ih (i + 1) _ _ (by omega) (by omega) (hF.tr (Fr.rf.set (Nat.le_refl (m + 18)) (Nat.lt_succ_self _)) (by omega)) (lk_n x0 (by omega)) aSet_s (fun j hj => ?_)
      by_cases e : j = i
      · subst e; simp only [upd, if_pos]
      · simp only [upd, if_neg e]; exact hx j (by omega)
set_option maxRecDepth 100000 in
set_option maxHeartbeats 1000000 in
theorem ct_yearsM (l : Launch) (G : aG) {m len nb nt kn tw hn : Nat} {cd : Nat → Nat} {B : BorT} {dy kd : Int32} {V KV : ThT} {hI : Bool} {σ : aS} (hM : RM G m len cd nb B nt dy V hI kn kd KV tw hn σ) (hV : okV nb nt V) (hz0 : 0 < nt → 0 < nb) {k s w : Int32} : ACt l G yX12_years cX12_years 4 (some .int) 4 0 0 [.ref m, .int k, .int s, .int w] σ (iP (fun v σ' => v = anYears nb B nt V k s w ∧ RM G m len cd nb B nt dy V hI kn kd KV tw hn σ' ∧ Fr m (m + 23) σ σ')) := by
  obtain ⟨fa, nm, wh, hk, sn, hd, kt, ho, ha, ht, hp, hn1, hs1, hkp, hI1, hI2⟩ := id hM
  have hnt : nt ≤ 4 := by obtain ⟨_, _, _, _, _, _, _, _, q, _⟩ := id ht; exact q
  refine ACt.intro (own := RX12) (nm := "years") mk_X12_years rfl rfl [some (.ref m), some (.int k), some (.int s), some (.int w)] rfl (Nat.le_of_ble_eq_true rfl) (fun X hX hR => ?_)
  refine A_iload_n (pc := 0) rfl hX dX12_years_0 ?_
  refine A_iconst (pc := 1) (v := (nI 1)) (by decide) hX dX12_years_1 ?_
  refine A_bipush (pc := 2) (v := (nI 90)) (by decide) hX dX12_years_2 ?_
  refine A_S3d (pc := 4) hX mk_X12_within ls_X12_77 dX12_years_4 (ct_within l G ) rfl (Nat.le_of_ble_eq_true rfl) (Nat.le_of_ble_eq_true rfl) (Nat.le_of_ble_eq_true rfl) (Nat.le_of_ble_eq_true rfl) (Nat.le_of_ble_eq_true rfl) ?_
  refine A_top (y := bI (inR 1 90 k)) rfl ?_
  refine A_if_eq (pc := 7) 23 hX dX12_years_7 rfl (fun c7 => ?_) (fun c7 => ?_)
  · have hk1 := bI_f c7
    refine A_bipush (pc := 23) (v := (-102)) (by decide) hX dX12_years_23 ?_
    refine A_iret (pc := 25) hX hR dX12_years_25 rfl rfl ?_
    rw [show anYears nb B nt V k s w = _ from if_neg (fun q => hk1 q.1)]
    exact ⟨_, rfl, rfl, hM, Fr.rf⟩
  · have hk1 := bI_ne c7
    refine A_iload_n (pc := 10) rfl hX dX12_years_10 ?_
    refine A_if_lt (pc := 11) 23 hX dX12_years_11 rfl (fun c11 => ?_) (fun c11 => ?_)
    · refine A_bipush (pc := 23) (v := (-102)) (by decide) hX dX12_years_23 ?_
      refine A_iret (pc := 25) hX hR dX12_years_25 rfl rfl ?_
      rw [show anYears nb B nt V k s w = _ from if_neg (fun q => q.2.1 c11)]
      exact ⟨_, rfl, rfl, hM, Fr.rf⟩
    · refine A_iload_n (pc := 14) rfl hX dX12_years_14 ?_
      refine A_iconst (pc := 15) (v := (nI 0)) (by decide) hX dX12_years_15 ?_
      refine A_iconst (pc := 16) (v := (nI 2)) (by decide) hX dX12_years_16 ?_
      refine A_S3d (pc := 17) hX mk_X12_within ls_X12_77 dX12_years_17 (ct_within l G ) rfl (Nat.le_of_ble_eq_true rfl) (Nat.le_of_ble_eq_true rfl) (Nat.le_of_ble_eq_true rfl) (Nat.le_of_ble_eq_true rfl) (Nat.le_of_ble_eq_true rfl) ?_
      refine A_top (y := bI (inN 3 w)) (by rw [winB_in (by decide)]) ?_
      refine A_if_ne (pc := 20) 26 hX dX12_years_20 rfl (fun c20 => ?_) (fun c20 => ?_)
      · have hw := bI_ne c20
        have hall := And.intro hk1 (And.intro c11 hw)
        obtain ⟨k, hka, hkb, rfl⟩ := inR_t (by decide) (by decide) hk1
        obtain ⟨s, hsx, rfl⟩ := nI_of c11
        obtain ⟨w, hw1, rfl⟩ := inN_t (by decide) hw
        refine A_aload_n (pc := 26) rfl hX dX12_years_26 ?_
        refine A_getf (pc := 27) hX fl_X12_115_12 dX12_years_27 (by repeat (first | assumption | exact aSet_s | exact aNew_s | refine lk_n ?_ (by omega) | refine lk_f (by assumption) ?_ (by omega) | refine lk_w ?_ (by omega))) (by exact rfl) ?_
        refine A_if_ne (pc := 30) 38 hX dX12_years_30 rfl (fun c30 => ?_) (fun c30 => ?_)
        · have hz : ¬ nt = 0 := fun q => c30 (by rw [q]; rfl)
          refine A_aload_n (pc := 38) rfl hX dX12_years_38 ?_
          refine A_iload_n (pc := 39) rfl hX dX12_years_39 ?_
          refine A_iload_n (pc := 40) rfl hX dX12_years_40 ?_
          refine A_iload_n (pc := 41) rfl hX dX12_years_41 ?_
          refine A_V3i (pc := 42) hX mk_X12_yearsNow lv_X12_213 dX12_years_42 (by repeat (first | assumption | exact aSet_s | exact aNew_s | refine lk_n ?_ (by omega) | refine lk_f (by assumption) ?_ (by omega) | refine lk_w ?_ (by omega))) (ct_yearsNow l G ho ha ht hV hs1 (by omega) (by omega) (by omega) (hz0 (by omega)) hw1) rfl (Nat.le_of_ble_eq_true rfl) (Nat.le_of_ble_eq_true rfl) (Nat.le_of_ble_eq_true rfl) (Nat.le_of_ble_eq_true rfl) (Nat.le_of_ble_eq_true rfl) (fun x42 σ42 h42 => ?_)
          obtain ⟨rfl, ⟨sn', h42⟩, g42, f42⟩ := h42
          refine A_iret (pc := 45) hX hR dX12_years_45 rfl rfl ?_
          have hkp2 := fun a (h1 : m + 1 ≤ a) (h2 : a < m + 18) => f42.2 a (by omega) (by omega)
          rw [show anYears nb B nt V (nI k) (nI s) (nI w) = _ from (by rw [anYears, if_pos hall, if_neg hz, nI_clamp (by omega), nI_clamp (by omega), nI_clamp (by omega)])]
          exact ⟨_, rfl, rfl, ⟨fa, nm, wh, hk, sn', hd, kt, h42, ha.kx (fun a h1 h2 => hkp2 a (by omega) (by omega)), ht.kx (fun a h1 h2 => hkp2 a (by omega) (by omega)), hp.kx (hkp2 _ (by omega) (by omega)), hn1.kx (fun a h1 h2 => hkp2 a (by omega) (by omega)), g42, hkp.kx (fun a h1 h2 => f42.2 a (by omega) (by omega)), hI1, hI2⟩, f42.1, fun a h => f42.2 a (by omega) (by omega)⟩
        · have hz := (nI_eq (b := 0) (by omega) (by decide)).mp c30
          refine A_bipush (pc := 33) (v := (-103)) (by decide) hX dX12_years_33 ?_
          refine A_goto (pc := 35) 45 hX dX12_years_35 rfl ?_
          refine A_iret (pc := 45) hX hR dX12_years_45 rfl rfl ?_
          rw [show anYears nb B nt V (nI k) (nI s) (nI w) = _ from (by rw [anYears, if_pos hall, if_pos hz])]
          exact ⟨_, rfl, rfl, hM, Fr.rf⟩
      · have hw := bI_f c20
        refine A_bipush (pc := 23) (v := (-102)) (by decide) hX dX12_years_23 ?_
        refine A_iret (pc := 25) hX hR dX12_years_25 rfl rfl ?_
        rw [show anYears nb B nt V k s w = _ from if_neg (fun q => hw q.2.2)]
        exact ⟨_, rfl, rfl, hM, Fr.rf⟩
