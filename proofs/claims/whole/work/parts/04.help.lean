/-! rows read and written through at and put; fill; traits; what a borrower makes of a state -/
def atS (n : Nat) (f : Nat → Int32) (p : Int32) : Int32 := if 0 ≤ p ∧ p < nI n then f p.toNatClampNeg else 0
def putS (n : Nat) (f : Nat → Int32) (p v : Int32) : Nat → Int32 := if 0 ≤ p ∧ p < nI n then upd f p.toNatClampNeg v else f
theorem i_in {p : Int32} {n : Nat} (hn : n < 2 ^ 31) (h0 : ¬ p < 0) (h1 : ¬ nI n ≤ p) : vp_in p n := by
  rw [vp_in_iff]
  rw [Int32.lt_iff_toInt_lt, Int32.toInt_zero] at h0
  rw [Int32.le_iff_toInt_le, nI_toInt hn] at h1
  omega
theorem i_nlt {x y : Int32} : ¬ x < y ↔ y ≤ x := by
  rw [Int32.lt_iff_toInt_lt, Int32.le_iff_toInt_le]
  omega
theorem i_nle {x y : Int32} : ¬ x ≤ y ↔ y < x := by
  rw [Int32.lt_iff_toInt_lt, Int32.le_iff_toInt_le]
  omega
theorem atS_nI {n j : Nat} {f : Nat → Int32} (hj : j < n) (hn : n < 2 ^ 31) : atS n f (nI j) = f j := by
  rw [atS, if_pos ⟨nI_pos' (by omega), nI_lt hj hn⟩, nI_clamp (by omega)]
theorem putS_nI {n j : Nat} {f : Nat → Int32} {v : Int32} (hj : j < n) (hn : n < 2 ^ 31) : putS n f (nI j) v = upd f j v := by
  rw [putS, if_pos ⟨nI_pos' (by omega), nI_lt hj hn⟩, nI_clamp (by omega)]
theorem atS_no {n : Nat} {f : Nat → Int32} {p : Int32} (h : p < 0 ∨ nI n ≤ p) : atS n f p = 0 := by
  rw [atS, if_neg]
  rintro ⟨h1, h2⟩
  rcases h with h | h
  · exact i_nlt.mpr h1 h
  · exact i_nle.mpr h2 h
theorem putS_no {n : Nat} {f : Nat → Int32} {p v : Int32} (h : p < 0 ∨ nI n ≤ p) : putS n f p v = f := by
  rw [putS, if_neg]
  rintro ⟨h1, h2⟩
  rcases h with h | h
  · exact i_nlt.mpr h1 h
  · exact i_nle.mpr h2 h
set_option maxRecDepth 100000 in
set_option maxHeartbeats 1000000 in
theorem ct_at (l : Launch) (G : aG) {k n : Nat} {f : Nat → Int32} {p : Int32} {σ : aS} (h : σ.2 k = some (aI G n f)) (hn : n < 2 ^ 31) : ACt l G yX11_at cX11_at 2 (some .int) 0 0 0 [.ref k, .int p] σ (dP (some (.int (atS n f p))) σ) := by
  refine ACt.intro (own := RX11) (nm := "at") mk_X11_at rfl rfl [some (.ref k), some (.int p)] rfl (Nat.le_of_ble_eq_true rfl) (fun X hX hR => ?_)
  refine A_iload_n (pc := 0) rfl hX dX11_at_0 ?_
  refine A_if_lt (pc := 1) 16 hX dX11_at_1 rfl (fun c1 => ?_) (fun c1 => ?_)
  · refine A_iconst (pc := 16) (v := (nI 0)) (by decide) hX dX11_at_16 ?_
    refine A_iret (pc := 17) hX hR dX11_at_17 rfl rfl ?_
    exact ⟨by rw [atS_no (.inl c1)]; rfl, rfl⟩
  · refine A_iload_n (pc := 4) rfl hX dX11_at_4 ?_
    refine A_aload_n (pc := 5) rfl hX dX11_at_5 ?_
    refine A_alenI (pc := 6) hX dX11_at_6 (by repeat (first | assumption | exact aSet_s | exact aNew_s | refine lk_n ?_ (by omega) | refine lk_f (by assumption) ?_ (by omega) | refine lk_w ?_ (by omega))) ?_
    refine A_icmp_ge (pc := 7) 16 hX dX11_at_7 rfl (fun c7 => ?_) (fun c7 => ?_)
    · refine A_iconst (pc := 16) (v := (nI 0)) (by decide) hX dX11_at_16 ?_
      refine A_iret (pc := 17) hX hR dX11_at_17 rfl rfl ?_
      exact ⟨by rw [atS_no (.inr c7)]; rfl, rfl⟩
    · refine A_aload_n (pc := 10) rfl hX dX11_at_10 ?_
      refine A_iload_n (pc := 11) rfl hX dX11_at_11 ?_
      refine A_iald (pc := 12) hX dX11_at_12 (by repeat (first | assumption | exact aSet_s | exact aNew_s | refine lk_n ?_ (by omega) | refine lk_f (by assumption) ?_ (by omega) | refine lk_w ?_ (by omega))) (i_in hn c1 c7) ?_
      refine A_goto (pc := 13) 17 hX dX11_at_13 rfl ?_
      refine A_iret (pc := 17) hX hR dX11_at_17 rfl rfl ?_
      exact ⟨by rw [atS, if_pos ⟨i_nlt.mp c1, i_nle.mp c7⟩], rfl⟩
set_option maxRecDepth 100000 in
set_option maxHeartbeats 1000000 in
theorem ct_put (l : Launch) (G : aG) {k n : Nat} {f : Nat → Int32} {p v : Int32} {σ : aS} (h : σ.2 k = some (aI G n f)) (hn : n < 2 ^ 31) : ACt l G yX11_put cX11_put 3 (none) 0 0 0 [.ref k, .int p, .int v] σ (vP (fun σ' => σ'.2 k = some (aI G n (putS n f p v)) ∧ Fr k (k + 1) σ σ')) := by
  refine ACt.intro (own := RX11) (nm := "put") mk_X11_put rfl rfl [some (.ref k), some (.int p), some (.int v)] rfl (Nat.le_of_ble_eq_true rfl) (fun X hX hR => ?_)
  refine A_iload_n (pc := 0) rfl hX dX11_put_0 ?_
  refine A_if_lt (pc := 1) 14 hX dX11_put_1 rfl (fun c1 => ?_) (fun c1 => ?_)
  · refine A_ret (pc := 14) hX hR dX11_put_14 ?_
    exact ⟨rfl, by rw [putS_no (.inl c1)]; exact h, Fr.rf⟩
  · refine A_iload_n (pc := 4) rfl hX dX11_put_4 ?_
    refine A_aload_n (pc := 5) rfl hX dX11_put_5 ?_
    refine A_alenI (pc := 6) hX dX11_put_6 (by repeat (first | assumption | exact aSet_s | exact aNew_s | refine lk_n ?_ (by omega) | refine lk_f (by assumption) ?_ (by omega) | refine lk_w ?_ (by omega))) ?_
    refine A_icmp_ge (pc := 7) 14 hX dX11_put_7 rfl (fun c7 => ?_) (fun c7 => ?_)
    · refine A_ret (pc := 14) hX hR dX11_put_14 ?_
      exact ⟨rfl, by rw [putS_no (.inr c7)]; exact h, Fr.rf⟩
    · refine A_aload_n (pc := 10) rfl hX dX11_put_10 ?_
      refine A_iload_n (pc := 11) rfl hX dX11_put_11 ?_
      refine A_iload_n (pc := 12) rfl hX dX11_put_12 ?_
      refine A_iast (pc := 13) hX dX11_put_13 (by repeat (first | assumption | exact aSet_s | exact aNew_s | refine lk_n ?_ (by omega) | refine lk_f (by assumption) ?_ (by omega) | refine lk_w ?_ (by omega))) (i_in hn c1 c7) ?_
      refine A_ret (pc := 14) hX hR dX11_put_14 ?_
      exact ⟨rfl, by rw [putS, if_pos ⟨i_nlt.mp c1, i_nle.mp c7⟩]; exact aSet_s, Fr.rf.set (Nat.le_refl _) (Nat.lt_succ_self _)⟩
set_option maxRecDepth 100000 in
set_option maxHeartbeats 1000000 in
theorem ct_fill (l : Launch) (G : aG) {k n : Nat} {f : Nat → Int32} {v : Int32} {σ : aS} (h : σ.2 k = some (aI G n f)) (hn : n < 2 ^ 31) : ACt l G yX11_fill cX11_fill 3 (none) 0 0 0 [.ref k, .int v] σ (vP (fun σ' => σ'.2 k = some (aI G n (fun j => if j < n then v else f j)) ∧ Fr k (k + 1) σ σ')) := by
  refine ACt.intro (own := RX11) (nm := "fill") mk_X11_fill rfl rfl [some (.ref k), some (.int v), none] rfl (Nat.le_of_ble_eq_true rfl) (fun X hX hR => ?_)
  refine A_iconst (pc := 0) (v := (nI 0)) (by decide) hX dX11_fill_0 ?_
  refine A_istore_n (pc := 1) (lv' := [_, _, _]) hX dX11_fill_1 (Nat.le_of_ble_eq_true rfl) rfl rfl ?_
  suffices hl : ∀ (m i : Nat) (σ1 : aS), i ≤ n → n - i < m → σ1.2 k = some (aI G n (fun j => if j < i then v else f j)) → Fr k (k + 1) σ σ1 → AA G X 0 0 2 [some (.ref k), some (.int v), some (.int (nI i))] [] σ1 from hl (n + 1) 0 σ (Nat.zero_le _) (by omega) (by simpa using h) Fr.rf
  intro m
  induction m with
  | zero => intro i σ1 _ hm; exact absurd hm (by omega)
  | succ m ih =>
    intro i σ1 hi hm h1 hf
    refine A_iload_n (pc := 2) rfl hX dX11_fill_2 ?_
    refine A_aload_n (pc := 3) rfl hX dX11_fill_3 ?_
    refine A_alenI (pc := 4) hX dX11_fill_4 (by assumption) ?_
    refine A_icmp_ge (pc := 5) 18 hX dX11_fill_5 rfl (fun c5 => ?_) (fun c5 => ?_)
    · refine A_ret (pc := 18) hX hR dX11_fill_18 ?_
      have hin : i = n := by
        rw [nI_leI (by omega) (by omega)] at c5
        omega
      subst hin
      exact ⟨rfl, h1, hf⟩
    · have hlt : i < n := by
        rcases Nat.lt_or_ge i n with q | q
        · exact q
        · exact absurd (nI_le q (by omega)) c5
      refine A_aload_n (pc := 8) rfl hX dX11_fill_8 ?_
      refine A_iload_n (pc := 9) rfl hX dX11_fill_9 ?_
      refine A_iload_n (pc := 10) rfl hX dX11_fill_10 ?_
      refine A_iast (pc := 11) hX dX11_fill_11 (by repeat (first | assumption | exact aSet_s | exact aNew_s | refine lk_n ?_ (by omega) | refine lk_f (by assumption) ?_ (by omega) | refine lk_w ?_ (by omega))) (vp_in_nI hlt hn) ?_
      refine A_iinc (pc := 12) (v := (nI (i + 1))) (lv' := [_, _, _]) hX dX11_fill_12 rfl (nI_succ i).symm rfl rfl ?_
      refine A_goto (pc := 15) 2 hX dX11_fill_15 rfl ?_
      refine ih (i + 1) _ hlt (by omega) (aSet_s.trans ?_) (hf.set (Nat.le_refl _) (Nat.lt_succ_self _))
      rw [nI_clamp (by omega)]
      congr 2
      funext j
      by_cases hj : j = i
      · subst hj; simp [upd]
      · by_cases hj2 : j < i
        · simp [upd, hj, hj2, Nat.lt_succ_of_lt hj2]
        · simp [upd, hj, hj2, show ¬ j < i + 1 by omega]
