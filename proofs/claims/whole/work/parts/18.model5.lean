theorem bit_val {st k : Nat} : st / 2 ^ k % 2 = if bitN st k = true then 1 else 0 := by
  by_cases h : st / 2 ^ k % 2 = 1
  · rw [if_pos (show bitN st k = true from decide_eq_true h), h]
  · rw [if_neg (show ¬ bitN st k = true from fun q => h (of_decide_eq_true q))]; omega
theorem l_nxt2 {s : Nat} (h : s < 2147483648) : (((1103515245 : Int64) * lN s + (12345 : Int64)) &&& (2147483647 : Int64)) = lN (nxtN s) := by
  rw [show (1103515245 : Int64) = lN 1103515245 from rfl, show (12345 : Int64) = lN 12345 from rfl, show (2147483647 : Int64) = lN 2147483647 from rfl, lN_mul, lN_add, l_mask (by omega)]
  rfl
set_option maxRecDepth 100000 in
set_option maxHeartbeats 1000000 in
theorem ct_size (l : Launch) (G : aG) {st : Nat} (hst : st < 64) {σ : aS} : ACt l G yX12_size cX12_size 3 (some .int) 0 0 0 [.int (nI st)] σ (dP (some (.int (nI (pcN st)))) σ) := by
  refine ACt.intro (own := RX12) (nm := "size") mk_X12_size rfl rfl [some (.int (nI st)), none, none] rfl (Nat.le_of_ble_eq_true rfl) (fun X hX hR => ?_)
  refine A_iconst (pc := 0) (v := (nI 0)) (by decide) hX dX12_size_0 ?_
  refine A_istore_n (pc := 1) (lv' := [_, _, _]) hX dX12_size_1 (Nat.le_of_ble_eq_true rfl) rfl rfl ?_
  refine A_iconst (pc := 2) (v := (nI 0)) (by decide) hX dX12_size_2 ?_
  refine A_istore_n (pc := 3) (lv' := [_, _, _]) hX dX12_size_3 (Nat.le_of_ble_eq_true rfl) rfl rfl ?_
  suffices hl : ∀ (q k : Nat), k ≤ 6 → 6 - k = q → AA G X 0 0 4 [some (.int (nI st)), some (.int (nI (cntN (bitN st) k))), some (.int (nI k))] [] σ from hl 6 0 (Nat.zero_le _) rfl
  intro q
  induction q with
  | zero =>
    intro k hk hq
    have e : 6 = k := by omega
    subst e
    refine A_iload_n (pc := 4) rfl hX dX12_size_4 ?_
    refine A_bipush (pc := 5) (v := (nI 6)) (by decide) hX dX12_size_5 ?_
    refine A_icmp_ge (pc := 7) 24 hX dX12_size_7 rfl (fun c7 => ?_) (fun c7 => ?_)
    · refine A_iload_n (pc := 24) rfl hX dX12_size_24 ?_
      refine A_iret (pc := 25) hX hR dX12_size_25 rfl rfl ?_
      exact ⟨rfl, rfl⟩
    · exact absurd (by decide) c7
  | succ q ih =>
    intro k hk hq
    have hkl : k < 6 := by omega
    refine A_iload_n (pc := 4) rfl hX dX12_size_4 ?_
    refine A_bipush (pc := 5) (v := (nI 6)) (by decide) hX dX12_size_5 ?_
    refine A_icmp_ge (pc := 7) 24 hX dX12_size_7 rfl (fun c7 => ?_) (fun c7 => ?_)
    · exact absurd c7 (nI_ge hkl (by decide))
    · refine A_iload_n (pc := 10) rfl hX dX12_size_10 ?_
      refine A_iload_n (pc := 11) rfl hX dX12_size_11 ?_
      refine A_iload_n (pc := 12) rfl hX dX12_size_12 ?_
      refine A_ishr (pc := 13) hX dX12_size_13 ?_
      refine A_iconst (pc := 14) (v := (nI 1)) (by decide) hX dX12_size_14 ?_
      refine A_iand (pc := 15) hX dX12_size_15 ?_
      refine A_top (y := nI (st / 2 ^ k % 2)) (i_bit hst hkl) ?_
      refine A_iadd (pc := 16) hX dX12_size_16 ?_
      refine A_top (y := nI (cntN (bitN st) (k + 1))) (by rw [nI_add, cntN, bit_val]) ?_
      refine A_istore_n (pc := 17) (lv' := [_, _, _]) hX dX12_size_17 (Nat.le_of_ble_eq_true rfl) rfl rfl ?_
      refine A_iinc (pc := 18) (v := (nI (k + 1))) (lv' := [_, _, _]) hX dX12_size_18 rfl (nI_succ k).symm rfl rfl ?_
      refine A_goto (pc := 21) 4 hX dX12_size_21 rfl ?_
      exact ih (k + 1) (by omega) (by omega)
set_option maxRecDepth 100000 in
set_option maxHeartbeats 1000000 in
theorem ct_mix (l : Launch) (G : aG) {m tw nb nt hn len kt kn : Nat} {dy fa nm kd : Int32} {wh hk : Bool} {sn hd : Int64} {σ : aS} (ho : σ.2 m = some (oM m tw nb nt dy hn len fa wh nm sn hk kt kn kd hd)) {v : Int64} : ACt l G yX12_mix cX12_mix 3 (none) 0 0 0 [.ref m, .long v] σ (vP (fun σ' => σ'.2 m = some (oM m tw nb nt dy hn len fa wh nm sn hk kt kn kd (31 * hd + v)) ∧ Fr m (m + 1) σ σ')) := by
  refine ACt.intro (own := RX12) (nm := "mix") mk_X12_mix rfl rfl [some (.ref m), some (.long v), none] rfl (Nat.le_of_ble_eq_true rfl) (fun X hX hR => ?_)
  refine A_aload_n (pc := 0) rfl hX dX12_mix_0 ?_
  refine A_ldc2 (pc := 1) k_X12_237 hX dX12_mix_1 ?_
  refine A_aload_n (pc := 4) rfl hX dX12_mix_4 ?_
  refine A_getf (pc := 5) hX fl_X12_239_12 dX12_mix_5 (by repeat (first | assumption | exact aSet_s | exact aNew_s | refine lk_n ?_ (by omega) | refine lk_f (by assumption) ?_ (by omega) | refine lk_w ?_ (by omega))) (by exact rfl) ?_
  refine A_lmul (pc := 8) hX dX12_mix_8 ?_
  refine A_lload_n (pc := 9) rfl hX dX12_mix_9 ?_
  refine A_ladd (pc := 10) hX dX12_mix_10 ?_
  refine A_putf (pc := 11) (fs' := [_, _, _, _, _, _, _, _, _, _, _, _, _, _, _, _, _, _, _, _, _, _, _, _, _, _, _, _, _, _, _, _, _, _, _, _, _]) hX pl_X12_239_12 dX12_mix_11 (by repeat (first | assumption | exact aSet_s | exact aNew_s | refine lk_n ?_ (by omega) | refine lk_f (by assumption) ?_ (by omega) | refine lk_w ?_ (by omega))) (by exact Nat.le_of_ble_eq_true rfl) (by exact rfl) rfl rfl ?_
  refine A_ret (pc := 14) hX hR dX12_mix_14 ?_
  exact ⟨rfl, aSet_s, (by repeat (first | exact Fr.rf | refine Fr.set ?_ (by omega) (by omega) | refine Fr.tr ?_ (Fr.wd (by assumption) (by omega) (by omega))))⟩
theorem l_div {a d : Nat} (ha : a < 2 ^ 31) (h0 : 0 < d) (hd : d < 2 ^ 31) : lN a / lN d = lN (a / d) := by
  apply Int64.toInt_inj.mp
  rw [lg_ldiv_nonneg (by rw [lN_toInt ha]; omega) (by rw [lN_toInt hd]; omega), lN_toInt ha, lN_toInt hd, lN_toInt (Nat.lt_of_le_of_lt (Nat.div_le_self a d) ha)]
  first | rfl | exact (Int.natCast_ediv _ _).symm
theorem l_rem {a d : Nat} (ha : a < 2 ^ 31) (h0 : 0 < d) (hd : d < 2 ^ 31) : lN a - lN a / lN d * lN d = lN (a % d) := by
  rw [l_div ha h0 hd, lN_mul, lN_sub (Nat.div_mul_le_self a d)]
  exact congrArg lN (by have := Nat.div_add_mod' a d; omega)
theorem l_draw {x d : Nat} (hx : x < 2147483648) (h0 : 0 < d) (hd : d < 2 ^ 31) : (lN x / (65536 : Int64) - lN x / (65536 : Int64) / (nI d).toInt64 * (nI d).toInt64).toInt32 = nI (x / 65536 % d) := by
  rw [show (65536 : Int64) = lN 65536 from rfl, nI_l hd, l_div (by omega) (by decide) (by decide), l_rem (by omega) h0 hd, lN_i]
theorem l_ne {d : Nat} (h0 : 0 < d) (hd : d < 2 ^ 31) : ¬ (nI d).toInt64 = 0 := by
  rw [nI_l hd]
  exact fun q => by have := (lN_eq (b := 0) hd (by decide)).mp q; omega
set_option maxRecDepth 100000 in
set_option maxHeartbeats 1000000 in
theorem ct_draw (l : Launch) (G : aG) {m tw nb nt hn len kt kn sd d : Nat} {dy fa nm kd : Int32} {wh hk : Bool} {hd : Int64} {σ : aS} (ho : σ.2 m = some (oM m tw nb nt dy hn len fa wh nm (lN sd) hk kt kn kd hd)) (hsd : sd < 2147483648) (h0 : 0 < d) (hd2 : d < 2 ^ 31) : ACt l G yX12_draw cX12_draw 2 (some .int) 0 0 0 [.ref m, .int (nI d)] σ (iP (fun v σ' => v = nI (nxtN sd / 65536 % d) ∧ σ'.2 m = some (oM m tw nb nt dy hn len fa wh nm (lN (nxtN sd)) hk kt kn kd hd) ∧ Fr m (m + 1) σ σ')) := by
  have hx := nxtN_lt sd
  refine ACt.intro (own := RX12) (nm := "draw") mk_X12_draw rfl rfl [some (.ref m), some (.int (nI d))] rfl (Nat.le_of_ble_eq_true rfl) (fun X hX hR => ?_)
  refine A_aload_n (pc := 0) rfl hX dX12_draw_0 ?_
  refine A_ldc2 (pc := 1) k_X12_195 hX dX12_draw_1 ?_
  refine A_aload_n (pc := 4) rfl hX dX12_draw_4 ?_
  refine A_getf (pc := 5) hX fl_X12_197_12 dX12_draw_5 (by repeat (first | assumption | exact aSet_s | exact aNew_s | refine lk_n ?_ (by omega) | refine lk_f (by assumption) ?_ (by omega) | refine lk_w ?_ (by omega))) (by exact rfl) ?_
  refine A_lmul (pc := 8) hX dX12_draw_8 ?_
  refine A_ldc2 (pc := 9) k_X12_201 hX dX12_draw_9 ?_
  refine A_ladd (pc := 12) hX dX12_draw_12 ?_
  refine A_ldc2 (pc := 13) k_X12_203 hX dX12_draw_13 ?_
  refine A_land (pc := 16) hX dX12_draw_16 ?_
  refine A_putf (pc := 17) (fs' := [_, _, _, _, _, _, _, _, _, _, _, _, _, _, _, _, _, _, _, _, _, _, _, _, _, _, _, _, _, _, _, _, _, _, _, _, _]) hX pl_X12_197_12 dX12_draw_17 (by repeat (first | assumption | exact aSet_s | exact aNew_s | refine lk_n ?_ (by omega) | refine lk_f (by assumption) ?_ (by omega) | refine lk_w ?_ (by omega))) (by exact Nat.le_of_ble_eq_true rfl) (by exact rfl) rfl rfl ?_
  refine A_gen (fun z => (z.2 m = some (oM m (tw) (nb) (nt) (dy) (hn) (len) (fa) (wh) (nm) (lN (nxtN sd)) (hk) (kt) (kn) (kd) (hd))) ∧ Fr (m) (m + 1) σ z) ⟨aSet_s.trans (by rw [l_nxt2 hsd]), (Fr.rf.set (by omega) (by omega))⟩ (fun σ20 hg => ?_)
  obtain ⟨h20, f20⟩ := hg
  refine A_aload_n (pc := 20) rfl hX dX12_draw_20 ?_
  refine A_getf (pc := 21) hX fl_X12_197_12 dX12_draw_21 (by repeat (first | assumption | exact aSet_s | exact aNew_s | refine lk_n ?_ (by omega) | refine lk_f (by assumption) ?_ (by omega) | refine lk_w ?_ (by omega))) (by exact rfl) ?_
  refine A_ldc2 (pc := 24) k_X12_205 hX dX12_draw_24 ?_
  refine A_ldiv (pc := 27) (by decide) hX dX12_draw_27 ?_
  refine A_iload_n (pc := 28) rfl hX dX12_draw_28 ?_
  refine A_i2l (pc := 29) hX dX12_draw_29 ?_
  refine A_lrem (pc := 30) (l_ne h0 hd2) hX dX12_draw_30 ?_
  refine A_l2i (pc := 31) hX dX12_draw_31 ?_
  refine A_top (y := nI (nxtN sd / 65536 % d)) (l_draw hx h0 hd2) ?_
  refine A_iret (pc := 32) hX hR dX12_draw_32 rfl rfl ?_
  exact ⟨_, rfl, rfl, h20, f20⟩
