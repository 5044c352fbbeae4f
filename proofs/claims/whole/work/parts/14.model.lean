/-! the model: m the object, its rows behind it -/
abbrev oM (m tw nb nt : Nat) (dy : Int32) (hn len : Nat) (fa : Int32) (wh : Bool) (nm : Int32) (sn : Int64) (hk : Bool) (kt kn : Nat) (kd : Int32) (hd : Int64) : va_E := aO 12 [.int (nI tw), .int (nI nb), .ref (m + 1), .ref (m + 2), .ref (m + 3), .ref (m + 4), .int (nI nt), .ref (m + 5), .ref (m + 6), .ref (m + 7), .ref (m + 8), .int dy, .int (nI hn), .int (nI len), .ref (m + 9), .int fa, .int (bI wh), .int nm, .ref (m + 10), .ref (m + 11), .ref (m + 12), .ref (m + 13), .ref (m + 14), .ref (m + 15), .ref (m + 16), .ref (m + 17), .long sn, .ref (m + 18), .int (bI hk), .int (nI kt), .int (nI kn), .int kd, .ref (m + 19), .ref (m + 20), .ref (m + 21), .ref (m + 22), .long hd]
def RMa (G : aG) (m nb : Nat) (B : BorT) (σ : aS) : Prop := nb ≤ 6 ∧ okB nb B ∧ ∃ gk gt gm gd : Nat → Int32, σ.2 (m + 1) = some (aI G 6 gk) ∧ σ.2 (m + 2) = some (aI G 6 gt) ∧ σ.2 (m + 3) = some (aI G 6 gm) ∧ σ.2 (m + 4) = some (aI G 6 gd) ∧ ∀ b, b < nb → gk b = nI (B b).1 ∧ gt b = nI (B b).2.1 ∧ gm b = nI (B b).2.2.1 ∧ gd b = nI (B b).2.2.2
theorem RMa.fr {G : aG} {m nb lo hi : Nat} {B : BorT} {σ σ' : aS} (h : RMa G m nb B σ) (hf : Fr lo hi σ σ') (h2 : hi ≤ m + 1 ∨ m + 5 ≤ lo) : RMa G m nb B σ' := by
  obtain ⟨h0, hk, gk, gt, gm, gd, e1, e2, e3, e4, e5⟩ := h
  exact ⟨h0, hk, gk, gt, gm, gd, lk_f hf e1 (by omega), lk_f hf e2 (by omega), lk_f hf e3 (by omega), lk_f hf e4 (by omega), e5⟩
/-- four rows of the things, at q -/
def RMt (G : aG) (q nt : Nat) (V : ThT) (σ : aS) : Prop := ∃ gs gw gl gr : Nat → Int32, σ.2 q = some (aI G 4 gs) ∧ σ.2 (q + 1) = some (aI G 4 gw) ∧ σ.2 (q + 2) = some (aI G 4 gl) ∧ σ.2 (q + 3) = some (aI G 4 gr) ∧ lkV nt V gs gw gl gr
theorem RMt.fr {G : aG} {q nt lo hi : Nat} {V : ThT} {σ σ' : aS} (h : RMt G q nt V σ) (hf : Fr lo hi σ σ') (h2 : hi ≤ q ∨ q + 4 ≤ lo) : RMt G q nt V σ' := by
  obtain ⟨gs, gw, gl, gr, e1, e2, e3, e4, e5⟩ := h
  exact ⟨gs, gw, gl, gr, lk_f hf e1 (by omega), lk_f hf e2 (by omega), lk_f hf e3 (by omega), lk_f hf e4 (by omega), e5⟩
theorem i_with {s t v : Nat} (hs : s < 512) (ht : t < 3) (hv : v < 8) : (nI s &&& ((nI 7 <<< ((nI 3 * nI t) &&& 31)) ^^^ (-1))) ||| (nI v <<< ((nI 3 * nI t) &&& 31)) = nI (setT s t v) := (by decide +kernel : ∀ s, s < 512 → ∀ t, t < 3 → ∀ v, v < 8 → (nI s &&& ((nI 7 <<< ((nI 3 * nI t) &&& 31)) ^^^ (-1))) ||| (nI v <<< ((nI 3 * nI t) &&& 31)) = nI (setT s t v)) s hs t ht v hv
def winB (x lo hi : Int32) : Bool := decide (lo ≤ x ∧ x ≤ hi)
theorem winB_in {n : Nat} {x : Int32} (hn : n + 1 < 2 ^ 31) : winB x (nI 0) (nI n) = inN (n + 1) x := by
  rw [winB, inN]
  congr 1
  refine propext ⟨fun ⟨a, c⟩ => ⟨a, ?_⟩, fun ⟨a, c⟩ => ⟨a, ?_⟩⟩
  · rw [Int32.le_iff_toInt_le, nI_toInt (by omega)] at c
    rw [Int32.lt_iff_toInt_lt, nI_toInt hn]; omega
  · rw [Int32.lt_iff_toInt_lt, nI_toInt hn] at c
    rw [Int32.le_iff_toInt_le, nI_toInt (by omega)]; omega
theorem nI_sub1 (n : Nat) : nI n - nI 1 = if n = 0 then -1 else nI (n - 1) := by
  cases n with
  | zero => decide
  | succ n => rw [if_neg (by omega)]; exact nI_pred n
theorem winB_pre {n : Nat} {x : Int32} (hn : n < 2 ^ 31) : winB x (nI 0) (nI n - nI 1) = inN n x := by
  rw [nI_sub1]
  by_cases h : n = 0
  · subst h
    rw [if_pos rfl, winB, inN]
    congr 1
    refine propext ⟨fun ⟨a, c⟩ => ?_, fun ⟨a, c⟩ => ?_⟩
    · rw [Int32.le_iff_toInt_le] at a c
      have e1 : (nI 0).toInt = 0 := by decide
      have e2 : (-1 : Int32).toInt = -1 := by decide
      omega
    · rw [Int32.lt_iff_toInt_lt] at c
      rw [Int32.le_iff_toInt_le, Int32.toInt_zero] at a
      have e1 : (nI 0).toInt = 0 := by decide
      omega
  · rw [if_neg h, winB_in (by omega), show n - 1 + 1 = n by omega]
set_option maxRecDepth 100000 in
set_option maxHeartbeats 1000000 in
theorem ct_within (l : Launch) (G : aG) {x lo hi : Int32} {σ : aS} : ACt l G yX12_within cX12_within 3 (some (.boolean)) 0 0 0 [.int x, .int lo, .int hi] σ (dP (some (.int (bI (winB x lo hi)))) σ) := by
  refine ACt.intro (own := RX12) (nm := "within") mk_X12_within rfl rfl [some (.int x), some (.int lo), some (.int hi)] rfl (Nat.le_of_ble_eq_true rfl) (fun X hX hR => ?_)
  refine A_iload_n (pc := 0) rfl hX dX12_within_0 ?_
  refine A_iload_n (pc := 1) rfl hX dX12_within_1 ?_
  refine A_icmp_lt (pc := 2) 14 hX dX12_within_2 rfl (fun c2 => ?_) (fun c2 => ?_)
  · refine A_iconst (pc := 14) (v := (nI 0)) (by decide) hX dX12_within_14 ?_
    refine A_iret (pc := 15) hX hR dX12_within_15 rfl rfl ?_
    exact bl_f (decide_eq_false fun q => i_nlt.mpr q.1 c2)
  · refine A_iload_n (pc := 5) rfl hX dX12_within_5 ?_
    refine A_iload_n (pc := 6) rfl hX dX12_within_6 ?_
    refine A_icmp_gt (pc := 7) 14 hX dX12_within_7 rfl (fun c7 => ?_) (fun c7 => ?_)
    · refine A_iconst (pc := 14) (v := (nI 0)) (by decide) hX dX12_within_14 ?_
      refine A_iret (pc := 15) hX hR dX12_within_15 rfl rfl ?_
      exact bl_f (decide_eq_false fun q => i_nlt.mpr q.2 c7)
    · refine A_iconst (pc := 10) (v := (nI 1)) (by decide) hX dX12_within_10 ?_
      refine A_goto (pc := 11) 15 hX dX12_within_11 rfl ?_
      refine A_iret (pc := 15) hX hR dX12_within_15 rfl rfl ?_
      exact bl_t (decide_eq_true ⟨i_nlt.mp c2, i_nlt.mp c7⟩)
set_option maxRecDepth 100000 in
set_option maxHeartbeats 1000000 in
theorem ct_isStateM (l : Launch) (G : aG) {x : Int32} {σ : aS} : ACt l G yX12_isState cX12_isState 1 (some (.boolean)) 1 0 0 [.int x] σ (dP (some (.int (bI (inN 512 x)))) σ) := by
  refine ACt.intro (own := RX12) (nm := "isState") mk_X12_isState rfl rfl [some (.int x)] rfl (Nat.le_of_ble_eq_true rfl) (fun X hX hR => ?_)
  refine A_iload_n (pc := 0) rfl hX dX12_isState_0 ?_
  refine A_iconst (pc := 1) (v := (nI 0)) (by decide) hX dX12_isState_1 ?_
  refine A_sipush (pc := 2) (v := (nI 511)) (by decide) hX dX12_isState_2 ?_
  refine A_S3d (pc := 5) hX mk_X12_within ls_X12_77 dX12_isState_5 (ct_within l G ) rfl (Nat.le_of_ble_eq_true rfl) (Nat.le_of_ble_eq_true rfl) (Nat.le_of_ble_eq_true rfl) (Nat.le_of_ble_eq_true rfl) (Nat.le_of_ble_eq_true rfl) ?_
  refine A_iret (pc := 8) hX hR dX12_isState_8 rfl (bI_z _) ?_
  exact ⟨by rw [winB_in (by decide)], rfl⟩
set_option maxRecDepth 100000 in
set_option maxHeartbeats 1000000 in
theorem ct_isBorrower (l : Launch) (G : aG) {m tw nb nt hn len kt kn : Nat} {dy fa nm kd : Int32} {wh hk : Bool} {sn hd : Int64} {σ : aS} (ho : σ.2 m = some (oM m tw nb nt dy hn len fa wh nm sn hk kt kn kd hd)) (hnb : nb ≤ 6) {x : Int32} : ACt l G yX12_isBorrower cX12_isBorrower 2 (some (.boolean)) 1 0 0 [.ref m, .int x] σ (dP (some (.int (bI (inN nb x)))) σ) := by
  refine ACt.intro (own := RX12) (nm := "isBorrower") mk_X12_isBorrower rfl rfl [some (.ref m), some (.int x)] rfl (Nat.le_of_ble_eq_true rfl) (fun X hX hR => ?_)
  refine A_iload_n (pc := 0) rfl hX dX12_isBorrower_0 ?_
  refine A_iconst (pc := 1) (v := (nI 0)) (by decide) hX dX12_isBorrower_1 ?_
  refine A_aload_n (pc := 2) rfl hX dX12_isBorrower_2 ?_
  refine A_getf (pc := 3) hX fl_X12_103_12 dX12_isBorrower_3 (by repeat (first | assumption | exact aSet_s | exact aNew_s | refine lk_n ?_ (by omega) | refine lk_f (by assumption) ?_ (by omega) | refine lk_w ?_ (by omega))) (by exact rfl) ?_
  refine A_iconst (pc := 6) (v := (nI 1)) (by decide) hX dX12_isBorrower_6 ?_
  refine A_isub (pc := 7) hX dX12_isBorrower_7 ?_
  refine A_S3d (pc := 8) hX mk_X12_within ls_X12_77 dX12_isBorrower_8 (ct_within l G ) rfl (Nat.le_of_ble_eq_true rfl) (Nat.le_of_ble_eq_true rfl) (Nat.le_of_ble_eq_true rfl) (Nat.le_of_ble_eq_true rfl) (Nat.le_of_ble_eq_true rfl) ?_
  refine A_iret (pc := 11) hX hR dX12_isBorrower_11 rfl (bI_z _) ?_
  exact ⟨by rw [winB_pre (by omega)], rfl⟩
set_option maxRecDepth 100000 in
set_option maxHeartbeats 1000000 in
theorem ct_isThing (l : Launch) (G : aG) {m tw nb nt hn len kt kn : Nat} {dy fa nm kd : Int32} {wh hk : Bool} {sn hd : Int64} {σ : aS} (ho : σ.2 m = some (oM m tw nb nt dy hn len fa wh nm sn hk kt kn kd hd)) (hnt : nt ≤ 4) {x : Int32} : ACt l G yX12_isThing cX12_isThing 2 (some (.boolean)) 1 0 0 [.ref m, .int x] σ (dP (some (.int (bI (inN nt x)))) σ) := by
  refine ACt.intro (own := RX12) (nm := "isThing") mk_X12_isThing rfl rfl [some (.ref m), some (.int x)] rfl (Nat.le_of_ble_eq_true rfl) (fun X hX hR => ?_)
  refine A_iload_n (pc := 0) rfl hX dX12_isThing_0 ?_
  refine A_iconst (pc := 1) (v := (nI 0)) (by decide) hX dX12_isThing_1 ?_
  refine A_aload_n (pc := 2) rfl hX dX12_isThing_2 ?_
  refine A_getf (pc := 3) hX fl_X12_115_12 dX12_isThing_3 (by repeat (first | assumption | exact aSet_s | exact aNew_s | refine lk_n ?_ (by omega) | refine lk_f (by assumption) ?_ (by omega) | refine lk_w ?_ (by omega))) (by exact rfl) ?_
  refine A_iconst (pc := 6) (v := (nI 1)) (by decide) hX dX12_isThing_6 ?_
  refine A_isub (pc := 7) hX dX12_isThing_7 ?_
  refine A_S3d (pc := 8) hX mk_X12_within ls_X12_77 dX12_isThing_8 (ct_within l G ) rfl (Nat.le_of_ble_eq_true rfl) (Nat.le_of_ble_eq_true rfl) (Nat.le_of_ble_eq_true rfl) (Nat.le_of_ble_eq_true rfl) (Nat.le_of_ble_eq_true rfl) ?_
  refine A_iret (pc := 11) hX hR dX12_isThing_11 rfl (bI_z _) ?_
  exact ⟨by rw [winB_pre (by omega)], rfl⟩
set_option maxRecDepth 100000 in
set_option maxHeartbeats 1000000 in
theorem ct_traitIn (l : Launch) (G : aG) {s t : Nat} (hs : s < 512) (ht : t < 3) {σ : aS} : ACt l G yX12_traitIn cX12_traitIn 2 (some .int) 0 0 0 [.int (nI s), .int (nI t)] σ (dP (some (.int (nI (trt s t)))) σ) := by
  refine ACt.intro (own := RX12) (nm := "traitIn") mk_X12_traitIn rfl rfl [some (.int (nI s)), some (.int (nI t))] rfl (Nat.le_of_ble_eq_true rfl) (fun X hX hR => ?_)
  refine A_iload_n (pc := 0) rfl hX dX12_traitIn_0 ?_
  refine A_iconst (pc := 1) (v := (nI 3)) (by decide) hX dX12_traitIn_1 ?_
  refine A_iload_n (pc := 2) rfl hX dX12_traitIn_2 ?_
  refine A_imul (pc := 3) hX dX12_traitIn_3 ?_
  refine A_ishr (pc := 4) hX dX12_traitIn_4 ?_
  refine A_bipush (pc := 5) (v := (nI 7)) (by decide) hX dX12_traitIn_5 ?_
  refine A_iand (pc := 7) hX dX12_traitIn_7 ?_
  refine A_iret (pc := 8) hX hR dX12_traitIn_8 rfl rfl ?_
  exact ⟨by rw [← i_tr hs ht], rfl⟩
set_option maxRecDepth 100000 in
set_option maxHeartbeats 1000000 in
theorem ct_with (l : Launch) (G : aG) {s t v : Nat} (hs : s < 512) (ht : t < 3) (hv : v < 8) {σ : aS} : ACt l G yX12_with cX12_with 3 (some .int) 0 0 0 [.int (nI s), .int (nI t), .int (nI v)] σ (dP (some (.int (nI (setT s t v)))) σ) := by
  refine ACt.intro (own := RX12) (nm := "with") mk_X12_with rfl rfl [some (.int (nI s)), some (.int (nI t)), some (.int (nI v))] rfl (Nat.le_of_ble_eq_true rfl) (fun X hX hR => ?_)
  refine A_iload_n (pc := 0) rfl hX dX12_with_0 ?_
  refine A_bipush (pc := 1) (v := (nI 7)) (by decide) hX dX12_with_1 ?_
  refine A_iconst (pc := 3) (v := (nI 3)) (by decide) hX dX12_with_3 ?_
  refine A_iload_n (pc := 4) rfl hX dX12_with_4 ?_
  refine A_imul (pc := 5) hX dX12_with_5 ?_
  refine A_ishl (pc := 6) hX dX12_with_6 ?_
  refine A_iconst (pc := 7) (v := (-1)) (by decide) hX dX12_with_7 ?_
  refine A_ixor (pc := 8) hX dX12_with_8 ?_
  refine A_iand (pc := 9) hX dX12_with_9 ?_
  refine A_iload_n (pc := 10) rfl hX dX12_with_10 ?_
  refine A_iconst (pc := 11) (v := (nI 3)) (by decide) hX dX12_with_11 ?_
  refine A_iload_n (pc := 12) rfl hX dX12_with_12 ?_
  refine A_imul (pc := 13) hX dX12_with_13 ?_
  refine A_ishl (pc := 14) hX dX12_with_14 ?_
  refine A_ior (pc := 15) hX dX12_with_15 ?_
  refine A_iret (pc := 16) hX hR dX12_with_16 rfl rfl ?_
  exact ⟨by rw [← i_with hs ht hv], rfl⟩
set_option maxRecDepth 100000 in
set_option maxHeartbeats 1000000 in
theorem ct_made (l : Launch) (G : aG) {m tw nb nt hn len kt kn : Nat} {dy fa nm kd : Int32} {wh hk : Bool} {sn hd : Int64} {σ : aS} (ho : σ.2 m = some (oM m tw nb nt dy hn len fa wh nm sn hk kt kn kd hd)) {B : BorT} (ha : RMa G m nb B σ) {b s : Nat} (hb : b < nb) (hs : s < 512) : ACt l G yX12_made cX12_made 6 (some .int) 1 0 0 [.ref m, .int (nI b), .int (nI s)] σ (dP (some (.int (nI (mkB B b s)))) σ) := by
  obtain ⟨hnb, hok, gk, gt, gm, gd, e1, e2, e3, e4, e5⟩ := id ha
  obtain ⟨v1, v2, v3, v4⟩ := e5 b hb
  obtain ⟨u1, u2, u3, u4, u5, u6⟩ := hok b hb
  have hbc := nI_clamp (n := b) (by omega)
  have htl := trt_lt s (B b).2.1
  refine ACt.intro (own := RX12) (nm := "made") mk_X12_made rfl rfl [some (.ref m), some (.int (nI b)), some (.int (nI s)), none, none, none] rfl (Nat.le_of_ble_eq_true rfl) (fun X hX hR => ?_)
  refine A_aload_n (pc := 0) rfl hX dX12_made_0 ?_
  refine A_getf (pc := 1) hX fl_X12_13_12 dX12_made_1 (by repeat (first | assumption | exact aSet_s | exact aNew_s | refine lk_n ?_ (by omega) | refine lk_f (by assumption) ?_ (by omega) | refine lk_w ?_ (by omega))) (by exact rfl) ?_
  refine A_iload_n (pc := 4) rfl hX dX12_made_4 ?_
  refine A_iald (pc := 5) hX dX12_made_5 (by repeat (first | assumption | exact aSet_s | exact aNew_s | refine lk_n ?_ (by omega) | refine lk_f (by assumption) ?_ (by omega) | refine lk_w ?_ (by omega))) (vp_in_nI (by omega) (by decide)) ?_
  refine A_top (y := nI (B b).2.1) (by rw [hbc]; exact v2) ?_
  refine A_istore_n (pc := 6) (lv' := [_, _, _, _, _, _]) hX dX12_made_6 (Nat.le_of_ble_eq_true rfl) rfl rfl ?_
  refine A_iload_n (pc := 7) rfl hX dX12_made_7 ?_
  refine A_iload_n (pc := 8) rfl hX dX12_made_8 ?_
  refine A_S2d (pc := 9) hX mk_X12_traitIn ls_X12_121 dX12_made_9 (ct_traitIn l G hs u2) rfl (Nat.le_of_ble_eq_true rfl) (Nat.le_of_ble_eq_true rfl) (Nat.le_of_ble_eq_true rfl) (Nat.le_of_ble_eq_true rfl) (Nat.le_of_ble_eq_true rfl) ?_
  refine A_istore (pc := 12) (lv' := [_, _, _, _, _, _]) hX dX12_made_12 (Nat.le_of_ble_eq_true rfl) rfl rfl ?_
  refine A_aload_n (pc := 14) rfl hX dX12_made_14 ?_
  refine A_getf (pc := 15) hX fl_X12_7_12 dX12_made_15 (by repeat (first | assumption | exact aSet_s | exact aNew_s | refine lk_n ?_ (by omega) | refine lk_f (by assumption) ?_ (by omega) | refine lk_w ?_ (by omega))) (by exact rfl) ?_
  refine A_iload_n (pc := 18) rfl hX dX12_made_18 ?_
  refine A_iald (pc := 19) hX dX12_made_19 (by repeat (first | assumption | exact aSet_s | exact aNew_s | refine lk_n ?_ (by omega) | refine lk_f (by assumption) ?_ (by omega) | refine lk_w ?_ (by omega))) (vp_in_nI (by omega) (by decide)) ?_
  refine A_top (y := nI (B b).1) (by rw [hbc]; exact v1) ?_
  rcases (by omega : (B b).1 = 0 ∨ (B b).1 = 1 ∨ (B b).1 = 2 ∨ (B b).1 = 3 ∨ (B b).1 = 4) with hkc | hkc | hkc | hkc | hkc <;> rw [hkc]
  · refine A_tabIn (pc := 20) (off := 32) 52 hX dX12_made_20 (by decide) (by decide) rfl rfl ?_
    refine A_iload_n (pc := 52) rfl hX dX12_made_52 ?_
    refine A_iload_n (pc := 53) rfl hX dX12_made_53 ?_
    refine A_iload (pc := 54) rfl hX dX12_made_54 ?_
    refine A_aload_n (pc := 56) rfl hX dX12_made_56 ?_
    refine A_getf (pc := 57) hX fl_X12_16_12 dX12_made_57 (by repeat (first | assumption | exact aSet_s | exact aNew_s | refine lk_n ?_ (by omega) | refine lk_f (by assumption) ?_ (by omega) | refine lk_w ?_ (by omega))) (by exact rfl) ?_
    refine A_iload_n (pc := 60) rfl hX dX12_made_60 ?_
    refine A_iald (pc := 61) hX dX12_made_61 (by repeat (first | assumption | exact aSet_s | exact aNew_s | refine lk_n ?_ (by omega) | refine lk_f (by assumption) ?_ (by omega) | refine lk_w ?_ (by omega))) (vp_in_nI (by omega) (by decide)) ?_
    refine A_top (y := nI (B b).2.2.1) (by rw [hbc]; exact v3) ?_
    refine A_iadd (pc := 62) hX dX12_made_62 ?_
    refine A_bipush (pc := 63) (v := (nI 8)) (by decide) hX dX12_made_63 ?_
    refine A_irem (pc := 65) (by decide) hX dX12_made_65 ?_
    refine A_top (y := nI ((trt s (B b).2.1 + (B b).2.2.1) % 8)) (by rw [nI_add, pk_rem (by omega) (by decide) (by decide)]) ?_
    refine A_S3d (pc := 66) hX mk_X12_with ls_X12_125 dX12_made_66 (ct_with l G hs u2 (Nat.mod_lt _ (by decide))) rfl (Nat.le_of_ble_eq_true rfl) (Nat.le_of_ble_eq_true rfl) (Nat.le_of_ble_eq_true rfl) (Nat.le_of_ble_eq_true rfl) (Nat.le_of_ble_eq_true rfl) ?_
    refine A_iret (pc := 69) hX hR dX12_made_69 rfl rfl ?_
    exact ⟨by rw [mkB, hkc]; rfl, rfl⟩
  · refine A_tabIn (pc := 20) (off := 50) 70 hX dX12_made_20 (by decide) (by decide) rfl rfl ?_
    refine A_iload_n (pc := 70) rfl hX dX12_made_70 ?_
    refine A_iload_n (pc := 71) rfl hX dX12_made_71 ?_
    refine A_aload_n (pc := 72) rfl hX dX12_made_72 ?_
    refine A_getf (pc := 73) hX fl_X12_16_12 dX12_made_73 (by repeat (first | assumption | exact aSet_s | exact aNew_s | refine lk_n ?_ (by omega) | refine lk_f (by assumption) ?_ (by omega) | refine lk_w ?_ (by omega))) (by exact rfl) ?_
    refine A_iload_n (pc := 76) rfl hX dX12_made_76 ?_
    refine A_iald (pc := 77) hX dX12_made_77 (by repeat (first | assumption | exact aSet_s | exact aNew_s | refine lk_n ?_ (by omega) | refine lk_f (by assumption) ?_ (by omega) | refine lk_w ?_ (by omega))) (vp_in_nI (by omega) (by decide)) ?_
    refine A_top (y := nI (B b).2.2.1) (by rw [hbc]; exact v3) ?_
    refine A_S3d (pc := 78) hX mk_X12_with ls_X12_125 dX12_made_78 (ct_with l G hs u2 u4) rfl (Nat.le_of_ble_eq_true rfl) (Nat.le_of_ble_eq_true rfl) (Nat.le_of_ble_eq_true rfl) (Nat.le_of_ble_eq_true rfl) (Nat.le_of_ble_eq_true rfl) ?_
    refine A_iret (pc := 81) hX hR dX12_made_81 rfl rfl ?_
    exact ⟨by rw [mkB, hkc]; rfl, rfl⟩
  · refine A_tabIn (pc := 20) (off := 62) 82 hX dX12_made_20 (by decide) (by decide) rfl rfl ?_
    refine A_iload_n (pc := 82) rfl hX dX12_made_82 ?_
    refine A_iload_n (pc := 83) rfl hX dX12_made_83 ?_
    refine A_bipush (pc := 84) (v := (nI 7)) (by decide) hX dX12_made_84 ?_
    refine A_iload (pc := 86) rfl hX dX12_made_86 ?_
    refine A_isub (pc := 88) hX dX12_made_88 ?_
    refine A_top (y := nI (7 - trt s (B b).2.1)) (by rw [pk_sub (by omega)]) ?_
    refine A_S3d (pc := 89) hX mk_X12_with ls_X12_125 dX12_made_89 (ct_with l G hs u2 (by omega)) rfl (Nat.le_of_ble_eq_true rfl) (Nat.le_of_ble_eq_true rfl) (Nat.le_of_ble_eq_true rfl) (Nat.le_of_ble_eq_true rfl) (Nat.le_of_ble_eq_true rfl) ?_
    refine A_iret (pc := 92) hX hR dX12_made_92 rfl rfl ?_
    exact ⟨by rw [mkB, hkc]; rfl, rfl⟩
  · refine A_tabIn (pc := 20) (off := 73) 93 hX dX12_made_20 (by decide) (by decide) rfl rfl ?_
    refine A_iload_n (pc := 93) rfl hX dX12_made_93 ?_
    refine A_iconst (pc := 94) (v := (nI 1)) (by decide) hX dX12_made_94 ?_
    refine A_iadd (pc := 95) hX dX12_made_95 ?_
    refine A_iconst (pc := 96) (v := (nI 3)) (by decide) hX dX12_made_96 ?_
    refine A_irem (pc := 97) (by decide) hX dX12_made_97 ?_
    refine A_top (y := nI (((B b).2.1 + 1) % 3)) (by rw [nI_add, pk_rem (by omega) (by decide) (by decide)]) ?_
    refine A_istore (pc := 98) (lv' := [_, _, _, _, _, _]) hX dX12_made_98 (Nat.le_of_ble_eq_true rfl) rfl rfl ?_
    refine A_iload_n (pc := 100) rfl hX dX12_made_100 ?_
    refine A_iload_n (pc := 101) rfl hX dX12_made_101 ?_
    refine A_iload_n (pc := 102) rfl hX dX12_made_102 ?_
    refine A_iload (pc := 103) rfl hX dX12_made_103 ?_
    refine A_S2d (pc := 105) hX mk_X12_traitIn ls_X12_121 dX12_made_105 (ct_traitIn l G hs (Nat.mod_lt _ (by decide))) rfl (Nat.le_of_ble_eq_true rfl) (Nat.le_of_ble_eq_true rfl) (Nat.le_of_ble_eq_true rfl) (Nat.le_of_ble_eq_true rfl) (Nat.le_of_ble_eq_true rfl) ?_
    refine A_S3d (pc := 108) hX mk_X12_with ls_X12_125 dX12_made_108 (ct_with l G hs u2 (trt_lt _ _)) rfl (Nat.le_of_ble_eq_true rfl) (Nat.le_of_ble_eq_true rfl) (Nat.le_of_ble_eq_true rfl) (Nat.le_of_ble_eq_true rfl) (Nat.le_of_ble_eq_true rfl) ?_
    refine A_iload (pc := 111) rfl hX dX12_made_111 ?_
    refine A_iload (pc := 113) rfl hX dX12_made_113 ?_
    refine A_S3d (pc := 115) hX mk_X12_with ls_X12_125 dX12_made_115 (ct_with l G (setT_lt hs u2 (trt_lt _ _)) (Nat.mod_lt _ (by decide)) htl) rfl (Nat.le_of_ble_eq_true rfl) (Nat.le_of_ble_eq_true rfl) (Nat.le_of_ble_eq_true rfl) (Nat.le_of_ble_eq_true rfl) (Nat.le_of_ble_eq_true rfl) ?_
    refine A_iret (pc := 118) hX hR dX12_made_118 rfl rfl ?_
    exact ⟨by rw [mkB, hkc]; rfl, rfl⟩
  · refine A_tabOut (pc := 20) 119 hX dX12_made_20 (by decide) rfl ?_
    refine A_iload_n (pc := 119) rfl hX dX12_made_119 ?_
    refine A_iload_n (pc := 120) rfl hX dX12_made_120 ?_
    refine A_iconst (pc := 121) (v := (nI 2)) (by decide) hX dX12_made_121 ?_
    refine A_iload (pc := 122) rfl hX dX12_made_122 ?_
    refine A_imul (pc := 124) hX dX12_made_124 ?_
    refine A_bipush (pc := 125) (v := (nI 8)) (by decide) hX dX12_made_125 ?_
    refine A_irem (pc := 127) (by decide) hX dX12_made_127 ?_
    refine A_top (y := nI (2 * trt s (B b).2.1 % 8)) (by rw [pk_mul, pk_rem (by omega) (by decide) (by decide)]) ?_
    refine A_S3d (pc := 128) hX mk_X12_with ls_X12_125 dX12_made_128 (ct_with l G hs u2 (Nat.mod_lt _ (by decide))) rfl (Nat.le_of_ble_eq_true rfl) (Nat.le_of_ble_eq_true rfl) (Nat.le_of_ble_eq_true rfl) (Nat.le_of_ble_eq_true rfl) (Nat.le_of_ble_eq_true rfl) ?_
    refine A_iret (pc := 131) hX hR dX12_made_131 rfl rfl ?_
    exact ⟨by rw [mkB, hkc]; rfl, rfl⟩
def RMp (G : aG) (m len : Nat) (cd : Nat → Nat) (σ : aS) : Prop := ∃ f : Nat → Int32, σ.2 (m + 9) = some (aB G 30 f) ∧ len ≤ 30 ∧ ∀ j, j < len → f j = nI (cd j) ∧ cd j < 128
def RMn (G : aG) (m : Nat) (σ : aS) : Prop := ∃ a b c d : Nat → Int32, σ.2 (m + 10) = some (aI G 6 a) ∧ σ.2 (m + 11) = some (aI G 6 b) ∧ σ.2 (m + 12) = some (aI G 6 c) ∧ σ.2 (m + 13) = some (aI G 6 d)
def RMs (G : aG) (m : Nat) (σ : aS) : Prop := ∃ a b c d e : Nat → Int32, σ.2 (m + 14) = some (aI G 512 a) ∧ σ.2 (m + 15) = some (aI G 512 b) ∧ σ.2 (m + 16) = some (aI G 512 c) ∧ σ.2 (m + 17) = some (aI G 512 d) ∧ σ.2 (m + 18) = some (aI G 4 e)
theorem RMp.fr {G : aG} {m len lo hi : Nat} {cd : Nat → Nat} {σ σ' : aS} (h : RMp G m len cd σ) (hf : Fr lo hi σ σ') (h2 : hi ≤ m + 9 ∨ m + 10 ≤ lo) : RMp G m len cd σ' := by
  obtain ⟨f, h1, h3⟩ := h
  exact ⟨f, lk_f hf h1 (by omega), h3⟩
theorem RMn.fr {G : aG} {m lo hi : Nat} {σ σ' : aS} (h : RMn G m σ) (hf : Fr lo hi σ σ') (h2 : hi ≤ m + 10 ∨ m + 14 ≤ lo) : RMn G m σ' := by
  obtain ⟨a, b, c, d, h1, h3, h4, h5⟩ := h
  exact ⟨a, b, c, d, lk_f hf h1 (by omega), lk_f hf h3 (by omega), lk_f hf h4 (by omega), lk_f hf h5 (by omega)⟩
theorem RMs.fr {G : aG} {m lo hi : Nat} {σ σ' : aS} (h : RMs G m σ) (hf : Fr lo hi σ σ') (h2 : hi ≤ m + 14 ∨ m + 19 ≤ lo) : RMs G m σ' := by
  obtain ⟨a, b, c, d, e, h1, h3, h4, h5, h6⟩ := h
  exact ⟨a, b, c, d, e, lk_f hf h1 (by omega), lk_f hf h3 (by omega), lk_f hf h4 (by omega), lk_f hf h5 (by omega), lk_f hf h6 (by omega)⟩
/-- the model, in the same terms as the class -/
def RM (G : aG) (m len : Nat) (cd : Nat → Nat) (nb : Nat) (B : BorT) (nt : Nat) (dy : Int32) (V : ThT) (hI : Bool) (kn : Nat) (kd : Int32) (KV : ThT) (tw hn : Nat) (σ : aS) : Prop := ∃ (fa nm : Int32) (wh hk : Bool) (sn hd : Int64) (kt : Nat), σ.2 m = some (oM m tw nb nt dy hn len fa wh nm sn hk kt kn kd hd) ∧ RMa G m nb B σ ∧ RMt G (m + 5) nt V σ ∧ RMp G m len cd σ ∧ RMn G m σ ∧ RMs G m σ ∧ RMt G (m + 19) kn KV σ ∧ (hI = true ↔ hk = true ∧ kt = tw) ∧ kt ≤ tw
def uqV (nt : Nat) (V : ThT) : Prop := ∀ i j, i < nt → j < nt → (V i).2.1 = (V j).2.1 → ¬ (V i).2.1 = -1 → i = j
def lstV (V : ThT) (x : Int32) : Nat → Int32
  | 0 => -1
  | t + 1 => if (V t).2.1 = x then nI t else lstV V x t
theorem lstV_hit {V : ThT} {x : Int32} {j nt : Nat} (hj : (V j).2.1 = x) (hu : ∀ i, i < nt → (V i).2.1 = x → i = j) : ∀ t, t ≤ nt → lstV V x t = if j < t then nI j else -1
  | 0, _ => by rw [if_neg (by omega)]; rfl
  | t + 1, h => by
    rw [lstV]
    by_cases e : (V t).2.1 = x
    · have q := hu t (by omega) e
      rw [if_pos e, q, if_pos (by omega)]
    · rw [if_neg e, lstV_hit hj hu t (by omega)]
      have q : t ≠ j := fun q => e (q ▸ hj)
      by_cases e2 : j < t
      · rw [if_pos e2, if_pos (by omega)]
      · rw [if_neg e2, if_neg (by omega)]
theorem hfind_hit {V : ThT} {x : Int32} {j nt : Nat} (hj : (V j).2.1 = x) (hu : ∀ i, i < nt → (V i).2.1 = x → i = j) : ∀ n i, i + n ≤ nt → hfind V x n i = if i ≤ j ∧ j < i + n then nI j else -1
  | 0, i, _ => by rw [if_neg (by omega)]; rfl
  | n + 1, i, h => by
    rw [hfind]
    by_cases e : (V i).2.1 = x
    · have q := hu i (by omega) e
      rw [if_pos e, q, if_pos (by omega)]
    · rw [if_neg e, hfind_hit hj hu n (i + 1) (by omega)]
      have q : i ≠ j := fun q => e (q ▸ hj)
      by_cases e2 : i + 1 ≤ j ∧ j < i + 1 + n
      · rw [if_pos e2, if_pos (by omega)]
      · rw [if_neg e2, if_neg (by omega)]
theorem lstV_no {V : ThT} {x : Int32} : ∀ t, (∀ i, i < t → ¬ (V i).2.1 = x) → lstV V x t = -1
  | 0, _ => rfl
  | t + 1, h => by rw [lstV, if_neg (h t (by omega)), lstV_no t fun i hi => h i (by omega)]
theorem hfind_no {V : ThT} {x : Int32} : ∀ n i, (∀ k, i ≤ k → k < i + n → ¬ (V k).2.1 = x) → hfind V x n i = -1
  | 0, _, _ => rfl
  | n + 1, i, h => by rw [hfind, if_neg (h i (by omega) (by omega)), hfind_no n (i + 1) fun k h1 h2 => h k (by omega) (by omega)]
theorem lstV_held {V : ThT} {x : Int32} {nt : Nat} (hu : uqV nt V) (hx : ¬ x = -1) : lstV V x nt = heldBy V nt x := by
  by_cases e : ∃ j, j < nt ∧ (V j).2.1 = x
  · obtain ⟨j, h1, h2⟩ := e
    have q : ∀ i, i < nt → (V i).2.1 = x → i = j := fun i hi he => hu i j hi h1 (he.trans h2.symm) (by rw [he]; exact hx)
    rw [lstV_hit h2 q nt (Nat.le_refl _), heldBy, hfind_hit h2 q nt 0 (by omega), if_pos h1, if_pos ⟨Nat.zero_le _, by omega⟩]
  · rw [lstV_no nt fun i hi q => e ⟨i, hi, q⟩, heldBy, hfind_no nt 0 fun k _ h2 q => e ⟨k, by omega, q⟩]
set_option maxRecDepth 100000 in
set_option maxHeartbeats 1000000 in
theorem ct_whoseThing (l : Launch) (G : aG) {m tw nb nt hn len kt kn : Nat} {dy fa nm kd : Int32} {wh hk : Bool} {sn hd : Int64} {σ : aS} (ho : σ.2 m = some (oM m tw nb nt dy hn len fa wh nm sn hk kt kn kd hd)) {V : ThT} (ht : RMt G (m + 5) nt V σ) (hu : uqV nt V) {x : Int32} (hx : ¬ x = -1) : ACt l G yX12_whoseThing cX12_whoseThing 4 (some .int) 0 0 0 [.ref m, .int x] σ (dP (some (.int (heldBy V nt x))) σ) := by
  obtain ⟨gs, gw, gl, gr, t1, t2, t3, t4, hnt, hv⟩ := id ht
  refine ACt.intro (own := RX12) (nm := "whoseThing") mk_X12_whoseThing rfl rfl [some (.ref m), some (.int x), none, none] rfl (Nat.le_of_ble_eq_true rfl) (fun X hX hR => ?_)
  refine A_iconst (pc := 0) (v := (-1)) (by decide) hX dX12_whoseThing_0 ?_
  refine A_istore_n (pc := 1) (lv' := [_, _, _, _]) hX dX12_whoseThing_1 (Nat.le_of_ble_eq_true rfl) rfl rfl ?_
  refine A_iconst (pc := 2) (v := (nI 0)) (by decide) hX dX12_whoseThing_2 ?_
  refine A_istore_n (pc := 3) (lv' := [_, _, _, _]) hX dX12_whoseThing_3 (Nat.le_of_ble_eq_true rfl) rfl rfl ?_
  suffices hl : ∀ (k i : Nat), i ≤ nt → nt - i = k → AA G X 0 0 4 [some (.ref m), some (.int x), some (.int (lstV V x i)), some (.int (nI i))] [] σ from hl nt 0 (Nat.zero_le _) rfl
  intro k
  induction k with
  | zero =>
    intro i hi hk
    have e : nt = i := by omega
    subst e
    refine A_iload_n (pc := 4) rfl hX dX12_whoseThing_4 ?_
    refine A_aload_n (pc := 5) rfl hX dX12_whoseThing_5 ?_
    refine A_getf (pc := 6) hX fl_X12_115_12 dX12_whoseThing_6 (by repeat (first | assumption | exact aSet_s | exact aNew_s | refine lk_n ?_ (by omega) | refine lk_f (by assumption) ?_ (by omega) | refine lk_w ?_ (by omega))) (by exact rfl) ?_
    refine A_icmp_ge (pc := 9) 34 hX dX12_whoseThing_9 rfl (fun c9 => ?_) (fun c9 => ?_)
    · refine A_iload_n (pc := 34) rfl hX dX12_whoseThing_34 ?_
      refine A_iret (pc := 35) hX hR dX12_whoseThing_35 rfl rfl ?_
      exact ⟨by rw [lstV_held hu hx], rfl⟩
    · exact absurd (nI_le (Nat.le_refl _) (by omega)) c9
  | succ k ih =>
    intro i hi hk
    have hil : i < nt := by omega
    obtain ⟨w1, w2, w3, w4⟩ := hv i hil
    have hic := nI_clamp (n := i) (by omega)
    refine A_iload_n (pc := 4) rfl hX dX12_whoseThing_4 ?_
    refine A_aload_n (pc := 5) rfl hX dX12_whoseThing_5 ?_
    refine A_getf (pc := 6) hX fl_X12_115_12 dX12_whoseThing_6 (by repeat (first | assumption | exact aSet_s | exact aNew_s | refine lk_n ?_ (by omega) | refine lk_f (by assumption) ?_ (by omega) | refine lk_w ?_ (by omega))) (by exact rfl) ?_
    refine A_icmp_ge (pc := 9) 34 hX dX12_whoseThing_9 rfl (fun c9 => ?_) (fun c9 => ?_)
    · exact absurd c9 (nI_ge hil (by omega))
    · refine A_aload_n (pc := 12) rfl hX dX12_whoseThing_12 ?_
      refine A_getf (pc := 13) hX fl_X12_25_12 dX12_whoseThing_13 (by repeat (first | assumption | exact aSet_s | exact aNew_s | refine lk_n ?_ (by omega) | refine lk_f (by assumption) ?_ (by omega) | refine lk_w ?_ (by omega))) (by exact rfl) ?_
      refine A_iload_n (pc := 16) rfl hX dX12_whoseThing_16 ?_
      refine A_iald (pc := 17) hX dX12_whoseThing_17 (by repeat (first | assumption | exact aSet_s | exact aNew_s | refine lk_n ?_ (by omega) | refine lk_f (by assumption) ?_ (by omega) | refine lk_w ?_ (by omega))) (vp_in_nI (by omega) (by decide)) ?_
      refine A_top (y := (V i).2.1) (by rw [hic]; exact w2) ?_
      refine A_iload_n (pc := 18) rfl hX dX12_whoseThing_18 ?_
      refine A_icmp_ne (pc := 19) 26 hX dX12_whoseThing_19 rfl (fun c19 => ?_) (fun c19 => ?_)
      · refine A_iload_n (pc := 26) rfl hX dX12_whoseThing_26 ?_
        refine A_istore_n (pc := 27) (lv' := [_, _, _, _]) hX dX12_whoseThing_27 (Nat.le_of_ble_eq_true rfl) rfl rfl ?_
        refine A_iinc (pc := 28) (v := (nI (i + 1))) (lv' := [_, _, _, _]) hX dX12_whoseThing_28 rfl (nI_succ i).symm rfl rfl ?_
        refine A_goto (pc := 31) 4 hX dX12_whoseThing_31 rfl ?_
        have hs : lstV V x (i + 1) = lstV V x i := if_neg (fun q => c19 q)
        rw [← hs]
        exact ih (i + 1) (by omega) (by omega)
      · refine A_iload_n (pc := 22) rfl hX dX12_whoseThing_22 ?_
        refine A_goto (pc := 23) 27 hX dX12_whoseThing_23 rfl ?_
        refine A_istore_n (pc := 27) (lv' := [_, _, _, _]) hX dX12_whoseThing_27 (Nat.le_of_ble_eq_true rfl) rfl rfl ?_
        refine A_iinc (pc := 28) (v := (nI (i + 1))) (lv' := [_, _, _, _]) hX dX12_whoseThing_28 rfl (nI_succ i).symm rfl rfl ?_
        refine A_goto (pc := 31) 4 hX dX12_whoseThing_31 rfl ?_
        have hs : lstV V x (i + 1) = nI i := if_pos c19
        rw [← hs]
        exact ih (i + 1) (by omega) (by omega)
set_option maxRecDepth 100000 in
set_option maxHeartbeats 1000000 in
theorem ct_homeState (l : Launch) (G : aG) {m tw nb nt hn len kt kn : Nat} {dy fa nm kd : Int32} {wh hk : Bool} {sn hd : Int64} {σ : aS} (ho : σ.2 m = some (oM m tw nb nt dy hn len fa wh nm sn hk kt kn kd hd)) {B : BorT} (ha : RMa G m nb B σ) {V : ThT} (ht : RMt G (m + 5) nt V σ) (hV : okV nb nt V) {i : Nat} (hi : i < nt) : ACt l G yX12_homeState cX12_homeState 2 (some .int) 2 0 0 [.ref m, .int (nI i)] σ (dP (some (.int (nI (homeV B (V i))))) σ) := by
  obtain ⟨hnb, hok, gk, gt, gm, gd, e1, e2, e3, e4, e5⟩ := id ha
  obtain ⟨gs, gw, gl, gr, t1, t2, t3, t4, hnt, hv⟩ := id ht
  obtain ⟨w1, w2, w3, w4⟩ := hv i hi
  have hic := nI_clamp (n := i) (by omega)
  refine ACt.intro (own := RX12) (nm := "homeState") mk_X12_homeState rfl rfl [some (.ref m), some (.int (nI i))] rfl (Nat.le_of_ble_eq_true rfl) (fun X hX hR => ?_)
  refine A_aload_n (pc := 0) rfl hX dX12_homeState_0 ?_
  refine A_getf (pc := 1) hX fl_X12_25_12 dX12_homeState_1 (by repeat (first | assumption | exact aSet_s | exact aNew_s | refine lk_n ?_ (by omega) | refine lk_f (by assumption) ?_ (by omega) | refine lk_w ?_ (by omega))) (by exact rfl) ?_
  refine A_iload_n (pc := 4) rfl hX dX12_homeState_4 ?_
  refine A_iald (pc := 5) hX dX12_homeState_5 (by repeat (first | assumption | exact aSet_s | exact aNew_s | refine lk_n ?_ (by omega) | refine lk_f (by assumption) ?_ (by omega) | refine lk_w ?_ (by omega))) (vp_in_nI (by omega) (by decide)) ?_
  refine A_top (y := (V i).2.1) (by rw [hic]; exact w2) ?_
  refine A_iconst (pc := 6) (v := (-1)) (by decide) hX dX12_homeState_6 ?_
  refine A_icmp_ne (pc := 7) 19 hX dX12_homeState_7 rfl (fun c7 => ?_) (fun c7 => ?_)
  · obtain ⟨bb, hbb, hbe⟩ : ∃ b, b < nb ∧ (V i).2.1 = nI b := by
      rcases (hV i hi).2 with q | q
      · exact absurd q c7
      · exact q
    refine A_aload_n (pc := 19) rfl hX dX12_homeState_19 ?_
    refine A_aload_n (pc := 20) rfl hX dX12_homeState_20 ?_
    refine A_getf (pc := 21) hX fl_X12_25_12 dX12_homeState_21 (by repeat (first | assumption | exact aSet_s | exact aNew_s | refine lk_n ?_ (by omega) | refine lk_f (by assumption) ?_ (by omega) | refine lk_w ?_ (by omega))) (by exact rfl) ?_
    refine A_iload_n (pc := 24) rfl hX dX12_homeState_24 ?_
    refine A_iald (pc := 25) hX dX12_homeState_25 (by repeat (first | assumption | exact aSet_s | exact aNew_s | refine lk_n ?_ (by omega) | refine lk_f (by assumption) ?_ (by omega) | refine lk_w ?_ (by omega))) (vp_in_nI (by omega) (by decide)) ?_
    refine A_top (y := nI bb) (by rw [hic, w2]; exact hbe) ?_
    refine A_aload_n (pc := 26) rfl hX dX12_homeState_26 ?_
    refine A_getf (pc := 27) hX fl_X12_22_12 dX12_homeState_27 (by repeat (first | assumption | exact aSet_s | exact aNew_s | refine lk_n ?_ (by omega) | refine lk_f (by assumption) ?_ (by omega) | refine lk_w ?_ (by omega))) (by exact rfl) ?_
    refine A_iload_n (pc := 30) rfl hX dX12_homeState_30 ?_
    refine A_iald (pc := 31) hX dX12_homeState_31 (by repeat (first | assumption | exact aSet_s | exact aNew_s | refine lk_n ?_ (by omega) | refine lk_f (by assumption) ?_ (by omega) | refine lk_w ?_ (by omega))) (vp_in_nI (by omega) (by decide)) ?_
    refine A_top (y := nI (V i).1) (by rw [hic]; exact w1) ?_
    refine A_V2d (pc := 32) hX mk_X12_made lv_X12_141 dX12_homeState_32 (by repeat (first | assumption | exact aSet_s | exact aNew_s | refine lk_n ?_ (by omega) | refine lk_f (by assumption) ?_ (by omega) | refine lk_w ?_ (by omega))) (ct_made l G ho ha hbb (hV i hi).1) rfl (Nat.le_of_ble_eq_true rfl) (Nat.le_of_ble_eq_true rfl) (Nat.le_of_ble_eq_true rfl) (Nat.le_of_ble_eq_true rfl) (Nat.le_of_ble_eq_true rfl) ?_
    refine A_iret (pc := 35) hX hR dX12_homeState_35 rfl rfl ?_
    exact ⟨by rw [homeV, if_neg c7, hbe, nI_clamp (by omega)], rfl⟩
  · refine A_aload_n (pc := 10) rfl hX dX12_homeState_10 ?_
    refine A_getf (pc := 11) hX fl_X12_22_12 dX12_homeState_11 (by repeat (first | assumption | exact aSet_s | exact aNew_s | refine lk_n ?_ (by omega) | refine lk_f (by assumption) ?_ (by omega) | refine lk_w ?_ (by omega))) (by exact rfl) ?_
    refine A_iload_n (pc := 14) rfl hX dX12_homeState_14 ?_
    refine A_iald (pc := 15) hX dX12_homeState_15 (by repeat (first | assumption | exact aSet_s | exact aNew_s | refine lk_n ?_ (by omega) | refine lk_f (by assumption) ?_ (by omega) | refine lk_w ?_ (by omega))) (vp_in_nI (by omega) (by decide)) ?_
    refine A_top (y := nI (V i).1) (by rw [hic]; exact w1) ?_
    refine A_goto (pc := 16) 35 hX dX12_homeState_16 rfl ?_
    refine A_iret (pc := 35) hX hR dX12_homeState_35 rfl rfl ?_
    exact ⟨by rw [homeV, if_pos c7], rfl⟩
set_option maxRecDepth 100000 in
set_option maxHeartbeats 1000000 in
theorem ct_borrowerNow (l : Launch) (G : aG) {m tw nb nt hn len kt kn : Nat} {dy fa nm kd : Int32} {wh hk : Bool} {sn hd : Int64} {σ : aS} (ho : σ.2 m = some (oM m tw nb nt dy hn len fa wh nm sn hk kt kn kd hd)) {B : BorT} (ha : RMa G m nb B σ) {V : ThT} (ht : RMt G (m + 5) nt V σ) (hu : uqV nt V) {b c : Nat} (hb : b < nb) (hc : c < 6) : ACt l G yX12_borrowerNow cX12_borrowerNow 4 (some .int) 1 0 0 [.ref m, .int (nI b), .int (nI c)] σ (dP (some (.int (abN B nt V b c))) σ) := by
  obtain ⟨hnb, hok, gk, gt, gm, gd, e1, e2, e3, e4, e5⟩ := id ha
  obtain ⟨gs, gw, gl, gr, t1, t2, t3, t4, hnt, hv⟩ := id ht
  obtain ⟨v1, v2, v3, v4⟩ := e5 b hb
  have hbc := nI_clamp (n := b) (by omega)
  refine ACt.intro (own := RX12) (nm := "borrowerNow") mk_X12_borrowerNow rfl rfl [some (.ref m), some (.int (nI b)), some (.int (nI c)), none] rfl (Nat.le_of_ble_eq_true rfl) (fun X hX hR => ?_)
  refine A_aload_n (pc := 0) rfl hX dX12_borrowerNow_0 ?_
  refine A_iload_n (pc := 1) rfl hX dX12_borrowerNow_1 ?_
  refine A_V1d (pc := 2) hX mk_X12_whoseThing lv_X12_129 dX12_borrowerNow_2 (by repeat (first | assumption | exact aSet_s | exact aNew_s | refine lk_n ?_ (by omega) | refine lk_f (by assumption) ?_ (by omega) | refine lk_w ?_ (by omega))) (ct_whoseThing l G ho ht hu (nI_ne1 (by omega))) rfl (Nat.le_of_ble_eq_true rfl) (Nat.le_of_ble_eq_true rfl) (Nat.le_of_ble_eq_true rfl) (Nat.le_of_ble_eq_true rfl) (Nat.le_of_ble_eq_true rfl) ?_
  refine A_istore_n (pc := 5) (lv' := [_, _, _, _]) hX dX12_borrowerNow_5 (Nat.le_of_ble_eq_true rfl) rfl rfl ?_
  refine A_iload_n (pc := 6) rfl hX dX12_borrowerNow_6 ?_
  rcases (by omega : c = 0 ∨ c = 1 ∨ c = 2 ∨ c = 3 ∨ c = 4 ∨ c = 5) with rfl | rfl | rfl | rfl | rfl | rfl
  · refine A_tabIn (pc := 7) (off := 33) 40 hX dX12_borrowerNow_7 (by decide) (by decide) rfl rfl ?_
    refine A_aload_n (pc := 40) rfl hX dX12_borrowerNow_40 ?_
    refine A_getf (pc := 41) hX fl_X12_7_12 dX12_borrowerNow_41 (by repeat (first | assumption | exact aSet_s | exact aNew_s | refine lk_n ?_ (by omega) | refine lk_f (by assumption) ?_ (by omega) | refine lk_w ?_ (by omega))) (by exact rfl) ?_
    refine A_iload_n (pc := 44) rfl hX dX12_borrowerNow_44 ?_
    refine A_iald (pc := 45) hX dX12_borrowerNow_45 (by repeat (first | assumption | exact aSet_s | exact aNew_s | refine lk_n ?_ (by omega) | refine lk_f (by assumption) ?_ (by omega) | refine lk_w ?_ (by omega))) (vp_in_nI (by omega) (by decide)) ?_
    refine A_iret (pc := 46) hX hR dX12_borrowerNow_46 rfl rfl ?_
    exact ⟨by rw [hbc, v1]; rfl, rfl⟩
  · refine A_tabIn (pc := 7) (off := 40) 47 hX dX12_borrowerNow_7 (by decide) (by decide) rfl rfl ?_
    refine A_aload_n (pc := 47) rfl hX dX12_borrowerNow_47 ?_
    refine A_getf (pc := 48) hX fl_X12_13_12 dX12_borrowerNow_48 (by repeat (first | assumption | exact aSet_s | exact aNew_s | refine lk_n ?_ (by omega) | refine lk_f (by assumption) ?_ (by omega) | refine lk_w ?_ (by omega))) (by exact rfl) ?_
    refine A_iload_n (pc := 51) rfl hX dX12_borrowerNow_51 ?_
    refine A_iald (pc := 52) hX dX12_borrowerNow_52 (by repeat (first | assumption | exact aSet_s | exact aNew_s | refine lk_n ?_ (by omega) | refine lk_f (by assumption) ?_ (by omega) | refine lk_w ?_ (by omega))) (vp_in_nI (by omega) (by decide)) ?_
    refine A_iret (pc := 53) hX hR dX12_borrowerNow_53 rfl rfl ?_
    exact ⟨by rw [hbc, v2]; rfl, rfl⟩
  · refine A_tabIn (pc := 7) (off := 47) 54 hX dX12_borrowerNow_7 (by decide) (by decide) rfl rfl ?_
    refine A_aload_n (pc := 54) rfl hX dX12_borrowerNow_54 ?_
    refine A_getf (pc := 55) hX fl_X12_16_12 dX12_borrowerNow_55 (by repeat (first | assumption | exact aSet_s | exact aNew_s | refine lk_n ?_ (by omega) | refine lk_f (by assumption) ?_ (by omega) | refine lk_w ?_ (by omega))) (by exact rfl) ?_
    refine A_iload_n (pc := 58) rfl hX dX12_borrowerNow_58 ?_
    refine A_iald (pc := 59) hX dX12_borrowerNow_59 (by repeat (first | assumption | exact aSet_s | exact aNew_s | refine lk_n ?_ (by omega) | refine lk_f (by assumption) ?_ (by omega) | refine lk_w ?_ (by omega))) (vp_in_nI (by omega) (by decide)) ?_
    refine A_iret (pc := 60) hX hR dX12_borrowerNow_60 rfl rfl ?_
    exact ⟨by rw [hbc, v3]; rfl, rfl⟩
  · refine A_tabIn (pc := 7) (off := 54) 61 hX dX12_borrowerNow_7 (by decide) (by decide) rfl rfl ?_
    refine A_aload_n (pc := 61) rfl hX dX12_borrowerNow_61 ?_
    refine A_getf (pc := 62) hX fl_X12_19_12 dX12_borrowerNow_62 (by repeat (first | assumption | exact aSet_s | exact aNew_s | refine lk_n ?_ (by omega) | refine lk_f (by assumption) ?_ (by omega) | refine lk_w ?_ (by omega))) (by exact rfl) ?_
    refine A_iload_n (pc := 65) rfl hX dX12_borrowerNow_65 ?_
    refine A_iald (pc := 66) hX dX12_borrowerNow_66 (by repeat (first | assumption | exact aSet_s | exact aNew_s | refine lk_n ?_ (by omega) | refine lk_f (by assumption) ?_ (by omega) | refine lk_w ?_ (by omega))) (vp_in_nI (by omega) (by decide)) ?_
    refine A_iret (pc := 67) hX hR dX12_borrowerNow_67 rfl rfl ?_
    exact ⟨by rw [hbc, v4]; rfl, rfl⟩
  · refine A_tabIn (pc := 7) (off := 61) 68 hX dX12_borrowerNow_7 (by decide) (by decide) rfl rfl ?_
    refine A_iload_n (pc := 68) rfl hX dX12_borrowerNow_68 ?_
    refine A_iret (pc := 69) hX hR dX12_borrowerNow_69 rfl rfl ?_
    exact ⟨rfl, rfl⟩
  · refine A_tabOut (pc := 7) 70 hX dX12_borrowerNow_7 (by decide) rfl ?_
    rcases hfind_or V (nI b) nt 0 with hq | ⟨j, -, hj, hq, -⟩
    · have hq : heldBy V nt (nI b) = -1 := hq
      refine A_iload_n (pc := 70) rfl hX dX12_borrowerNow_70 ?_
      refine A_iconst (pc := 71) (v := (-1)) (by decide) hX dX12_borrowerNow_71 ?_
      refine A_icmp_ne (pc := 72) 79 hX dX12_borrowerNow_72 rfl (fun c72 => ?_) (fun c72 => ?_)
      · exact absurd hq c72
      · refine A_iconst (pc := 75) (v := (nI 0)) (by decide) hX dX12_borrowerNow_75 ?_
        refine A_goto (pc := 76) 85 hX dX12_borrowerNow_76 rfl ?_
        refine A_iret (pc := 85) hX hR dX12_borrowerNow_85 rfl rfl ?_
        exact ⟨by show _ = some (Value.int (leftAt V nt (nI b))); rw [leftAt, if_pos hq]; rfl, rfl⟩
    · have hq : heldBy V nt (nI b) = nI j := hq
      have hjl : j < nt := by omega
      have hjc := nI_clamp (n := j) (by omega)
      rw [hq]
      refine A_iload_n (pc := 70) rfl hX dX12_borrowerNow_70 ?_
      refine A_iconst (pc := 71) (v := (-1)) (by decide) hX dX12_borrowerNow_71 ?_
      refine A_icmp_ne (pc := 72) 79 hX dX12_borrowerNow_72 rfl (fun c72 => ?_) (fun c72 => ?_)
      · refine A_aload_n (pc := 79) rfl hX dX12_borrowerNow_79 ?_
        refine A_getf (pc := 80) hX fl_X12_28_12 dX12_borrowerNow_80 (by repeat (first | assumption | exact aSet_s | exact aNew_s | refine lk_n ?_ (by omega) | refine lk_f (by assumption) ?_ (by omega) | refine lk_w ?_ (by omega))) (by exact rfl) ?_
        refine A_iload_n (pc := 83) rfl hX dX12_borrowerNow_83 ?_
        refine A_iald (pc := 84) hX dX12_borrowerNow_84 (by repeat (first | assumption | exact aSet_s | exact aNew_s | refine lk_n ?_ (by omega) | refine lk_f (by assumption) ?_ (by omega) | refine lk_w ?_ (by omega))) (vp_in_nI (by omega) (by decide)) ?_
        refine A_iret (pc := 85) hX hR dX12_borrowerNow_85 rfl rfl ?_
        exact ⟨by show _ = some (Value.int (leftAt V nt (nI b))); rw [leftAt, if_neg (by rw [hq]; exact nI_ne1 (by omega)), hq, hjc, (hv j hjl).2.2.1], rfl⟩
      · exact absurd c72 (nI_ne1 (by omega))
set_option maxRecDepth 100000 in
set_option maxHeartbeats 1000000 in
theorem ct_aboutM (l : Launch) (G : aG) {m tw nb nt hn len kt kn : Nat} {dy fa nm kd : Int32} {wh hk : Bool} {sn hd : Int64} {σ : aS} (ho : σ.2 m = some (oM m tw nb nt dy hn len fa wh nm sn hk kt kn kd hd)) {B : BorT} (ha : RMa G m nb B σ) {V : ThT} (ht : RMt G (m + 5) nt V σ) (hu : uqV nt V) {x w : Int32} : ACt l G yX12_about cX12_about 3 (some .int) 2 0 0 [.ref m, .int x, .int w] σ (dP (some (.int (an2 nb 6 (abN B nt V) x w))) σ) := by
  have hnb := ha.1
  refine ACt.intro (own := RX12) (nm := "about") mk_X12_about rfl rfl [some (.ref m), some (.int x), some (.int w)] rfl (Nat.le_of_ble_eq_true rfl) (fun X hX hR => ?_)
  refine A_aload_n (pc := 0) rfl hX dX12_about_0 ?_
  refine A_iload_n (pc := 1) rfl hX dX12_about_1 ?_
  refine A_V1d (pc := 2) hX mk_X12_isBorrower lv_X12_132 dX12_about_2 (by repeat (first | assumption | exact aSet_s | exact aNew_s | refine lk_n ?_ (by omega) | refine lk_f (by assumption) ?_ (by omega) | refine lk_w ?_ (by omega))) (ct_isBorrower l G ho hnb) rfl (Nat.le_of_ble_eq_true rfl) (Nat.le_of_ble_eq_true rfl) (Nat.le_of_ble_eq_true rfl) (Nat.le_of_ble_eq_true rfl) (Nat.le_of_ble_eq_true rfl) ?_
  refine A_if_ne (pc := 5) 13 hX dX12_about_5 rfl (fun c5 => ?_) (fun c5 => ?_)
  · have hin := bI_ne c5
    obtain ⟨b, hb1, rfl⟩ := inN_t (by omega) hin
    refine A_iload_n (pc := 13) rfl hX dX12_about_13 ?_
    refine A_iconst (pc := 14) (v := (nI 0)) (by decide) hX dX12_about_14 ?_
    refine A_iconst (pc := 15) (v := (nI 5)) (by decide) hX dX12_about_15 ?_
    refine A_S3d (pc := 16) hX mk_X12_within ls_X12_77 dX12_about_16 (ct_within l G ) rfl (Nat.le_of_ble_eq_true rfl) (Nat.le_of_ble_eq_true rfl) (Nat.le_of_ble_eq_true rfl) (Nat.le_of_ble_eq_true rfl) (Nat.le_of_ble_eq_true rfl) ?_
    refine A_top (y := bI (inN 6 w)) (by rw [winB_in (by decide)]) ?_
    refine A_if_eq (pc := 19) 31 hX dX12_about_19 rfl (fun c19 => ?_) (fun c19 => ?_)
    · have hc := bI_f c19
      refine A_bipush (pc := 31) (v := (-102)) (by decide) hX dX12_about_31 ?_
      refine A_iret (pc := 33) hX hR dX12_about_33 rfl rfl ?_
      exact ⟨by rw [an2_2 hin hc], rfl⟩
    · have hc := bI_ne c19
      obtain ⟨c, hc1, rfl⟩ := inN_t (by decide) hc
      refine A_aload_n (pc := 22) rfl hX dX12_about_22 ?_
      refine A_iload_n (pc := 23) rfl hX dX12_about_23 ?_
      refine A_iload_n (pc := 24) rfl hX dX12_about_24 ?_
      refine A_V2d (pc := 25) hX mk_X12_borrowerNow lv_X12_135 dX12_about_25 (by repeat (first | assumption | exact aSet_s | exact aNew_s | refine lk_n ?_ (by omega) | refine lk_f (by assumption) ?_ (by omega) | refine lk_w ?_ (by omega))) (ct_borrowerNow l G ho ha ht hu hb1 hc1) rfl (Nat.le_of_ble_eq_true rfl) (Nat.le_of_ble_eq_true rfl) (Nat.le_of_ble_eq_true rfl) (Nat.le_of_ble_eq_true rfl) (Nat.le_of_ble_eq_true rfl) ?_
      refine A_goto (pc := 28) 33 hX dX12_about_28 rfl ?_
      refine A_iret (pc := 33) hX hR dX12_about_33 rfl rfl ?_
      exact ⟨by rw [an2_in (by omega) (by decide) hb1 hc1], rfl⟩
  · have hno := bI_f c5
    refine A_bipush (pc := 8) (v := (-101)) (by decide) hX dX12_about_8 ?_
    refine A_goto (pc := 10) 33 hX dX12_about_10 rfl ?_
    refine A_iret (pc := 33) hX hR dX12_about_33 rfl rfl ?_
    exact ⟨by rw [an2_1 hno], rfl⟩
set_option maxRecDepth 100000 in
set_option maxHeartbeats 1000000 in
theorem ct_asM (l : Launch) (G : aG) {m tw nb nt hn len kt kn : Nat} {dy fa nm kd : Int32} {wh hk : Bool} {sn hd : Int64} {σ : aS} (ho : σ.2 m = some (oM m tw nb nt dy hn len fa wh nm sn hk kt kn kd hd)) {B : BorT} (ha : RMa G m nb B σ) {x w : Int32} : ACt l G yX12_as cX12_as 4 (some .int) 2 0 0 [.ref m, .int x, .int w] σ (dP (some (.int (an2 nb 5 (asN B) x w))) σ) := by
  obtain ⟨hnb, hok, gk, gt, gm, gd, e1, e2, e3, e4, e5⟩ := id ha
  refine ACt.intro (own := RX12) (nm := "as") mk_X12_as rfl rfl [some (.ref m), some (.int x), some (.int w), none] rfl (Nat.le_of_ble_eq_true rfl) (fun X hX hR => ?_)
  refine A_aload_n (pc := 0) rfl hX dX12_as_0 ?_
  refine A_iload_n (pc := 1) rfl hX dX12_as_1 ?_
  refine A_V1d (pc := 2) hX mk_X12_isBorrower lv_X12_132 dX12_as_2 (by repeat (first | assumption | exact aSet_s | exact aNew_s | refine lk_n ?_ (by omega) | refine lk_f (by assumption) ?_ (by omega) | refine lk_w ?_ (by omega))) (ct_isBorrower l G ho hnb) rfl (Nat.le_of_ble_eq_true rfl) (Nat.le_of_ble_eq_true rfl) (Nat.le_of_ble_eq_true rfl) (Nat.le_of_ble_eq_true rfl) (Nat.le_of_ble_eq_true rfl) ?_
  refine A_if_ne (pc := 5) 11 hX dX12_as_5 rfl (fun c5 => ?_) (fun c5 => ?_)
  · have hin := bI_ne c5
    obtain ⟨b, hb1, rfl⟩ := inN_t (by omega) hin
    obtain ⟨v1, v2, v3, v4⟩ := e5 b hb1
    have hbc := nI_clamp (n := b) (by omega)
    have hk4 := (hok b hb1).1
    refine A_iload_n (pc := 11) rfl hX dX12_as_11 ?_
    refine A_iconst (pc := 12) (v := (nI 0)) (by decide) hX dX12_as_12 ?_
    refine A_iconst (pc := 13) (v := (nI 4)) (by decide) hX dX12_as_13 ?_
    refine A_S3d (pc := 14) hX mk_X12_within ls_X12_77 dX12_as_14 (ct_within l G ) rfl (Nat.le_of_ble_eq_true rfl) (Nat.le_of_ble_eq_true rfl) (Nat.le_of_ble_eq_true rfl) (Nat.le_of_ble_eq_true rfl) (Nat.le_of_ble_eq_true rfl) ?_
    refine A_top (y := bI (inN 5 w)) (by rw [winB_in (by decide)]) ?_
    refine A_if_ne (pc := 17) 23 hX dX12_as_17 rfl (fun c17 => ?_) (fun c17 => ?_)
    · have hc := bI_ne c17
      obtain ⟨c, hc1, rfl⟩ := inN_t (by decide) hc
      refine A_aload_n (pc := 23) rfl hX dX12_as_23 ?_
      refine A_getf (pc := 24) hX fl_X12_7_12 dX12_as_24 (by repeat (first | assumption | exact aSet_s | exact aNew_s | refine lk_n ?_ (by omega) | refine lk_f (by assumption) ?_ (by omega) | refine lk_w ?_ (by omega))) (by exact rfl) ?_
      refine A_iload_n (pc := 27) rfl hX dX12_as_27 ?_
      refine A_iald (pc := 28) hX dX12_as_28 (by repeat (first | assumption | exact aSet_s | exact aNew_s | refine lk_n ?_ (by omega) | refine lk_f (by assumption) ?_ (by omega) | refine lk_w ?_ (by omega))) (vp_in_nI (by omega) (by decide)) ?_
      refine A_top (y := nI (B b).1) (by rw [hbc]; exact v1) ?_
      refine A_istore_n (pc := 29) (lv' := [_, _, _, _]) hX dX12_as_29 (Nat.le_of_ble_eq_true rfl) rfl rfl ?_
      refine A_iload_n (pc := 30) rfl hX dX12_as_30 ?_
      refine A_if_eq (pc := 31) 49 hX dX12_as_31 rfl (fun c31 => ?_) (fun c31 => ?_)
      · refine A_iload_n (pc := 49) rfl hX dX12_as_49 ?_
        refine A_goto (pc := 50) 54 hX dX12_as_50 rfl ?_
        refine A_iret (pc := 54) hX hR dX12_as_54 rfl rfl ?_
        have hK : isK (B b).1 c = true := decide_eq_true (.inl ((nI_eq (b := 0) (by omega) (by decide)).mp c31))
        exact ⟨by rw [an2_in (by omega) (by decide) hb1 hc1, asN, if_pos hK], rfl⟩
      · refine A_iload_n (pc := 34) rfl hX dX12_as_34 ?_
        refine A_iload_n (pc := 35) rfl hX dX12_as_35 ?_
        refine A_icmp_eq (pc := 36) 49 hX dX12_as_36 rfl (fun c36 => ?_) (fun c36 => ?_)
        · refine A_iload_n (pc := 49) rfl hX dX12_as_49 ?_
          refine A_goto (pc := 50) 54 hX dX12_as_50 rfl ?_
          refine A_iret (pc := 54) hX hR dX12_as_54 rfl rfl ?_
          have hK : isK (B b).1 c = true := decide_eq_true (.inr (.inl ((nI_eq (by omega) (by omega)).mp c36)))
          exact ⟨by rw [an2_in (by omega) (by decide) hb1 hc1, asN, if_pos hK], rfl⟩
        · refine A_iload_n (pc := 39) rfl hX dX12_as_39 ?_
          refine A_iconst (pc := 40) (v := (nI 1)) (by decide) hX dX12_as_40 ?_
          refine A_icmp_ne (pc := 41) 53 hX dX12_as_41 rfl (fun c41 => ?_) (fun c41 => ?_)
          · refine A_iconst (pc := 53) (v := (-1)) (by decide) hX dX12_as_53 ?_
            refine A_iret (pc := 54) hX hR dX12_as_54 rfl rfl ?_
            have hK : ¬ isK (B b).1 c = true := fun q => by
              rcases of_decide_eq_true q with q | q | q
              · exact c31 (by rw [q]; rfl)
              · exact c36 (by rw [q])
              · exact c41 (by rw [q.1])
            exact ⟨by rw [an2_in (by omega) (by decide) hb1 hc1, asN, if_neg hK], rfl⟩
          · refine A_iload_n (pc := 44) rfl hX dX12_as_44 ?_
            refine A_iconst (pc := 45) (v := (nI 4)) (by decide) hX dX12_as_45 ?_
            refine A_icmp_ne (pc := 46) 53 hX dX12_as_46 rfl (fun c46 => ?_) (fun c46 => ?_)
            · refine A_iconst (pc := 53) (v := (-1)) (by decide) hX dX12_as_53 ?_
              refine A_iret (pc := 54) hX hR dX12_as_54 rfl rfl ?_
              have hK : ¬ isK (B b).1 c = true := fun q => by
                rcases of_decide_eq_true q with q | q | q
                · exact c31 (by rw [q]; rfl)
                · exact c36 (by rw [q])
                · exact c46 (by rw [q.2])
              exact ⟨by rw [an2_in (by omega) (by decide) hb1 hc1, asN, if_neg hK], rfl⟩
            · refine A_iload_n (pc := 49) rfl hX dX12_as_49 ?_
              refine A_goto (pc := 50) 54 hX dX12_as_50 rfl ?_
              refine A_iret (pc := 54) hX hR dX12_as_54 rfl rfl ?_
              have hK : isK (B b).1 c = true := decide_eq_true (.inr (.inr ⟨(nI_eq (b := 1) (by omega) (by decide)).mp c41, (nI_eq (b := 4) (by omega) (by decide)).mp c46⟩))
              exact ⟨by rw [an2_in (by omega) (by decide) hb1 hc1, asN, if_pos hK], rfl⟩
    · have hc := bI_f c17
      refine A_bipush (pc := 20) (v := (-102)) (by decide) hX dX12_as_20 ?_
      refine A_iret (pc := 22) hX hR dX12_as_22 rfl rfl ?_
      exact ⟨by rw [an2_2 hin hc], rfl⟩
  · have hno := bI_f c5
    refine A_bipush (pc := 8) (v := (-101)) (by decide) hX dX12_as_8 ?_
    refine A_iret (pc := 10) hX hR dX12_as_10 rfl rfl ?_
    exact ⟨by rw [an2_1 hno], rfl⟩
set_option maxRecDepth 100000 in
set_option maxHeartbeats 1000000 in
theorem ct_thingNow (l : Launch) (G : aG) {m tw nb nt hn len kt kn : Nat} {dy fa nm kd : Int32} {wh hk : Bool} {sn hd : Int64} {σ : aS} (ho : σ.2 m = some (oM m tw nb nt dy hn len fa wh nm sn hk kt kn kd hd)) {B : BorT} (ha : RMa G m nb B σ) {V : ThT} (ht : RMt G (m + 5) nt V σ) (hV : okV nb nt V) {i c : Nat} (hi : i < nt) (hc : c < 7) : ACt l G yX12_thingNow cX12_thingNow 3 (some .int) 3 0 0 [.ref m, .int (nI i), .int (nI c)] σ (dP (some (.int (thN B V i c))) σ) := by
  obtain ⟨gs, gw, gl, gr, t1, t2, t3, t4, hnt, hv⟩ := id ht
  obtain ⟨w1, w2, w3, w4⟩ := hv i hi
  have hic := nI_clamp (n := i) (by omega)
  refine ACt.intro (own := RX12) (nm := "thingNow") mk_X12_thingNow rfl rfl [some (.ref m), some (.int (nI i)), some (.int (nI c))] rfl (Nat.le_of_ble_eq_true rfl) (fun X hX hR => ?_)
  refine A_iload_n (pc := 0) rfl hX dX12_thingNow_0 ?_
  rcases (by omega : c = 0 ∨ c = 1 ∨ c = 2 ∨ c = 3 ∨ c = 4 ∨ c = 5 ∨ c = 6) with rfl | rfl | rfl | rfl | rfl | rfl | rfl
  · refine A_tabOut (pc := 1) 59 hX dX12_thingNow_1 (by decide) rfl ?_
    refine A_aload_n (pc := 59) rfl hX dX12_thingNow_59 ?_
    refine A_getf (pc := 60) hX fl_X12_22_12 dX12_thingNow_60 (by repeat (first | assumption | exact aSet_s | exact aNew_s | refine lk_n ?_ (by omega) | refine lk_f (by assumption) ?_ (by omega) | refine lk_w ?_ (by omega))) (by exact rfl) ?_
    refine A_iload_n (pc := 63) rfl hX dX12_thingNow_63 ?_
    refine A_iald (pc := 64) hX dX12_thingNow_64 (by repeat (first | assumption | exact aSet_s | exact aNew_s | refine lk_n ?_ (by omega) | refine lk_f (by assumption) ?_ (by omega) | refine lk_w ?_ (by omega))) (vp_in_nI (by omega) (by decide)) ?_
    refine A_top (y := nI (V i).1) (by rw [hic]; exact w1) ?_
    refine A_iload_n (pc := 65) rfl hX dX12_thingNow_65 ?_
    refine A_S2d (pc := 66) hX mk_X12_traitIn ls_X12_121 dX12_thingNow_66 (ct_traitIn l G (hV i hi).1 (by decide)) rfl (Nat.le_of_ble_eq_true rfl) (Nat.le_of_ble_eq_true rfl) (Nat.le_of_ble_eq_true rfl) (Nat.le_of_ble_eq_true rfl) (Nat.le_of_ble_eq_true rfl) ?_
    refine A_iret (pc := 69) hX hR dX12_thingNow_69 rfl rfl ?_
    exact ⟨rfl, rfl⟩
  · refine A_tabOut (pc := 1) 59 hX dX12_thingNow_1 (by decide) rfl ?_
    refine A_aload_n (pc := 59) rfl hX dX12_thingNow_59 ?_
    refine A_getf (pc := 60) hX fl_X12_22_12 dX12_thingNow_60 (by repeat (first | assumption | exact aSet_s | exact aNew_s | refine lk_n ?_ (by omega) | refine lk_f (by assumption) ?_ (by omega) | refine lk_w ?_ (by omega))) (by exact rfl) ?_
    refine A_iload_n (pc := 63) rfl hX dX12_thingNow_63 ?_
    refine A_iald (pc := 64) hX dX12_thingNow_64 (by repeat (first | assumption | exact aSet_s | exact aNew_s | refine lk_n ?_ (by omega) | refine lk_f (by assumption) ?_ (by omega) | refine lk_w ?_ (by omega))) (vp_in_nI (by omega) (by decide)) ?_
    refine A_top (y := nI (V i).1) (by rw [hic]; exact w1) ?_
    refine A_iload_n (pc := 65) rfl hX dX12_thingNow_65 ?_
    refine A_S2d (pc := 66) hX mk_X12_traitIn ls_X12_121 dX12_thingNow_66 (ct_traitIn l G (hV i hi).1 (by decide)) rfl (Nat.le_of_ble_eq_true rfl) (Nat.le_of_ble_eq_true rfl) (Nat.le_of_ble_eq_true rfl) (Nat.le_of_ble_eq_true rfl) (Nat.le_of_ble_eq_true rfl) ?_
    refine A_iret (pc := 69) hX hR dX12_thingNow_69 rfl rfl ?_
    exact ⟨rfl, rfl⟩
  · refine A_tabOut (pc := 1) 59 hX dX12_thingNow_1 (by decide) rfl ?_
    refine A_aload_n (pc := 59) rfl hX dX12_thingNow_59 ?_
    refine A_getf (pc := 60) hX fl_X12_22_12 dX12_thingNow_60 (by repeat (first | assumption | exact aSet_s | exact aNew_s | refine lk_n ?_ (by omega) | refine lk_f (by assumption) ?_ (by omega) | refine lk_w ?_ (by omega))) (by exact rfl) ?_
    refine A_iload_n (pc := 63) rfl hX dX12_thingNow_63 ?_
    refine A_iald (pc := 64) hX dX12_thingNow_64 (by repeat (first | assumption | exact aSet_s | exact aNew_s | refine lk_n ?_ (by omega) | refine lk_f (by assumption) ?_ (by omega) | refine lk_w ?_ (by omega))) (vp_in_nI (by omega) (by decide)) ?_
    refine A_top (y := nI (V i).1) (by rw [hic]; exact w1) ?_
    refine A_iload_n (pc := 65) rfl hX dX12_thingNow_65 ?_
    refine A_S2d (pc := 66) hX mk_X12_traitIn ls_X12_121 dX12_thingNow_66 (ct_traitIn l G (hV i hi).1 (by decide)) rfl (Nat.le_of_ble_eq_true rfl) (Nat.le_of_ble_eq_true rfl) (Nat.le_of_ble_eq_true rfl) (Nat.le_of_ble_eq_true rfl) (Nat.le_of_ble_eq_true rfl) ?_
    refine A_iret (pc := 69) hX hR dX12_thingNow_69 rfl rfl ?_
    exact ⟨rfl, rfl⟩
  · refine A_tabIn (pc := 1) (off := 31) 32 hX dX12_thingNow_1 (by decide) (by decide) rfl rfl ?_
    refine A_aload_n (pc := 32) rfl hX dX12_thingNow_32 ?_
    refine A_getf (pc := 33) hX fl_X12_22_12 dX12_thingNow_33 (by repeat (first | assumption | exact aSet_s | exact aNew_s | refine lk_n ?_ (by omega) | refine lk_f (by assumption) ?_ (by omega) | refine lk_w ?_ (by omega))) (by exact rfl) ?_
    refine A_iload_n (pc := 36) rfl hX dX12_thingNow_36 ?_
    refine A_iald (pc := 37) hX dX12_thingNow_37 (by repeat (first | assumption | exact aSet_s | exact aNew_s | refine lk_n ?_ (by omega) | refine lk_f (by assumption) ?_ (by omega) | refine lk_w ?_ (by omega))) (vp_in_nI (by omega) (by decide)) ?_
    refine A_top (y := nI (V i).1) (by rw [hic]; exact w1) ?_
    refine A_iret (pc := 38) hX hR dX12_thingNow_38 rfl rfl ?_
    exact ⟨rfl, rfl⟩
  · refine A_tabIn (pc := 1) (off := 38) 39 hX dX12_thingNow_1 (by decide) (by decide) rfl rfl ?_
    refine A_aload_n (pc := 39) rfl hX dX12_thingNow_39 ?_
    refine A_getf (pc := 40) hX fl_X12_25_12 dX12_thingNow_40 (by repeat (first | assumption | exact aSet_s | exact aNew_s | refine lk_n ?_ (by omega) | refine lk_f (by assumption) ?_ (by omega) | refine lk_w ?_ (by omega))) (by exact rfl) ?_
    refine A_iload_n (pc := 43) rfl hX dX12_thingNow_43 ?_
    refine A_iald (pc := 44) hX dX12_thingNow_44 (by repeat (first | assumption | exact aSet_s | exact aNew_s | refine lk_n ?_ (by omega) | refine lk_f (by assumption) ?_ (by omega) | refine lk_w ?_ (by omega))) (vp_in_nI (by omega) (by decide)) ?_
    refine A_top (y := (V i).2.1) (by rw [hic]; exact w2) ?_
    refine A_iret (pc := 45) hX hR dX12_thingNow_45 rfl rfl ?_
    exact ⟨rfl, rfl⟩
  · refine A_tabIn (pc := 1) (off := 45) 46 hX dX12_thingNow_1 (by decide) (by decide) rfl rfl ?_
    refine A_aload_n (pc := 46) rfl hX dX12_thingNow_46 ?_
    refine A_getf (pc := 47) hX fl_X12_31_12 dX12_thingNow_47 (by repeat (first | assumption | exact aSet_s | exact aNew_s | refine lk_n ?_ (by omega) | refine lk_f (by assumption) ?_ (by omega) | refine lk_w ?_ (by omega))) (by exact rfl) ?_
    refine A_iload_n (pc := 50) rfl hX dX12_thingNow_50 ?_
    refine A_iald (pc := 51) hX dX12_thingNow_51 (by repeat (first | assumption | exact aSet_s | exact aNew_s | refine lk_n ?_ (by omega) | refine lk_f (by assumption) ?_ (by omega) | refine lk_w ?_ (by omega))) (vp_in_nI (by omega) (by decide)) ?_
    refine A_top (y := (V i).2.2.2) (by rw [hic]; exact w4) ?_
    refine A_iret (pc := 52) hX hR dX12_thingNow_52 rfl rfl ?_
    exact ⟨rfl, rfl⟩
  · refine A_tabIn (pc := 1) (off := 52) 53 hX dX12_thingNow_1 (by decide) (by decide) rfl rfl ?_
    refine A_aload_n (pc := 53) rfl hX dX12_thingNow_53 ?_
    refine A_iload_n (pc := 54) rfl hX dX12_thingNow_54 ?_
    refine A_V1d (pc := 55) hX mk_X12_homeState lv_X12_144 dX12_thingNow_55 (by repeat (first | assumption | exact aSet_s | exact aNew_s | refine lk_n ?_ (by omega) | refine lk_f (by assumption) ?_ (by omega) | refine lk_w ?_ (by omega))) (ct_homeState l G ho ha ht hV hi) rfl (Nat.le_of_ble_eq_true rfl) (Nat.le_of_ble_eq_true rfl) (Nat.le_of_ble_eq_true rfl) (Nat.le_of_ble_eq_true rfl) (Nat.le_of_ble_eq_true rfl) ?_
    refine A_iret (pc := 58) hX hR dX12_thingNow_58 rfl rfl ?_
    exact ⟨rfl, rfl⟩
set_option maxRecDepth 100000 in
set_option maxHeartbeats 1000000 in
theorem ct_thingOfM (l : Launch) (G : aG) {m tw nb nt hn len kt kn : Nat} {dy fa nm kd : Int32} {wh hk : Bool} {sn hd : Int64} {σ : aS} (ho : σ.2 m = some (oM m tw nb nt dy hn len fa wh nm sn hk kt kn kd hd)) {B : BorT} (ha : RMa G m nb B σ) {V : ThT} (ht : RMt G (m + 5) nt V σ) (hV : okV nb nt V) {x w : Int32} : ACt l G yX12_thingOf cX12_thingOf 3 (some .int) 4 0 0 [.ref m, .int x, .int w] σ (dP (some (.int (an2 nt 7 (thN B V) x w))) σ) := by
  have hnt : nt ≤ 4 := by obtain ⟨_, _, _, _, _, _, _, _, q, _⟩ := id ht; exact q
  refine ACt.intro (own := RX12) (nm := "thingOf") mk_X12_thingOf rfl rfl [some (.ref m), some (.int x), some (.int w)] rfl (Nat.le_of_ble_eq_true rfl) (fun X hX hR => ?_)
  refine A_aload_n (pc := 0) rfl hX dX12_thingOf_0 ?_
  refine A_iload_n (pc := 1) rfl hX dX12_thingOf_1 ?_
  refine A_V1d (pc := 2) hX mk_X12_isThing lv_X12_147 dX12_thingOf_2 (by repeat (first | assumption | exact aSet_s | exact aNew_s | refine lk_n ?_ (by omega) | refine lk_f (by assumption) ?_ (by omega) | refine lk_w ?_ (by omega))) (ct_isThing l G ho hnt) rfl (Nat.le_of_ble_eq_true rfl) (Nat.le_of_ble_eq_true rfl) (Nat.le_of_ble_eq_true rfl) (Nat.le_of_ble_eq_true rfl) (Nat.le_of_ble_eq_true rfl) ?_
  refine A_if_ne (pc := 5) 13 hX dX12_thingOf_5 rfl (fun c5 => ?_) (fun c5 => ?_)
  · have hin := bI_ne c5
    obtain ⟨i, hi1, rfl⟩ := inN_t (by omega) hin
    refine A_iload_n (pc := 13) rfl hX dX12_thingOf_13 ?_
    refine A_iconst (pc := 14) (v := (nI 0)) (by decide) hX dX12_thingOf_14 ?_
    refine A_bipush (pc := 15) (v := (nI 6)) (by decide) hX dX12_thingOf_15 ?_
    refine A_S3d (pc := 17) hX mk_X12_within ls_X12_77 dX12_thingOf_17 (ct_within l G ) rfl (Nat.le_of_ble_eq_true rfl) (Nat.le_of_ble_eq_true rfl) (Nat.le_of_ble_eq_true rfl) (Nat.le_of_ble_eq_true rfl) (Nat.le_of_ble_eq_true rfl) ?_
    refine A_top (y := bI (inN 7 w)) (by rw [winB_in (by decide)]) ?_
    refine A_if_eq (pc := 20) 32 hX dX12_thingOf_20 rfl (fun c20 => ?_) (fun c20 => ?_)
    · have hc := bI_f c20
      refine A_bipush (pc := 32) (v := (-102)) (by decide) hX dX12_thingOf_32 ?_
      refine A_iret (pc := 34) hX hR dX12_thingOf_34 rfl rfl ?_
      exact ⟨by rw [an2_2 hin hc], rfl⟩
    · have hc := bI_ne c20
      obtain ⟨c, hc1, rfl⟩ := inN_t (by decide) hc
      refine A_aload_n (pc := 23) rfl hX dX12_thingOf_23 ?_
      refine A_iload_n (pc := 24) rfl hX dX12_thingOf_24 ?_
      refine A_iload_n (pc := 25) rfl hX dX12_thingOf_25 ?_
      refine A_V2d (pc := 26) hX mk_X12_thingNow lv_X12_150 dX12_thingOf_26 (by repeat (first | assumption | exact aSet_s | exact aNew_s | refine lk_n ?_ (by omega) | refine lk_f (by assumption) ?_ (by omega) | refine lk_w ?_ (by omega))) (ct_thingNow l G ho ha ht hV hi1 hc1) rfl (Nat.le_of_ble_eq_true rfl) (Nat.le_of_ble_eq_true rfl) (Nat.le_of_ble_eq_true rfl) (Nat.le_of_ble_eq_true rfl) (Nat.le_of_ble_eq_true rfl) ?_
      refine A_goto (pc := 29) 34 hX dX12_thingOf_29 rfl ?_
      refine A_iret (pc := 34) hX hR dX12_thingOf_34 rfl rfl ?_
      exact ⟨by rw [an2_in (by omega) (by decide) hi1 hc1], rfl⟩
  · have hno := bI_f c5
    refine A_bipush (pc := 8) (v := (-101)) (by decide) hX dX12_thingOf_8 ?_
    refine A_goto (pc := 10) 34 hX dX12_thingOf_10 rfl ?_
    refine A_iret (pc := 34) hX hR dX12_thingOf_34 rfl rfl ?_
    exact ⟨by rw [an2_1 hno], rfl⟩
set_option maxRecDepth 100000 in
set_option maxHeartbeats 1000000 in
theorem ct_byM (l : Launch) (G : aG) {m tw nb nt hn len kt kn : Nat} {dy fa nm kd : Int32} {wh hk : Bool} {sn hd : Int64} {σ : aS} (ho : σ.2 m = some (oM m tw nb nt dy hn len fa wh nm sn hk kt kn kd hd)) {B : BorT} (ha : RMa G m nb B σ) {x s : Int32} : ACt l G yX12_by cX12_by 3 (some .int) 2 0 0 [.ref m, .int x, .int s] σ (dP (some (.int (an2 nb 512 (fun b s => nI (mkB B b s)) x s))) σ) := by
  have hnb := ha.1
  refine ACt.intro (own := RX12) (nm := "by") mk_X12_by rfl rfl [some (.ref m), some (.int x), some (.int s)] rfl (Nat.le_of_ble_eq_true rfl) (fun X hX hR => ?_)
  refine A_aload_n (pc := 0) rfl hX dX12_by_0 ?_
  refine A_iload_n (pc := 1) rfl hX dX12_by_1 ?_
  refine A_V1d (pc := 2) hX mk_X12_isBorrower lv_X12_132 dX12_by_2 (by repeat (first | assumption | exact aSet_s | exact aNew_s | refine lk_n ?_ (by omega) | refine lk_f (by assumption) ?_ (by omega) | refine lk_w ?_ (by omega))) (ct_isBorrower l G ho hnb) rfl (Nat.le_of_ble_eq_true rfl) (Nat.le_of_ble_eq_true rfl) (Nat.le_of_ble_eq_true rfl) (Nat.le_of_ble_eq_true rfl) (Nat.le_of_ble_eq_true rfl) ?_
  refine A_if_ne (pc := 5) 11 hX dX12_by_5 rfl (fun c5 => ?_) (fun c5 => ?_)
  · have hin := bI_ne c5
    obtain ⟨b, hb1, rfl⟩ := inN_t (by omega) hin
    refine A_iload_n (pc := 11) rfl hX dX12_by_11 ?_
    refine A_S1d (pc := 12) hX mk_X12_isState ls_X12_138 dX12_by_12 (ct_isStateM l G) rfl (Nat.le_of_ble_eq_true rfl) (Nat.le_of_ble_eq_true rfl) (Nat.le_of_ble_eq_true rfl) (Nat.le_of_ble_eq_true rfl) (Nat.le_of_ble_eq_true rfl) ?_
    refine A_if_eq (pc := 15) 27 hX dX12_by_15 rfl (fun c15 => ?_) (fun c15 => ?_)
    · have hc := bI_f c15
      refine A_bipush (pc := 27) (v := (-102)) (by decide) hX dX12_by_27 ?_
      refine A_iret (pc := 29) hX hR dX12_by_29 rfl rfl ?_
      exact ⟨by rw [an2_2 hin hc], rfl⟩
    · have hc := bI_ne c15
      obtain ⟨c, hc1, rfl⟩ := inN_t (by decide) hc
      refine A_aload_n (pc := 18) rfl hX dX12_by_18 ?_
      refine A_iload_n (pc := 19) rfl hX dX12_by_19 ?_
      refine A_iload_n (pc := 20) rfl hX dX12_by_20 ?_
      refine A_V2d (pc := 21) hX mk_X12_made lv_X12_141 dX12_by_21 (by repeat (first | assumption | exact aSet_s | exact aNew_s | refine lk_n ?_ (by omega) | refine lk_f (by assumption) ?_ (by omega) | refine lk_w ?_ (by omega))) (ct_made l G ho ha hb1 hc1) rfl (Nat.le_of_ble_eq_true rfl) (Nat.le_of_ble_eq_true rfl) (Nat.le_of_ble_eq_true rfl) (Nat.le_of_ble_eq_true rfl) (Nat.le_of_ble_eq_true rfl) ?_
      refine A_goto (pc := 24) 29 hX dX12_by_24 rfl ?_
      refine A_iret (pc := 29) hX hR dX12_by_29 rfl rfl ?_
      exact ⟨by rw [an2_in (by omega) (by decide) hb1 hc1], rfl⟩
  · have hno := bI_f c5
    refine A_bipush (pc := 8) (v := (-101)) (by decide) hX dX12_by_8 ?_
    refine A_iret (pc := 10) hX hR dX12_by_10 rfl rfl ?_
    exact ⟨by rw [an2_1 hno], rfl⟩
set_option maxRecDepth 100000 in
set_option maxHeartbeats 1000000 in
theorem ct_traitsIn (l : Launch) (G : aG) {s : Nat} (hs : s < 512) {σ : aS} : ACt l G yX12_traitsIn cX12_traitsIn 1 (some .int) 1 0 0 [.int (nI s)] σ (dP (some (.int (nI (trS s)))) σ) := by
  refine ACt.intro (own := RX12) (nm := "traitsIn") mk_X12_traitsIn rfl rfl [some (.int (nI s))] rfl (Nat.le_of_ble_eq_true rfl) (fun X hX hR => ?_)
  refine A_iload_n (pc := 0) rfl hX dX12_traitsIn_0 ?_
  refine A_iconst (pc := 1) (v := (nI 0)) (by decide) hX dX12_traitsIn_1 ?_
  refine A_S2d (pc := 2) hX mk_X12_traitIn ls_X12_121 dX12_traitsIn_2 (ct_traitIn l G hs (by decide)) rfl (Nat.le_of_ble_eq_true rfl) (Nat.le_of_ble_eq_true rfl) (Nat.le_of_ble_eq_true rfl) (Nat.le_of_ble_eq_true rfl) (Nat.le_of_ble_eq_true rfl) ?_
  refine A_iload_n (pc := 5) rfl hX dX12_traitsIn_5 ?_
  refine A_iconst (pc := 6) (v := (nI 1)) (by decide) hX dX12_traitsIn_6 ?_
  refine A_S2d (pc := 7) hX mk_X12_traitIn ls_X12_121 dX12_traitsIn_7 (ct_traitIn l G hs (by decide)) rfl (Nat.le_of_ble_eq_true rfl) (Nat.le_of_ble_eq_true rfl) (Nat.le_of_ble_eq_true rfl) (Nat.le_of_ble_eq_true rfl) (Nat.le_of_ble_eq_true rfl) ?_
  refine A_iadd (pc := 10) hX dX12_traitsIn_10 ?_
  refine A_iload_n (pc := 11) rfl hX dX12_traitsIn_11 ?_
  refine A_iconst (pc := 12) (v := (nI 2)) (by decide) hX dX12_traitsIn_12 ?_
  refine A_S2d (pc := 13) hX mk_X12_traitIn ls_X12_121 dX12_traitsIn_13 (ct_traitIn l G hs (by decide)) rfl (Nat.le_of_ble_eq_true rfl) (Nat.le_of_ble_eq_true rfl) (Nat.le_of_ble_eq_true rfl) (Nat.le_of_ble_eq_true rfl) (Nat.le_of_ble_eq_true rfl) ?_
  refine A_iadd (pc := 16) hX dX12_traitsIn_16 ?_
  refine A_iret (pc := 17) hX hR dX12_traitsIn_17 rfl rfl ?_
  exact ⟨by rw [nI_add, nI_add]; rfl, rfl⟩
set_option maxRecDepth 100000 in
set_option maxHeartbeats 1000000 in
theorem ct_lentMany (l : Launch) (G : aG) {m tw nb nt hn len kt kn : Nat} {dy fa nm kd : Int32} {wh hk : Bool} {sn hd : Int64} {σ : aS} (ho : σ.2 m = some (oM m tw nb nt dy hn len fa wh nm sn hk kt kn kd hd)) {V : ThT} (ht : RMt G (m + 5) nt V σ) : ACt l G yX12_lentMany cX12_lentMany 3 (some .int) 0 0 0 [.ref m] σ (dP (some (.int (nI (cntN (fun i => decide (¬ (V i).2.1 = -1)) nt)))) σ) := by
  obtain ⟨gs, gw, gl, gr, t1, t2, t3, t4, hnt, hv⟩ := id ht
  refine ACt.intro (own := RX12) (nm := "lentMany") mk_X12_lentMany rfl rfl [some (.ref m), none, none] rfl (Nat.le_of_ble_eq_true rfl) (fun X hX hR => ?_)
  refine A_iconst (pc := 0) (v := (nI 0)) (by decide) hX dX12_lentMany_0 ?_
  refine A_istore_n (pc := 1) (lv' := [_, _, _]) hX dX12_lentMany_1 (Nat.le_of_ble_eq_true rfl) rfl rfl ?_
  refine A_iconst (pc := 2) (v := (nI 0)) (by decide) hX dX12_lentMany_2 ?_
  refine A_istore_n (pc := 3) (lv' := [_, _, _]) hX dX12_lentMany_3 (Nat.le_of_ble_eq_true rfl) rfl rfl ?_
  suffices hl : ∀ (k i : Nat), i ≤ nt → nt - i = k → AA G X 0 0 4 [some (.ref m), some (.int (nI (cntN (fun i => decide (¬ (V i).2.1 = -1)) i))), some (.int (nI i))] [] σ from hl nt 0 (Nat.zero_le _) rfl
  intro k
  induction k with
  | zero =>
    intro i hi hk
    have e : nt = i := by omega
    subst e
    refine A_iload_n (pc := 4) rfl hX dX12_lentMany_4 ?_
    refine A_aload_n (pc := 5) rfl hX dX12_lentMany_5 ?_
    refine A_getf (pc := 6) hX fl_X12_115_12 dX12_lentMany_6 (by repeat (first | assumption | exact aSet_s | exact aNew_s | refine lk_n ?_ (by omega) | refine lk_f (by assumption) ?_ (by omega) | refine lk_w ?_ (by omega))) (by exact rfl) ?_
    refine A_icmp_ge (pc := 9) 36 hX dX12_lentMany_9 rfl (fun c9 => ?_) (fun c9 => ?_)
    · refine A_iload_n (pc := 36) rfl hX dX12_lentMany_36 ?_
      refine A_iret (pc := 37) hX hR dX12_lentMany_37 rfl rfl ?_
      exact ⟨rfl, rfl⟩
    · exact absurd (nI_le (Nat.le_refl _) (by omega)) c9
  | succ k ih =>
    intro i hi hk
    have hil : i < nt := by omega
    obtain ⟨w1, w2, w3, w4⟩ := hv i hil
    have hic := nI_clamp (n := i) (by omega)
    refine A_iload_n (pc := 4) rfl hX dX12_lentMany_4 ?_
    refine A_aload_n (pc := 5) rfl hX dX12_lentMany_5 ?_
    refine A_getf (pc := 6) hX fl_X12_115_12 dX12_lentMany_6 (by repeat (first | assumption | exact aSet_s | exact aNew_s | refine lk_n ?_ (by omega) | refine lk_f (by assumption) ?_ (by omega) | refine lk_w ?_ (by omega))) (by exact rfl) ?_
    refine A_icmp_ge (pc := 9) 36 hX dX12_lentMany_9 rfl (fun c9 => ?_) (fun c9 => ?_)
    · exact absurd c9 (nI_ge hil (by omega))
    · refine A_iload_n (pc := 12) rfl hX dX12_lentMany_12 ?_
      refine A_aload_n (pc := 13) rfl hX dX12_lentMany_13 ?_
      refine A_getf (pc := 14) hX fl_X12_25_12 dX12_lentMany_14 (by repeat (first | assumption | exact aSet_s | exact aNew_s | refine lk_n ?_ (by omega) | refine lk_f (by assumption) ?_ (by omega) | refine lk_w ?_ (by omega))) (by exact rfl) ?_
      refine A_iload_n (pc := 17) rfl hX dX12_lentMany_17 ?_
      refine A_iald (pc := 18) hX dX12_lentMany_18 (by repeat (first | assumption | exact aSet_s | exact aNew_s | refine lk_n ?_ (by omega) | refine lk_f (by assumption) ?_ (by omega) | refine lk_w ?_ (by omega))) (vp_in_nI (by omega) (by decide)) ?_
      refine A_top (y := (V i).2.1) (by rw [hic]; exact w2) ?_
      refine A_iconst (pc := 19) (v := (-1)) (by decide) hX dX12_lentMany_19 ?_
      refine A_icmp_ne (pc := 20) 27 hX dX12_lentMany_20 rfl (fun c20 => ?_) (fun c20 => ?_)
      · refine A_iconst (pc := 27) (v := (nI 1)) (by decide) hX dX12_lentMany_27 ?_
        refine A_iadd (pc := 28) hX dX12_lentMany_28 ?_
        refine A_top (y := nI (cntN (fun i => decide (¬ (V i).2.1 = -1)) i + 1)) (nI_add _ _) ?_
        refine A_istore_n (pc := 29) (lv' := [_, _, _]) hX dX12_lentMany_29 (Nat.le_of_ble_eq_true rfl) rfl rfl ?_
        refine A_iinc (pc := 30) (v := (nI (i + 1))) (lv' := [_, _, _]) hX dX12_lentMany_30 rfl (nI_succ i).symm rfl rfl ?_
        refine A_goto (pc := 33) 4 hX dX12_lentMany_33 rfl ?_
        have hd1 : decide (¬ (V i).2.1 = -1) = true := decide_eq_true c20
        have hs : cntN (fun i => decide (¬ (V i).2.1 = -1)) (i + 1) = cntN (fun i => decide (¬ (V i).2.1 = -1)) i + 1 := by rw [cntN, if_pos hd1]
        rw [← hs]
        exact ih (i + 1) (by omega) (by omega)
      · refine A_iconst (pc := 23) (v := (nI 0)) (by decide) hX dX12_lentMany_23 ?_
        refine A_goto (pc := 24) 28 hX dX12_lentMany_24 rfl ?_
        refine A_iadd (pc := 28) hX dX12_lentMany_28 ?_
        refine A_top (y := nI (cntN (fun i => decide (¬ (V i).2.1 = -1)) i + 0)) (nI_add _ _) ?_
        refine A_istore_n (pc := 29) (lv' := [_, _, _]) hX dX12_lentMany_29 (Nat.le_of_ble_eq_true rfl) rfl rfl ?_
        refine A_iinc (pc := 30) (v := (nI (i + 1))) (lv' := [_, _, _]) hX dX12_lentMany_30 rfl (nI_succ i).symm rfl rfl ?_
        refine A_goto (pc := 33) 4 hX dX12_lentMany_33 rfl ?_
        have hd1 : ¬ decide (¬ (V i).2.1 = -1) = true := fun q => absurd c20 (of_decide_eq_true q)
        have hs : cntN (fun i => decide (¬ (V i).2.1 = -1)) (i + 1) = cntN (fun i => decide (¬ (V i).2.1 = -1)) i + 0 := by rw [cntN, if_neg hd1]
        rw [← hs]
        exact ih (i + 1) (by omega) (by omega)
set_option maxRecDepth 100000 in
set_option maxHeartbeats 1000000 in
theorem ct_traitsAll (l : Launch) (G : aG) {m tw nb nt hn len kt kn : Nat} {dy fa nm kd : Int32} {wh hk : Bool} {sn hd : Int64} {σ : aS} (ho : σ.2 m = some (oM m tw nb nt dy hn len fa wh nm sn hk kt kn kd hd)) {V : ThT} (ht : RMt G (m + 5) nt V σ) (hV : okV nb nt V) : ACt l G yX12_traitsAll cX12_traitsAll 3 (some .int) 2 0 0 [.ref m] σ (dP (some (.int (nI (sumN (fun i => trS (V i).1) nt)))) σ) := by
  obtain ⟨gs, gw, gl, gr, t1, t2, t3, t4, hnt, hv⟩ := id ht
  refine ACt.intro (own := RX12) (nm := "traitsAll") mk_X12_traitsAll rfl rfl [some (.ref m), none, none] rfl (Nat.le_of_ble_eq_true rfl) (fun X hX hR => ?_)
  refine A_iconst (pc := 0) (v := (nI 0)) (by decide) hX dX12_traitsAll_0 ?_
  refine A_istore_n (pc := 1) (lv' := [_, _, _]) hX dX12_traitsAll_1 (Nat.le_of_ble_eq_true rfl) rfl rfl ?_
  refine A_iconst (pc := 2) (v := (nI 0)) (by decide) hX dX12_traitsAll_2 ?_
  refine A_istore_n (pc := 3) (lv' := [_, _, _]) hX dX12_traitsAll_3 (Nat.le_of_ble_eq_true rfl) rfl rfl ?_
  suffices hl : ∀ (k i : Nat), i ≤ nt → nt - i = k → AA G X 0 0 4 [some (.ref m), some (.int (nI (sumN (fun i => trS (V i).1) i))), some (.int (nI i))] [] σ from hl nt 0 (Nat.zero_le _) rfl
  intro k
  induction k with
  | zero =>
    intro i hi hk
    have e : nt = i := by omega
    subst e
    refine A_iload_n (pc := 4) rfl hX dX12_traitsAll_4 ?_
    refine A_aload_n (pc := 5) rfl hX dX12_traitsAll_5 ?_
    refine A_getf (pc := 6) hX fl_X12_115_12 dX12_traitsAll_6 (by repeat (first | assumption | exact aSet_s | exact aNew_s | refine lk_n ?_ (by omega) | refine lk_f (by assumption) ?_ (by omega) | refine lk_w ?_ (by omega))) (by exact rfl) ?_
    refine A_icmp_ge (pc := 9) 30 hX dX12_traitsAll_9 rfl (fun c9 => ?_) (fun c9 => ?_)
    · refine A_iload_n (pc := 30) rfl hX dX12_traitsAll_30 ?_
      refine A_iret (pc := 31) hX hR dX12_traitsAll_31 rfl rfl ?_
      exact ⟨rfl, rfl⟩
    · exact absurd (nI_le (Nat.le_refl _) (by omega)) c9
  | succ k ih =>
    intro i hi hk
    have hil : i < nt := by omega
    obtain ⟨w1, w2, w3, w4⟩ := hv i hil
    have hic := nI_clamp (n := i) (by omega)
    refine A_iload_n (pc := 4) rfl hX dX12_traitsAll_4 ?_
    refine A_aload_n (pc := 5) rfl hX dX12_traitsAll_5 ?_
    refine A_getf (pc := 6) hX fl_X12_115_12 dX12_traitsAll_6 (by repeat (first | assumption | exact aSet_s | exact aNew_s | refine lk_n ?_ (by omega) | refine lk_f (by assumption) ?_ (by omega) | refine lk_w ?_ (by omega))) (by exact rfl) ?_
    refine A_icmp_ge (pc := 9) 30 hX dX12_traitsAll_9 rfl (fun c9 => ?_) (fun c9 => ?_)
    · exact absurd c9 (nI_ge hil (by omega))
    · refine A_iload_n (pc := 12) rfl hX dX12_traitsAll_12 ?_
      refine A_aload_n (pc := 13) rfl hX dX12_traitsAll_13 ?_
      refine A_getf (pc := 14) hX fl_X12_22_12 dX12_traitsAll_14 (by repeat (first | assumption | exact aSet_s | exact aNew_s | refine lk_n ?_ (by omega) | refine lk_f (by assumption) ?_ (by omega) | refine lk_w ?_ (by omega))) (by exact rfl) ?_
      refine A_iload_n (pc := 17) rfl hX dX12_traitsAll_17 ?_
      refine A_iald (pc := 18) hX dX12_traitsAll_18 (by repeat (first | assumption | exact aSet_s | exact aNew_s | refine lk_n ?_ (by omega) | refine lk_f (by assumption) ?_ (by omega) | refine lk_w ?_ (by omega))) (vp_in_nI (by omega) (by decide)) ?_
      refine A_top (y := nI (V i).1) (by rw [hic]; exact w1) ?_
      refine A_S1d (pc := 19) hX mk_X12_traitsIn ls_X12_210 dX12_traitsAll_19 (ct_traitsIn l G (hV i hil).1) rfl (Nat.le_of_ble_eq_true rfl) (Nat.le_of_ble_eq_true rfl) (Nat.le_of_ble_eq_true rfl) (Nat.le_of_ble_eq_true rfl) (Nat.le_of_ble_eq_true rfl) ?_
      refine A_iadd (pc := 22) hX dX12_traitsAll_22 ?_
      refine A_top (y := nI (sumN (fun i => trS (V i).1) (i + 1))) (nI_add _ _) ?_
      refine A_istore_n (pc := 23) (lv' := [_, _, _]) hX dX12_traitsAll_23 (Nat.le_of_ble_eq_true rfl) rfl rfl ?_
      refine A_iinc (pc := 24) (v := (nI (i + 1))) (lv' := [_, _, _]) hX dX12_traitsAll_24 rfl (nI_succ i).symm rfl rfl ?_
      refine A_goto (pc := 27) 4 hX dX12_traitsAll_27 rfl ?_
      exact ih (i + 1) (by omega) (by omega)
set_option maxRecDepth 100000 in
set_option maxHeartbeats 1000000 in
theorem ct_howMany (l : Launch) (G : aG) {m tw nb nt hn len kt kn : Nat} {dy fa nm kd : Int32} {wh hk : Bool} {sn hd : Int64} {σ : aS} (ho : σ.2 m = some (oM m tw nb nt dy hn len fa wh nm sn hk kt kn kd hd)) {V : ThT} (ht : RMt G (m + 5) nt V σ) (hV : okV nb nt V) {w : Int32} : ACt l G yX12_howMany cX12_howMany 2 (some .int) 3 0 0 [.ref m, .int w] σ (dP (some (.int (anCount len nb nt dy V tw hn w))) σ) := by
  refine ACt.intro (own := RX12) (nm := "howMany") mk_X12_howMany rfl rfl [some (.ref m), some (.int w)] rfl (Nat.le_of_ble_eq_true rfl) (fun X hX hR => ?_)
  refine A_iload_n (pc := 0) rfl hX dX12_howMany_0 ?_
  by_cases hc : inN 8 w = true
  · obtain ⟨c, hc1, rfl⟩ := inN_t (by decide) hc
    rcases (by omega : c = 0 ∨ c = 1 ∨ c = 2 ∨ c = 3 ∨ c = 4 ∨ c = 5 ∨ c = 6 ∨ c = 7) with rfl | rfl | rfl | rfl | rfl | rfl | rfl | rfl
    · refine A_tabIn (pc := 1) (off := 47) 48 hX dX12_howMany_1 (by decide) (by decide) rfl rfl ?_
      refine A_aload_n (pc := 48) rfl hX dX12_howMany_48 ?_
      refine A_getf (pc := 49) hX fl_X12_103_12 dX12_howMany_49 (by repeat (first | assumption | exact aSet_s | exact aNew_s | refine lk_n ?_ (by omega) | refine lk_f (by assumption) ?_ (by omega) | refine lk_w ?_ (by omega))) (by exact rfl) ?_
      refine A_iret (pc := 52) hX hR dX12_howMany_52 rfl rfl ?_
      exact ⟨by rw [anCount, if_pos (inN_nI (by decide) hc1), nI_clamp (by decide)]; rfl, rfl⟩
    · refine A_tabIn (pc := 1) (off := 52) 53 hX dX12_howMany_1 (by decide) (by decide) rfl rfl ?_
      refine A_aload_n (pc := 53) rfl hX dX12_howMany_53 ?_
      refine A_getf (pc := 54) hX fl_X12_115_12 dX12_howMany_54 (by repeat (first | assumption | exact aSet_s | exact aNew_s | refine lk_n ?_ (by omega) | refine lk_f (by assumption) ?_ (by omega) | refine lk_w ?_ (by omega))) (by exact rfl) ?_
      refine A_iret (pc := 57) hX hR dX12_howMany_57 rfl rfl ?_
      exact ⟨by rw [anCount, if_pos (inN_nI (by decide) hc1), nI_clamp (by decide)]; rfl, rfl⟩
    · refine A_tabIn (pc := 1) (off := 57) 58 hX dX12_howMany_1 (by decide) (by decide) rfl rfl ?_
      refine A_aload_n (pc := 58) rfl hX dX12_howMany_58 ?_
      refine A_V0d (pc := 59) hX mk_X12_lentMany lv_X12_228 dX12_howMany_59 (by repeat (first | assumption | exact aSet_s | exact aNew_s | refine lk_n ?_ (by omega) | refine lk_f (by assumption) ?_ (by omega) | refine lk_w ?_ (by omega))) (ct_lentMany l G ho ht) rfl (Nat.le_of_ble_eq_true rfl) (Nat.le_of_ble_eq_true rfl) (Nat.le_of_ble_eq_true rfl) (Nat.le_of_ble_eq_true rfl) (Nat.le_of_ble_eq_true rfl) ?_
      refine A_iret (pc := 62) hX hR dX12_howMany_62 rfl rfl ?_
      exact ⟨by rw [anCount, if_pos (inN_nI (by decide) hc1), nI_clamp (by decide)]; rfl, rfl⟩
    · refine A_tabIn (pc := 1) (off := 62) 63 hX dX12_howMany_1 (by decide) (by decide) rfl rfl ?_
      refine A_aload_n (pc := 63) rfl hX dX12_howMany_63 ?_
      refine A_getf (pc := 64) hX fl_X12_118_12 dX12_howMany_64 (by repeat (first | assumption | exact aSet_s | exact aNew_s | refine lk_n ?_ (by omega) | refine lk_f (by assumption) ?_ (by omega) | refine lk_w ?_ (by omega))) (by exact rfl) ?_
      refine A_iret (pc := 67) hX hR dX12_howMany_67 rfl rfl ?_
      exact ⟨by rw [anCount, if_pos (inN_nI (by decide) hc1), nI_clamp (by decide)]; rfl, rfl⟩
    · refine A_tabIn (pc := 1) (off := 67) 68 hX dX12_howMany_1 (by decide) (by decide) rfl rfl ?_
      refine A_aload_n (pc := 68) rfl hX dX12_howMany_68 ?_
      refine A_V0d (pc := 69) hX mk_X12_traitsAll lv_X12_231 dX12_howMany_69 (by repeat (first | assumption | exact aSet_s | exact aNew_s | refine lk_n ?_ (by omega) | refine lk_f (by assumption) ?_ (by omega) | refine lk_w ?_ (by omega))) (ct_traitsAll l G ho ht hV) rfl (Nat.le_of_ble_eq_true rfl) (Nat.le_of_ble_eq_true rfl) (Nat.le_of_ble_eq_true rfl) (Nat.le_of_ble_eq_true rfl) (Nat.le_of_ble_eq_true rfl) ?_
      refine A_iret (pc := 72) hX hR dX12_howMany_72 rfl rfl ?_
      exact ⟨by rw [anCount, if_pos (inN_nI (by decide) hc1), nI_clamp (by decide)]; rfl, rfl⟩
    · refine A_tabIn (pc := 1) (off := 72) 73 hX dX12_howMany_1 (by decide) (by decide) rfl rfl ?_
      refine A_aload_n (pc := 73) rfl hX dX12_howMany_73 ?_
      refine A_getf (pc := 74) hX fl_X12_81_12 dX12_howMany_74 (by repeat (first | assumption | exact aSet_s | exact aNew_s | refine lk_n ?_ (by omega) | refine lk_f (by assumption) ?_ (by omega) | refine lk_w ?_ (by omega))) (by exact rfl) ?_
      refine A_iret (pc := 77) hX hR dX12_howMany_77 rfl rfl ?_
      exact ⟨by rw [anCount, if_pos (inN_nI (by decide) hc1), nI_clamp (by decide)]; rfl, rfl⟩
    · refine A_tabIn (pc := 1) (off := 77) 78 hX dX12_howMany_1 (by decide) (by decide) rfl rfl ?_
      refine A_aload_n (pc := 78) rfl hX dX12_howMany_78 ?_
      refine A_getf (pc := 79) hX fl_X12_112_12 dX12_howMany_79 (by repeat (first | assumption | exact aSet_s | exact aNew_s | refine lk_n ?_ (by omega) | refine lk_f (by assumption) ?_ (by omega) | refine lk_w ?_ (by omega))) (by exact rfl) ?_
      refine A_iret (pc := 82) hX hR dX12_howMany_82 rfl rfl ?_
      exact ⟨by rw [anCount, if_pos (inN_nI (by decide) hc1), nI_clamp (by decide)]; rfl, rfl⟩
    · refine A_tabIn (pc := 1) (off := 82) 83 hX dX12_howMany_1 (by decide) (by decide) rfl rfl ?_
      refine A_aload_n (pc := 83) rfl hX dX12_howMany_83 ?_
      refine A_getf (pc := 84) hX fl_X12_189_12 dX12_howMany_84 (by repeat (first | assumption | exact aSet_s | exact aNew_s | refine lk_n ?_ (by omega) | refine lk_f (by assumption) ?_ (by omega) | refine lk_w ?_ (by omega))) (by exact rfl) ?_
      refine A_iret (pc := 87) hX hR dX12_howMany_87 rfl rfl ?_
      exact ⟨by rw [anCount, if_pos (inN_nI (by decide) hc1), nI_clamp (by decide)]; rfl, rfl⟩
  · refine A_tabOut (pc := 1) 88 hX dX12_howMany_1 (by have := inN_f (by decide) hc; omega) rfl ?_
    refine A_bipush (pc := 88) (v := (-102)) (by decide) hX dX12_howMany_88 ?_
    refine A_iret (pc := 90) hX hR dX12_howMany_90 rfl rfl ?_
    exact ⟨by rw [anCount, if_neg hc], rfl⟩
set_option maxRecDepth 100000 in
set_option maxHeartbeats 1000000 in
theorem ct_countM (l : Launch) (G : aG) {m tw nb nt hn len kt kn : Nat} {dy fa nm kd : Int32} {wh hk : Bool} {sn hd : Int64} {σ : aS} (ho : σ.2 m = some (oM m tw nb nt dy hn len fa wh nm sn hk kt kn kd hd)) {V : ThT} (ht : RMt G (m + 5) nt V σ) (hV : okV nb nt V) {w : Int32} : ACt l G yX12_count cX12_count 2 (some .int) 4 0 0 [.ref m, .int w] σ (dP (some (.int (anCount len nb nt dy V tw hn w))) σ) := by
  refine ACt.intro (own := RX12) (nm := "count") mk_X12_count rfl rfl [some (.ref m), some (.int w)] rfl (Nat.le_of_ble_eq_true rfl) (fun X hX hR => ?_)
  refine A_aload_n (pc := 0) rfl hX dX12_count_0 ?_
  refine A_iload_n (pc := 1) rfl hX dX12_count_1 ?_
  refine A_V1d (pc := 2) hX mk_X12_howMany lv_X12_234 dX12_count_2 (by repeat (first | assumption | exact aSet_s | exact aNew_s | refine lk_n ?_ (by omega) | refine lk_f (by assumption) ?_ (by omega) | refine lk_w ?_ (by omega))) (ct_howMany l G ho ht hV) rfl (Nat.le_of_ble_eq_true rfl) (Nat.le_of_ble_eq_true rfl) (Nat.le_of_ble_eq_true rfl) (Nat.le_of_ble_eq_true rfl) (Nat.le_of_ble_eq_true rfl) ?_
  refine A_iret (pc := 5) hX hR dX12_count_5 rfl rfl ?_
  exact ⟨rfl, rfl⟩
theorem i_byte {n : Nat} (h : n < 128) : (nI n).toInt8.toInt32 = nI n := (by decide +kernel : ∀ n, n < 128 → (nI n).toInt8.toInt32 = nI n) n h
theorem n_byte {n : Nat} (h : n < 128) : vp_nar .byte (nI n) = nI n := (by decide +kernel : ∀ n, n < 128 → vp_nar .byte (nI n) = nI n) n h
theorem winB_R {lo hi : Nat} {x : Int32} : winB x (nI lo) (nI hi) = inR lo hi x := rfl
set_option maxRecDepth 100000 in
set_option maxHeartbeats 1000000 in
theorem ct_letterM (l : Launch) (G : aG) {m len nb nt kn tw hn : Nat} {cd : Nat → Nat} {B : BorT} {dy kd : Int32} {V KV : ThT} {hI : Bool} {σ : aS} (hM : RM G m len cd nb B nt dy V hI kn kd KV tw hn σ) {c : Int32} : ACt l G yX12_letter cX12_letter 2 (some .int) 1 0 0 [.ref m, .int c] σ (iP (fun x σ' => x = (stLetter len cd c).1 ∧ RM G m (stLetter len cd c).2.1 (stLetter len cd c).2.2 nb B nt dy V hI kn kd KV tw hn σ' ∧ Fr m (m + 23) σ σ')) := by
  obtain ⟨fa, nm, wh, hk, sn, hd, kt, ho, ha, ht, hp, hn1, hs1, hkp, hI1, hI2⟩ := id hM
  obtain ⟨pf, p1, p2, p3⟩ := id hp
  refine ACt.intro (own := RX12) (nm := "letter") mk_X12_letter rfl rfl [some (.ref m), some (.int c)] rfl (Nat.le_of_ble_eq_true rfl) (fun X hX hR => ?_)
  refine A_iload_n (pc := 0) rfl hX dX12_letter_0 ?_
  refine A_bipush (pc := 1) (v := (nI 32)) (by decide) hX dX12_letter_1 ?_
  refine A_bipush (pc := 3) (v := (nI 126)) (by decide) hX dX12_letter_3 ?_
  refine A_S3d (pc := 5) hX mk_X12_within ls_X12_77 dX12_letter_5 (ct_within l G ) rfl (Nat.le_of_ble_eq_true rfl) (Nat.le_of_ble_eq_true rfl) (Nat.le_of_ble_eq_true rfl) (Nat.le_of_ble_eq_true rfl) (Nat.le_of_ble_eq_true rfl) ?_
  refine A_top (y := bI (inR 32 126 c)) rfl ?_
  refine A_if_ne (pc := 8) 14 hX dX12_letter_8 rfl (fun c8 => ?_) (fun c8 => ?_)
  · have hc := bI_ne c8
    obtain ⟨n, hn1_, hn2_, rfl⟩ := inR_t (by decide) (by decide) hc
    refine A_aload_n (pc := 14) rfl hX dX12_letter_14 ?_
    refine A_getf (pc := 15) hX fl_X12_81_12 dX12_letter_15 (by repeat (first | assumption | exact aSet_s | exact aNew_s | refine lk_n ?_ (by omega) | refine lk_f (by assumption) ?_ (by omega) | refine lk_w ?_ (by omega))) (by exact rfl) ?_
    refine A_bipush (pc := 18) (v := (nI 30)) (by decide) hX dX12_letter_18 ?_
    refine A_icmp_ne (pc := 20) 26 hX dX12_letter_20 rfl (fun c20 => ?_) (fun c20 => ?_)
    · have hl : len < 30 := by
        rcases Nat.lt_or_ge len 30 with q | q
        · exact q
        · exact absurd (by rw [show len = 30 by omega]) c20
      refine A_aload_n (pc := 26) rfl hX dX12_letter_26 ?_
      refine A_getf (pc := 27) hX fl_X12_34_12 dX12_letter_27 (by repeat (first | assumption | exact aSet_s | exact aNew_s | refine lk_n ?_ (by omega) | refine lk_f (by assumption) ?_ (by omega) | refine lk_w ?_ (by omega))) (by exact rfl) ?_
      refine A_aload_n (pc := 30) rfl hX dX12_letter_30 ?_
      refine A_getf (pc := 31) hX fl_X12_81_12 dX12_letter_31 (by repeat (first | assumption | exact aSet_s | exact aNew_s | refine lk_n ?_ (by omega) | refine lk_f (by assumption) ?_ (by omega) | refine lk_w ?_ (by omega))) (by exact rfl) ?_
      refine A_iload_n (pc := 34) rfl hX dX12_letter_34 ?_
      refine A_i2b (pc := 35) hX dX12_letter_35 ?_
      refine A_top (y := nI n) (i_byte (by omega)) ?_
      refine A_bast (pc := 36) hX dX12_letter_36 (by repeat (first | assumption | exact aSet_s | exact aNew_s | refine lk_n ?_ (by omega) | refine lk_f (by assumption) ?_ (by omega) | refine lk_w ?_ (by omega))) (vp_in_nI (by omega) (by decide)) ?_
      refine A_gen (fun z => (RMp G m (len + 1) (fun j => if j = len then n else cd j) z) ∧ Fr (m + 9) (m + 10) σ z) ⟨⟨_, aSet_s, by omega, fun j hj => by
        rw [nI_clamp (by omega), n_byte (by omega)]
        by_cases e : j = len
        · subst e; simp only [upd, if_pos]; exact ⟨trivial, by omega⟩
        · simp only [upd, if_neg e]; exact p3 j (by omega)⟩, (Fr.rf.set (by omega) (by omega))⟩ (fun σ37 hg => ?_)
      obtain ⟨h37, f37⟩ := hg
      refine A_aload_n (pc := 37) rfl hX dX12_letter_37 ?_
      refine A_dup (pc := 38) rfl hX dX12_letter_38 ?_
      refine A_getf (pc := 39) hX fl_X12_81_12 dX12_letter_39 (by repeat (first | assumption | exact aSet_s | exact aNew_s | refine lk_n ?_ (by omega) | refine lk_f (by assumption) ?_ (by omega) | refine lk_w ?_ (by omega))) (by exact rfl) ?_
      refine A_iconst (pc := 42) (v := (nI 1)) (by decide) hX dX12_letter_42 ?_
      refine A_iadd (pc := 43) hX dX12_letter_43 ?_
      refine A_top (y := nI (len + 1)) (nI_add _ _) ?_
      refine A_putf (pc := 44) (fs' := [_, _, _, _, _, _, _, _, _, _, _, _, _, _, _, _, _, _, _, _, _, _, _, _, _, _, _, _, _, _, _, _, _, _, _, _, _]) hX pl_X12_81_12 dX12_letter_44 (by repeat (first | assumption | exact aSet_s | exact aNew_s | refine lk_n ?_ (by omega) | refine lk_f (by assumption) ?_ (by omega) | refine lk_w ?_ (by omega))) (by exact Nat.le_of_ble_eq_true rfl) (by exact rfl) rfl rfl ?_
      refine A_gen (fun z => (z.2 m = some (oM m (tw) (nb) (nt) (dy) (hn) (len + 1) (fa) (wh) (nm) (sn) (hk) (kt) (kn) (kd) (hd))) ∧ Fr (m) (m + 1) σ37 z) ⟨aSet_s, (Fr.rf.set (by omega) (by omega))⟩ (fun σ47 hg => ?_)
      obtain ⟨h47, f47⟩ := hg
      refine A_aload_n (pc := 47) rfl hX dX12_letter_47 ?_
      refine A_getf (pc := 48) hX fl_X12_81_12 dX12_letter_48 (by repeat (first | assumption | exact aSet_s | exact aNew_s | refine lk_n ?_ (by omega) | refine lk_f (by assumption) ?_ (by omega) | refine lk_w ?_ (by omega))) (by exact rfl) ?_
      refine A_iret (pc := 51) hX hR dX12_letter_51 rfl rfl ?_
      rw [show stLetter len cd (nI n) = _ from (by rw [stLetter, if_pos hc, if_pos hl, nI_clamp (by omega)])]
      exact ⟨_, rfl, rfl, ⟨fa, nm, wh, hk, sn, hd, kt, h47, ((ha.fr f37 (by omega)).fr f47 (by omega)), ((ht.fr f37 (by omega)).fr f47 (by omega)), (h37.fr f47 (by omega)), ((hn1.fr f37 (by omega)).fr f47 (by omega)), ((hs1.fr f37 (by omega)).fr f47 (by omega)), ((hkp.fr f37 (by omega)).fr f47 (by omega)), hI1, hI2⟩, (by repeat (first | exact Fr.rf | refine Fr.set ?_ (by omega) (by omega) | refine Fr.tr ?_ (Fr.wd (by assumption) (by omega) (by omega))))⟩
    · have hl := (nI_eq (b := 30) (by omega) (by decide)).mp c20
      refine A_bipush (pc := 23) (v := (-104)) (by decide) hX dX12_letter_23 ?_
      refine A_iret (pc := 25) hX hR dX12_letter_25 rfl rfl ?_
      rw [show stLetter len cd (nI n) = _ from (by rw [stLetter, if_pos hc, if_neg (by omega)])]
      exact ⟨_, rfl, rfl, hM, Fr.rf⟩
  · have hc := bI_f c8
    refine A_bipush (pc := 11) (v := (-102)) (by decide) hX dX12_letter_11 ?_
    refine A_iret (pc := 13) hX hR dX12_letter_13 rfl rfl ?_
    rw [show stLetter len cd c = _ from if_neg hc]
    exact ⟨_, rfl, rfl, hM, Fr.rf⟩
set_option maxRecDepth 100000 in
set_option maxHeartbeats 1000000 in
theorem ct_blankM (l : Launch) (G : aG) {m len nb nt kn tw hn : Nat} {cd : Nat → Nat} {B : BorT} {dy kd : Int32} {V KV : ThT} {hI : Bool} {σ : aS} (hM : RM G m len cd nb B nt dy V hI kn kd KV tw hn σ) : ACt l G yX12_blank cX12_blank 2 (some .int) 0 0 0 [.ref m] σ (iP (fun x σ' => x = nI len ∧ RM G m 0 cd nb B nt dy V hI kn kd KV tw hn σ' ∧ Fr m (m + 23) σ σ')) := by
  obtain ⟨fa, nm, wh, hk, sn, hd, kt, ho, ha, ht, hp, hn1, hs1, hkp, hI1, hI2⟩ := id hM
  obtain ⟨pf, p1, p2, p3⟩ := id hp
  refine ACt.intro (own := RX12) (nm := "blank") mk_X12_blank rfl rfl [some (.ref m), none] rfl (Nat.le_of_ble_eq_true rfl) (fun X hX hR => ?_)
  refine A_aload_n (pc := 0) rfl hX dX12_blank_0 ?_
  refine A_getf (pc := 1) hX fl_X12_81_12 dX12_blank_1 (by repeat (first | assumption | exact aSet_s | exact aNew_s | refine lk_n ?_ (by omega) | refine lk_f (by assumption) ?_ (by omega) | refine lk_w ?_ (by omega))) (by exact rfl) ?_
  refine A_istore_n (pc := 4) (lv' := [_, _]) hX dX12_blank_4 (Nat.le_of_ble_eq_true rfl) rfl rfl ?_
  refine A_aload_n (pc := 5) rfl hX dX12_blank_5 ?_
  refine A_iconst (pc := 6) (v := (nI 0)) (by decide) hX dX12_blank_6 ?_
  refine A_putf (pc := 7) (fs' := [_, _, _, _, _, _, _, _, _, _, _, _, _, _, _, _, _, _, _, _, _, _, _, _, _, _, _, _, _, _, _, _, _, _, _, _, _]) hX pl_X12_81_12 dX12_blank_7 (by repeat (first | assumption | exact aSet_s | exact aNew_s | refine lk_n ?_ (by omega) | refine lk_f (by assumption) ?_ (by omega) | refine lk_w ?_ (by omega))) (by exact Nat.le_of_ble_eq_true rfl) (by exact rfl) rfl rfl ?_
  refine A_gen (fun z => (z.2 m = some (oM m (tw) (nb) (nt) (dy) (hn) (0) (fa) (wh) (nm) (sn) (hk) (kt) (kn) (kd) (hd))) ∧ Fr (m) (m + 1) σ z) ⟨aSet_s, (Fr.rf.set (by omega) (by omega))⟩ (fun σ10 hg => ?_)
  obtain ⟨h10, f10⟩ := hg
  refine A_iload_n (pc := 10) rfl hX dX12_blank_10 ?_
  refine A_iret (pc := 11) hX hR dX12_blank_11 rfl rfl ?_
  exact ⟨_, rfl, rfl, ⟨fa, nm, wh, hk, sn, hd, kt, h10, (ha.fr f10 (by omega)), (ht.fr f10 (by omega)), ⟨pf, lk_f f10 p1 (by omega), by omega, fun j hj => absurd hj (Nat.not_lt_zero j)⟩, (hn1.fr f10 (by omega)), (hs1.fr f10 (by omega)), (hkp.fr f10 (by omega)), hI1, hI2⟩, (by repeat (first | exact Fr.rf | refine Fr.set ?_ (by omega) (by omega) | refine Fr.tr ?_ (Fr.wd (by assumption) (by omega) (by omega))))⟩
set_option maxRecDepth 100000 in
set_option maxHeartbeats 1000000 in
theorem ct_thingM (l : Launch) (G : aG) {m len nb nt kn tw hn : Nat} {cd : Nat → Nat} {B : BorT} {dy kd : Int32} {V KV : ThT} {hI : Bool} {σ : aS} (hM : RM G m len cd nb B nt dy V hI kn kd KV tw hn σ) {s : Int32} : ACt l G yX12_thing cX12_thing 2 (some .int) 2 0 0 [.ref m, .int s] σ (iP (fun x σ' => x = (stThing nb nt V s).1 ∧ RM G m len cd nb B (stThing nb nt V s).2.1 dy (stThing nb nt V s).2.2 hI kn kd KV tw hn σ' ∧ Fr m (m + 23) σ σ')) := by
  obtain ⟨fa, nm, wh, hk, sn, hd, kt, ho, ha, ht, hp, hn1, hs1, hkp, hI1, hI2⟩ := id hM
  have hnb := ha.1
  obtain ⟨gs, gw, gl, gr, t1, t2, t3, t4, hnt, hv⟩ := id ht
  refine ACt.intro (own := RX12) (nm := "thing") mk_X12_thing rfl rfl [some (.ref m), some (.int s)] rfl (Nat.le_of_ble_eq_true rfl) (fun X hX hR => ?_)
  refine A_iload_n (pc := 0) rfl hX dX12_thing_0 ?_
  refine A_S1d (pc := 1) hX mk_X12_isState ls_X12_138 dX12_thing_1 (ct_isStateM l G) rfl (Nat.le_of_ble_eq_true rfl) (Nat.le_of_ble_eq_true rfl) (Nat.le_of_ble_eq_true rfl) (Nat.le_of_ble_eq_true rfl) (Nat.le_of_ble_eq_true rfl) ?_
  refine A_if_ne (pc := 4) 10 hX dX12_thing_4 rfl (fun c4 => ?_) (fun c4 => ?_)
  · have hc := bI_ne c4
    obtain ⟨c, hc1, rfl⟩ := inN_t (by decide) hc
    refine A_aload_n (pc := 10) rfl hX dX12_thing_10 ?_
    refine A_getf (pc := 11) hX fl_X12_103_12 dX12_thing_11 (by repeat (first | assumption | exact aSet_s | exact aNew_s | refine lk_n ?_ (by omega) | refine lk_f (by assumption) ?_ (by omega) | refine lk_w ?_ (by omega))) (by exact rfl) ?_
    refine A_if_ne (pc := 14) 20 hX dX12_thing_14 rfl (fun c14 => ?_) (fun c14 => ?_)
    · have hz : ¬ nb = 0 := fun q => c14 (by rw [q]; rfl)
      refine A_aload_n (pc := 20) rfl hX dX12_thing_20 ?_
      refine A_getf (pc := 21) hX fl_X12_115_12 dX12_thing_21 (by repeat (first | assumption | exact aSet_s | exact aNew_s | refine lk_n ?_ (by omega) | refine lk_f (by assumption) ?_ (by omega) | refine lk_w ?_ (by omega))) (by exact rfl) ?_
      refine A_iconst (pc := 24) (v := (nI 4)) (by decide) hX dX12_thing_24 ?_
      refine A_icmp_ne (pc := 25) 31 hX dX12_thing_25 rfl (fun c25 => ?_) (fun c25 => ?_)
      · have hl : nt < 4 := by
          rcases Nat.lt_or_ge nt 4 with q | q
          · exact q
          · exact absurd (by rw [show nt = 4 by omega]) c25
        refine A_aload_n (pc := 31) rfl hX dX12_thing_31 ?_
        refine A_getf (pc := 32) hX fl_X12_22_12 dX12_thing_32 (by repeat (first | assumption | exact aSet_s | exact aNew_s | refine lk_n ?_ (by omega) | refine lk_f (by assumption) ?_ (by omega) | refine lk_w ?_ (by omega))) (by exact rfl) ?_
        refine A_aload_n (pc := 35) rfl hX dX12_thing_35 ?_
        refine A_getf (pc := 36) hX fl_X12_115_12 dX12_thing_36 (by repeat (first | assumption | exact aSet_s | exact aNew_s | refine lk_n ?_ (by omega) | refine lk_f (by assumption) ?_ (by omega) | refine lk_w ?_ (by omega))) (by exact rfl) ?_
        refine A_iload_n (pc := 39) rfl hX dX12_thing_39 ?_
        refine A_iast (pc := 40) hX dX12_thing_40 (by repeat (first | assumption | exact aSet_s | exact aNew_s | refine lk_n ?_ (by omega) | refine lk_f (by assumption) ?_ (by omega) | refine lk_w ?_ (by omega))) (vp_in_nI (by omega) (by decide)) ?_
        refine A_aload_n (pc := 41) rfl hX dX12_thing_41 ?_
        refine A_getf (pc := 42) hX fl_X12_25_12 dX12_thing_42 (by repeat (first | assumption | exact aSet_s | exact aNew_s | refine lk_n ?_ (by omega) | refine lk_f (by assumption) ?_ (by omega) | refine lk_w ?_ (by omega))) (by exact rfl) ?_
        refine A_aload_n (pc := 45) rfl hX dX12_thing_45 ?_
        refine A_getf (pc := 46) hX fl_X12_115_12 dX12_thing_46 (by repeat (first | assumption | exact aSet_s | exact aNew_s | refine lk_n ?_ (by omega) | refine lk_f (by assumption) ?_ (by omega) | refine lk_w ?_ (by omega))) (by exact rfl) ?_
        refine A_iconst (pc := 49) (v := (-1)) (by decide) hX dX12_thing_49 ?_
        refine A_iast (pc := 50) hX dX12_thing_50 (by repeat (first | assumption | exact aSet_s | exact aNew_s | refine lk_n ?_ (by omega) | refine lk_f (by assumption) ?_ (by omega) | refine lk_w ?_ (by omega))) (vp_in_nI (by omega) (by decide)) ?_
        refine A_aload_n (pc := 51) rfl hX dX12_thing_51 ?_
        refine A_getf (pc := 52) hX fl_X12_28_12 dX12_thing_52 (by repeat (first | assumption | exact aSet_s | exact aNew_s | refine lk_n ?_ (by omega) | refine lk_f (by assumption) ?_ (by omega) | refine lk_w ?_ (by omega))) (by exact rfl) ?_
        refine A_aload_n (pc := 55) rfl hX dX12_thing_55 ?_
        refine A_getf (pc := 56) hX fl_X12_115_12 dX12_thing_56 (by repeat (first | assumption | exact aSet_s | exact aNew_s | refine lk_n ?_ (by omega) | refine lk_f (by assumption) ?_ (by omega) | refine lk_w ?_ (by omega))) (by exact rfl) ?_
        refine A_iconst (pc := 59) (v := (nI 0)) (by decide) hX dX12_thing_59 ?_
        refine A_iast (pc := 60) hX dX12_thing_60 (by repeat (first | assumption | exact aSet_s | exact aNew_s | refine lk_n ?_ (by omega) | refine lk_f (by assumption) ?_ (by omega) | refine lk_w ?_ (by omega))) (vp_in_nI (by omega) (by decide)) ?_
        refine A_aload_n (pc := 61) rfl hX dX12_thing_61 ?_
        refine A_getf (pc := 62) hX fl_X12_31_12 dX12_thing_62 (by repeat (first | assumption | exact aSet_s | exact aNew_s | refine lk_n ?_ (by omega) | refine lk_f (by assumption) ?_ (by omega) | refine lk_w ?_ (by omega))) (by exact rfl) ?_
        refine A_aload_n (pc := 65) rfl hX dX12_thing_65 ?_
        refine A_getf (pc := 66) hX fl_X12_115_12 dX12_thing_66 (by repeat (first | assumption | exact aSet_s | exact aNew_s | refine lk_n ?_ (by omega) | refine lk_f (by assumption) ?_ (by omega) | refine lk_w ?_ (by omega))) (by exact rfl) ?_
        refine A_iconst (pc := 69) (v := (nI 0)) (by decide) hX dX12_thing_69 ?_
        refine A_iast (pc := 70) hX dX12_thing_70 (by repeat (first | assumption | exact aSet_s | exact aNew_s | refine lk_n ?_ (by omega) | refine lk_f (by assumption) ?_ (by omega) | refine lk_w ?_ (by omega))) (vp_in_nI (by omega) (by decide)) ?_
        refine A_gen (fun z => (RMt G (m + 5) (nt + 1) (fun i => if i = nt then (c, -1, 0, 0) else V i) z) ∧ Fr (m + 5) (m + 9) σ z) ⟨⟨_, _, _, _, (by repeat (first | assumption | exact aSet_s | exact aNew_s | refine lk_n ?_ (by omega) | refine lk_f (by assumption) ?_ (by omega) | refine lk_w ?_ (by omega))), (by repeat (first | assumption | exact aSet_s | exact aNew_s | refine lk_n ?_ (by omega) | refine lk_f (by assumption) ?_ (by omega) | refine lk_w ?_ (by omega))), (by repeat (first | assumption | exact aSet_s | exact aNew_s | refine lk_n ?_ (by omega) | refine lk_f (by assumption) ?_ (by omega) | refine lk_w ?_ (by omega))), (by repeat (first | assumption | exact aSet_s | exact aNew_s | refine lk_n ?_ (by omega) | refine lk_f (by assumption) ?_ (by omega) | refine lk_w ?_ (by omega))), by omega, fun i hi => by
          simp only [nI_clamp (show nt < 2 ^ 31 by omega)]
          by_cases e : i = nt
          · subst e; simp only [upd, if_pos]; refine ⟨?_, ?_, ?_, ?_⟩ <;> first | rfl | trivial
          · simp only [upd, if_neg e]; exact hv i (by omega)⟩, ((((Fr.rf.set (by omega) (by omega)).set (by omega) (by omega)).set (by omega) (by omega)).set (by omega) (by omega))⟩ (fun σ71 hg => ?_)
        obtain ⟨h71, f71⟩ := hg
        refine A_aload_n (pc := 71) rfl hX dX12_thing_71 ?_
        refine A_dup (pc := 72) rfl hX dX12_thing_72 ?_
        refine A_getf (pc := 73) hX fl_X12_115_12 dX12_thing_73 (by repeat (first | assumption | exact aSet_s | exact aNew_s | refine lk_n ?_ (by omega) | refine lk_f (by assumption) ?_ (by omega) | refine lk_w ?_ (by omega))) (by exact rfl) ?_
        refine A_iconst (pc := 76) (v := (nI 1)) (by decide) hX dX12_thing_76 ?_
        refine A_iadd (pc := 77) hX dX12_thing_77 ?_
        refine A_top (y := nI (nt + 1)) (nI_add _ _) ?_
        refine A_putf (pc := 78) (fs' := [_, _, _, _, _, _, _, _, _, _, _, _, _, _, _, _, _, _, _, _, _, _, _, _, _, _, _, _, _, _, _, _, _, _, _, _, _]) hX pl_X12_115_12 dX12_thing_78 (by repeat (first | assumption | exact aSet_s | exact aNew_s | refine lk_n ?_ (by omega) | refine lk_f (by assumption) ?_ (by omega) | refine lk_w ?_ (by omega))) (by exact Nat.le_of_ble_eq_true rfl) (by exact rfl) rfl rfl ?_
        refine A_gen (fun z => (z.2 m = some (oM m (tw) (nb) (nt + 1) (dy) (hn) (len) (fa) (wh) (nm) (sn) (hk) (kt) (kn) (kd) (hd))) ∧ Fr (m) (m + 1) σ71 z) ⟨aSet_s, (Fr.rf.set (by omega) (by omega))⟩ (fun σ81 hg => ?_)
        obtain ⟨h81, f81⟩ := hg
        refine A_aload_n (pc := 81) rfl hX dX12_thing_81 ?_
        refine A_getf (pc := 82) hX fl_X12_115_12 dX12_thing_82 (by repeat (first | assumption | exact aSet_s | exact aNew_s | refine lk_n ?_ (by omega) | refine lk_f (by assumption) ?_ (by omega) | refine lk_w ?_ (by omega))) (by exact rfl) ?_
        refine A_iconst (pc := 85) (v := (nI 1)) (by decide) hX dX12_thing_85 ?_
        refine A_isub (pc := 86) hX dX12_thing_86 ?_
        refine A_top (y := nI nt) (by rw [nI_sub1, if_neg (by omega)]; rfl) ?_
        refine A_iret (pc := 87) hX hR dX12_thing_87 rfl rfl ?_
        rw [show stThing nb nt V (nI c) = _ from (by rw [stThing, if_pos hc, if_neg hz, if_pos hl, nI_clamp (by omega)])]
        exact ⟨_, rfl, rfl, ⟨fa, nm, wh, hk, sn, hd, kt, h81, ((ha.fr f71 (by omega)).fr f81 (by omega)), (h71.fr f81 (by omega)), ((hp.fr f71 (by omega)).fr f81 (by omega)), ((hn1.fr f71 (by omega)).fr f81 (by omega)), ((hs1.fr f71 (by omega)).fr f81 (by omega)), ((hkp.fr f71 (by omega)).fr f81 (by omega)), hI1, hI2⟩, (by repeat (first | exact Fr.rf | refine Fr.set ?_ (by omega) (by omega) | refine Fr.tr ?_ (Fr.wd (by assumption) (by omega) (by omega))))⟩
      · have hl := (nI_eq (b := 4) (by omega) (by decide)).mp c25
        refine A_bipush (pc := 28) (v := (-104)) (by decide) hX dX12_thing_28 ?_
        refine A_iret (pc := 30) hX hR dX12_thing_30 rfl rfl ?_
        rw [show stThing nb nt V (nI c) = _ from (by rw [stThing, if_pos hc, if_neg hz, if_neg (by omega)])]
        exact ⟨_, rfl, rfl, hM, Fr.rf⟩
    · have hz := (nI_eq (b := 0) (by omega) (by decide)).mp c14
      refine A_bipush (pc := 17) (v := (-103)) (by decide) hX dX12_thing_17 ?_
      refine A_iret (pc := 19) hX hR dX12_thing_19 rfl rfl ?_
      rw [show stThing nb nt V (nI c) = _ from (by rw [stThing, if_pos hc, if_pos hz])]
      exact ⟨_, rfl, rfl, hM, Fr.rf⟩
  · have hc := bI_f c4
    refine A_bipush (pc := 7) (v := (-102)) (by decide) hX dX12_thing_7 ?_
    refine A_iret (pc := 9) hX hR dX12_thing_9 rfl rfl ?_
    rw [show stThing nb nt V s = _ from if_neg hc]
    exact ⟨_, rfl, rfl, hM, Fr.rf⟩
set_option maxRecDepth 100000 in
set_option maxHeartbeats 1000000 in
theorem ct_lendM (l : Launch) (G : aG) {m len nb nt kn tw hn : Nat} {cd : Nat → Nat} {B : BorT} {dy kd : Int32} {V KV : ThT} {hI : Bool} {σ : aS} (hM : RM G m len cd nb B nt dy V hI kn kd KV tw hn σ) (hu : uqV nt V) {x y : Int32} : ACt l G yX12_lend cX12_lend 3 (some .int) 2 0 0 [.ref m, .int x, .int y] σ (iP (fun v σ' => v = (stLend nb B nt V x y).1 ∧ RM G m len cd nb B nt dy (stLend nb B nt V x y).2 hI kn kd KV tw hn σ' ∧ Fr m (m + 23) σ σ')) := by
  obtain ⟨fa, nm, wh, hk, sn, hd, kt, ho, ha, ht, hp, hn1, hs1, hkp, hI1, hI2⟩ := id hM
  obtain ⟨hnb, hok, gk, gt, gm, gd, e1, e2, e3, e4, e5⟩ := id ha
  obtain ⟨gs, gw, gl, gr, t1, t2, t3, t4, hnt, hv⟩ := id ht
  refine ACt.intro (own := RX12) (nm := "lend") mk_X12_lend rfl rfl [some (.ref m), some (.int x), some (.int y)] rfl (Nat.le_of_ble_eq_true rfl) (fun X hX hR => ?_)
  refine A_aload_n (pc := 0) rfl hX dX12_lend_0 ?_
  refine A_iload_n (pc := 1) rfl hX dX12_lend_1 ?_
  refine A_V1d (pc := 2) hX mk_X12_isThing lv_X12_147 dX12_lend_2 (by repeat (first | assumption | exact aSet_s | exact aNew_s | refine lk_n ?_ (by omega) | refine lk_f (by assumption) ?_ (by omega) | refine lk_w ?_ (by omega))) (ct_isThing l G ho hnt) rfl (Nat.le_of_ble_eq_true rfl) (Nat.le_of_ble_eq_true rfl) (Nat.le_of_ble_eq_true rfl) (Nat.le_of_ble_eq_true rfl) (Nat.le_of_ble_eq_true rfl) ?_
  refine A_if_eq (pc := 5) 16 hX dX12_lend_5 rfl (fun c5 => ?_) (fun c5 => ?_)
  · have hno := bI_f c5
    refine A_bipush (pc := 16) (v := (-101)) (by decide) hX dX12_lend_16 ?_
    refine A_iret (pc := 18) hX hR dX12_lend_18 rfl rfl ?_
    rw [show stLend nb B nt V x y = _ from if_neg (fun q => hno q.1)]
    exact ⟨_, rfl, rfl, hM, Fr.rf⟩
  · have hin := bI_ne c5
    obtain ⟨i, hi, rfl⟩ := inN_t (by omega) hin
    obtain ⟨w1, w2, w3, w4⟩ := hv i hi
    have hic := nI_clamp (n := i) (by omega)
    refine A_aload_n (pc := 8) rfl hX dX12_lend_8 ?_
    refine A_iload_n (pc := 9) rfl hX dX12_lend_9 ?_
    refine A_V1d (pc := 10) hX mk_X12_isBorrower lv_X12_132 dX12_lend_10 (by repeat (first | assumption | exact aSet_s | exact aNew_s | refine lk_n ?_ (by omega) | refine lk_f (by assumption) ?_ (by omega) | refine lk_w ?_ (by omega))) (ct_isBorrower l G ho hnb) rfl (Nat.le_of_ble_eq_true rfl) (Nat.le_of_ble_eq_true rfl) (Nat.le_of_ble_eq_true rfl) (Nat.le_of_ble_eq_true rfl) (Nat.le_of_ble_eq_true rfl) ?_
    refine A_if_ne (pc := 13) 19 hX dX12_lend_13 rfl (fun c13 => ?_) (fun c13 => ?_)
    · have hin2 := bI_ne c13
      obtain ⟨b, hb, rfl⟩ := inN_t (by omega) hin2
      obtain ⟨v1, v2, v3, v4⟩ := e5 b hb
      have hbc := nI_clamp (n := b) (by omega)
      refine A_aload_n (pc := 19) rfl hX dX12_lend_19 ?_
      refine A_getf (pc := 20) hX fl_X12_25_12 dX12_lend_20 (by repeat (first | assumption | exact aSet_s | exact aNew_s | refine lk_n ?_ (by omega) | refine lk_f (by assumption) ?_ (by omega) | refine lk_w ?_ (by omega))) (by exact rfl) ?_
      refine A_iload_n (pc := 23) rfl hX dX12_lend_23 ?_
      refine A_iald (pc := 24) hX dX12_lend_24 (by repeat (first | assumption | exact aSet_s | exact aNew_s | refine lk_n ?_ (by omega) | refine lk_f (by assumption) ?_ (by omega) | refine lk_w ?_ (by omega))) (vp_in_nI (by omega) (by decide)) ?_
      refine A_top (y := (V i).2.1) (by rw [hic]; exact w2) ?_
      refine A_iconst (pc := 25) (v := (-1)) (by decide) hX dX12_lend_25 ?_
      refine A_icmp_ne (pc := 26) 38 hX dX12_lend_26 rfl (fun c26 => ?_) (fun c26 => ?_)
      · refine A_bipush (pc := 38) (v := (-103)) (by decide) hX dX12_lend_38 ?_
        refine A_iret (pc := 40) hX hR dX12_lend_40 rfl rfl ?_
        rw [show stLend nb B nt V (nI i) (nI b) = _ from (by rw [stLend, if_pos ⟨hin, hin2⟩, hic, if_neg (fun q => c26 q.1)])]
        exact ⟨_, rfl, rfl, hM, Fr.rf⟩
      · refine A_aload_n (pc := 29) rfl hX dX12_lend_29 ?_
        refine A_iload_n (pc := 30) rfl hX dX12_lend_30 ?_
        refine A_V1d (pc := 31) hX mk_X12_whoseThing lv_X12_129 dX12_lend_31 (by repeat (first | assumption | exact aSet_s | exact aNew_s | refine lk_n ?_ (by omega) | refine lk_f (by assumption) ?_ (by omega) | refine lk_w ?_ (by omega))) (ct_whoseThing l G ho ht hu (nI_ne1 (by omega))) rfl (Nat.le_of_ble_eq_true rfl) (Nat.le_of_ble_eq_true rfl) (Nat.le_of_ble_eq_true rfl) (Nat.le_of_ble_eq_true rfl) (Nat.le_of_ble_eq_true rfl) ?_
        refine A_iconst (pc := 34) (v := (-1)) (by decide) hX dX12_lend_34 ?_
        refine A_icmp_eq (pc := 35) 41 hX dX12_lend_35 rfl (fun c35 => ?_) (fun c35 => ?_)
        · refine A_aload_n (pc := 41) rfl hX dX12_lend_41 ?_
          refine A_getf (pc := 42) hX fl_X12_25_12 dX12_lend_42 (by repeat (first | assumption | exact aSet_s | exact aNew_s | refine lk_n ?_ (by omega) | refine lk_f (by assumption) ?_ (by omega) | refine lk_w ?_ (by omega))) (by exact rfl) ?_
          refine A_iload_n (pc := 45) rfl hX dX12_lend_45 ?_
          refine A_iload_n (pc := 46) rfl hX dX12_lend_46 ?_
          refine A_iast (pc := 47) hX dX12_lend_47 (by repeat (first | assumption | exact aSet_s | exact aNew_s | refine lk_n ?_ (by omega) | refine lk_f (by assumption) ?_ (by omega) | refine lk_w ?_ (by omega))) (vp_in_nI (by omega) (by decide)) ?_
          refine A_aload_n (pc := 48) rfl hX dX12_lend_48 ?_
          refine A_getf (pc := 49) hX fl_X12_28_12 dX12_lend_49 (by repeat (first | assumption | exact aSet_s | exact aNew_s | refine lk_n ?_ (by omega) | refine lk_f (by assumption) ?_ (by omega) | refine lk_w ?_ (by omega))) (by exact rfl) ?_
          refine A_iload_n (pc := 52) rfl hX dX12_lend_52 ?_
          refine A_aload_n (pc := 53) rfl hX dX12_lend_53 ?_
          refine A_getf (pc := 54) hX fl_X12_19_12 dX12_lend_54 (by repeat (first | assumption | exact aSet_s | exact aNew_s | refine lk_n ?_ (by omega) | refine lk_f (by assumption) ?_ (by omega) | refine lk_w ?_ (by omega))) (by exact rfl) ?_
          refine A_iload_n (pc := 57) rfl hX dX12_lend_57 ?_
          refine A_iald (pc := 58) hX dX12_lend_58 (by repeat (first | assumption | exact aSet_s | exact aNew_s | refine lk_n ?_ (by omega) | refine lk_f (by assumption) ?_ (by omega) | refine lk_w ?_ (by omega))) (vp_in_nI (by omega) (by decide)) ?_
          refine A_top (y := nI (B b).2.2.2) (by rw [hbc]; exact v4) ?_
          refine A_iast (pc := 59) hX dX12_lend_59 (by repeat (first | assumption | exact aSet_s | exact aNew_s | refine lk_n ?_ (by omega) | refine lk_f (by assumption) ?_ (by omega) | refine lk_w ?_ (by omega))) (vp_in_nI (by omega) (by decide)) ?_
          refine A_gen (fun z => (RMt G (m + 5) nt (fun j => if j = i then ((V i).1, nI b, nI (B b).2.2.2, (V i).2.2.2) else V j) z) ∧ Fr (m + 5) (m + 9) σ z) ⟨⟨_, _, _, _, (by repeat (first | assumption | exact aSet_s | exact aNew_s | refine lk_n ?_ (by omega) | refine lk_f (by assumption) ?_ (by omega) | refine lk_w ?_ (by omega))), (by repeat (first | assumption | exact aSet_s | exact aNew_s | refine lk_n ?_ (by omega) | refine lk_f (by assumption) ?_ (by omega) | refine lk_w ?_ (by omega))), (by repeat (first | assumption | exact aSet_s | exact aNew_s | refine lk_n ?_ (by omega) | refine lk_f (by assumption) ?_ (by omega) | refine lk_w ?_ (by omega))), (by repeat (first | assumption | exact aSet_s | exact aNew_s | refine lk_n ?_ (by omega) | refine lk_f (by assumption) ?_ (by omega) | refine lk_w ?_ (by omega))), by omega, fun j hj => by
            simp only [hic]
            by_cases e : j = i
            · subst e; simp only [upd, if_pos]; refine ⟨?_, ?_, ?_, ?_⟩ <;> first | rfl | trivial | exact w1 | exact w4
            · simp only [upd, if_neg e]; exact hv j hj⟩, ((Fr.rf.set (by omega) (by omega)).set (by omega) (by omega))⟩ (fun σ60 hg => ?_)
          obtain ⟨h60, f60⟩ := hg
          refine A_aload_n (pc := 60) rfl hX dX12_lend_60 ?_
          refine A_getf (pc := 61) hX fl_X12_19_12 dX12_lend_61 (by repeat (first | assumption | exact aSet_s | exact aNew_s | refine lk_n ?_ (by omega) | refine lk_f (by assumption) ?_ (by omega) | refine lk_w ?_ (by omega))) (by exact rfl) ?_
          refine A_iload_n (pc := 64) rfl hX dX12_lend_64 ?_
          refine A_iald (pc := 65) hX dX12_lend_65 (by repeat (first | assumption | exact aSet_s | exact aNew_s | refine lk_n ?_ (by omega) | refine lk_f (by assumption) ?_ (by omega) | refine lk_w ?_ (by omega))) (vp_in_nI (by omega) (by decide)) ?_
          refine A_top (y := nI (B b).2.2.2) (by rw [hbc]; exact v4) ?_
          refine A_iret (pc := 66) hX hR dX12_lend_66 rfl rfl ?_
          rw [show stLend nb B nt V (nI i) (nI b) = _ from (by rw [stLend, if_pos ⟨hin, hin2⟩, hic, if_pos ⟨c26, c35⟩, hbc])]
          exact ⟨_, rfl, rfl, ⟨fa, nm, wh, hk, sn, hd, kt, (lk_f f60 ho (by omega)), (ha.fr f60 (by omega)), h60, (hp.fr f60 (by omega)), (hn1.fr f60 (by omega)), (hs1.fr f60 (by omega)), (hkp.fr f60 (by omega)), hI1, hI2⟩, (by repeat (first | exact Fr.rf | refine Fr.set ?_ (by omega) (by omega) | refine Fr.tr ?_ (Fr.wd (by assumption) (by omega) (by omega))))⟩
        · refine A_bipush (pc := 38) (v := (-103)) (by decide) hX dX12_lend_38 ?_
          refine A_iret (pc := 40) hX hR dX12_lend_40 rfl rfl ?_
          rw [show stLend nb B nt V (nI i) (nI b) = _ from (by rw [stLend, if_pos ⟨hin, hin2⟩, hic, if_neg (fun q => c35 q.2)])]
          exact ⟨_, rfl, rfl, hM, Fr.rf⟩
    · have hno := bI_f c13
      refine A_bipush (pc := 16) (v := (-101)) (by decide) hX dX12_lend_16 ?_
      refine A_iret (pc := 18) hX hR dX12_lend_18 rfl rfl ?_
      rw [show stLend nb B nt V (nI i) y = _ from if_neg (fun q => hno q.2)]
      exact ⟨_, rfl, rfl, hM, Fr.rf⟩
def isL (c : Nat) : Bool := decide (c = 97 ∨ c = 115 ∨ c = 116 ∨ c = 119 ∨ c = 100)
def kbI (c : Nat) : Int32 := if isL c = true then nI (kindC c) else -1
theorem kb_off {c : Nat} (h : c < 128) (h2 : ¬ isL c = true) : Op.lookupswitch.offset [(97, 51), (100, 59), (115, 53), (116, 55), (119, 57)] 61 (nI c).toInt = 61 := (by decide +kernel : ∀ c, c < 128 → ¬ isL c = true → Op.lookupswitch.offset [(97, 51), (100, 59), (115, 53), (116, 55), (119, 57)] 61 (nI c).toInt = 61) c h h2
theorem kb_1 {c : Nat} : (kbI c = -1) ↔ ¬ isL c = true := by
  unfold kbI
  by_cases h : isL c = true
  · rw [if_pos h]
    refine ⟨fun q => ?_, fun q => absurd h q⟩
    rcases of_decide_eq_true h with e | e | e | e | e <;> (subst e; exact absurd q (by decide))
  · rw [if_neg h]; exact ⟨fun _ => h, fun _ => rfl⟩
theorem fg_1 {c : Nat} (h : c < 128) : winB (nI c - nI 48) (nI 0) (nI 2) = decide (48 ≤ c ∧ c < 51) := (by decide +kernel : ∀ c, c < 128 → winB (nI c - nI 48) (nI 0) (nI 2) = decide (48 ≤ c ∧ c < 51)) c h
theorem fg_2 {c : Nat} (h : c < 128) : winB (nI c - nI 48) (nI 1) (nI 7) = decide (49 ≤ c ∧ c ≤ 55) := (by decide +kernel : ∀ c, c < 128 → winB (nI c - nI 48) (nI 1) (nI 7) = decide (49 ≤ c ∧ c ≤ 55)) c h
theorem fg_3 {c : Nat} (h : c < 128) : winB (nI c - nI 48) (nI 1) (nI 5) = decide (49 ≤ c ∧ c ≤ 53) := (by decide +kernel : ∀ c, c < 128 → winB (nI c - nI 48) (nI 1) (nI 5) = decide (49 ≤ c ∧ c ≤ 53)) c h
theorem fit_0 {cd : Nat → Nat} {k : Nat} (hk : k < 30) (h : k % 5 = 0) : fitT cd k = isL (cd k) := by
  rw [fitT, isL]; congr 1
  exact propext ⟨fun q => q.2.1 h, fun q => ⟨by omega, fun _ => q, fun z => absurd z (by omega), fun z => absurd z (by omega), fun z => absurd z (by omega), fun z => absurd z (by omega)⟩⟩
theorem fit_1 {cd : Nat → Nat} {k : Nat} (hk : k < 30) (h : k % 5 = 1) : fitT cd k = decide (48 ≤ cd k ∧ cd k < 51) := by
  rw [fitT]; congr 1
  exact propext ⟨fun q => q.2.2.1 h, fun q => ⟨by omega, fun z => absurd z (by omega), fun _ => q, fun z => absurd z (by omega), fun z => absurd z (by omega), fun z => absurd z (by omega)⟩⟩
theorem fit_2 {cd : Nat → Nat} {k : Nat} (hk : k < 30) (h : k % 5 = 2) : fitT cd k = decide (49 ≤ cd k ∧ cd k ≤ 55) := by
  rw [fitT]; congr 1
  exact propext ⟨fun q => q.2.2.2.1 h, fun q => ⟨by omega, fun z => absurd z (by omega), fun z => absurd z (by omega), fun _ => q, fun z => absurd z (by omega), fun z => absurd z (by omega)⟩⟩
theorem fit_3 {cd : Nat → Nat} {k : Nat} (hk : k < 30) (h : k % 5 = 3) : fitT cd k = decide (49 ≤ cd k ∧ cd k ≤ 53) := by
  rw [fitT]; congr 1
  exact propext ⟨fun q => q.2.2.2.2.1 h, fun q => ⟨by omega, fun z => absurd z (by omega), fun z => absurd z (by omega), fun z => absurd z (by omega), fun _ => q, fun z => absurd z (by omega)⟩⟩
theorem fit_4 {cd : Nat → Nat} {k : Nat} (hk : k < 30) (h : k % 5 = 4) : fitT cd k = decide (cd k = 44 ∧ k / 5 < 5) := by
  rw [fitT]; congr 1
  exact propext ⟨fun q => ⟨q.2.2.2.2.2 h, by omega⟩, fun q => ⟨by omega, fun z => absurd z (by omega), fun z => absurd z (by omega), fun z => absurd z (by omega), fun z => absurd z (by omega), fun _ => q.1⟩⟩
set_option maxRecDepth 100000 in
set_option maxHeartbeats 1000000 in
theorem ct_kindBy (l : Launch) (G : aG) {c : Nat} (hc : c < 128) {σ : aS} : ACt l G yX12_kindBy cX12_kindBy 1 (some .int) 0 0 0 [.int (nI c)] σ (dP (some (.int (kbI c))) σ) := by
  refine ACt.intro (own := RX12) (nm := "kindBy") mk_X12_kindBy rfl rfl [some (.int (nI c))] rfl (Nat.le_of_ble_eq_true rfl) (fun X hX hR => ?_)
  refine A_iload_n (pc := 0) rfl hX dX12_kindBy_0 ?_
  by_cases hq : isL c = true
  · rcases of_decide_eq_true hq with e | e | e | e | e <;> subst e
    · refine A_lookup (pc := 1) (off := 51) 52 hX dX12_kindBy_1 (by decide) (by decide) rfl ?_
      refine A_iconst (pc := 52) (v := (nI 0)) (by decide) hX dX12_kindBy_52 ?_
      refine A_iret (pc := 53) hX hR dX12_kindBy_53 rfl rfl ?_
      exact ⟨rfl, rfl⟩
    · refine A_lookup (pc := 1) (off := 53) 54 hX dX12_kindBy_1 (by decide) (by decide) rfl ?_
      refine A_iconst (pc := 54) (v := (nI 1)) (by decide) hX dX12_kindBy_54 ?_
      refine A_iret (pc := 55) hX hR dX12_kindBy_55 rfl rfl ?_
      exact ⟨rfl, rfl⟩
    · refine A_lookup (pc := 1) (off := 55) 56 hX dX12_kindBy_1 (by decide) (by decide) rfl ?_
      refine A_iconst (pc := 56) (v := (nI 2)) (by decide) hX dX12_kindBy_56 ?_
      refine A_iret (pc := 57) hX hR dX12_kindBy_57 rfl rfl ?_
      exact ⟨rfl, rfl⟩
    · refine A_lookup (pc := 1) (off := 57) 58 hX dX12_kindBy_1 (by decide) (by decide) rfl ?_
      refine A_iconst (pc := 58) (v := (nI 3)) (by decide) hX dX12_kindBy_58 ?_
      refine A_iret (pc := 59) hX hR dX12_kindBy_59 rfl rfl ?_
      exact ⟨rfl, rfl⟩
    · refine A_lookup (pc := 1) (off := 59) 60 hX dX12_kindBy_1 (by decide) (by decide) rfl ?_
      refine A_iconst (pc := 60) (v := (nI 4)) (by decide) hX dX12_kindBy_60 ?_
      refine A_iret (pc := 61) hX hR dX12_kindBy_61 rfl rfl ?_
      exact ⟨rfl, rfl⟩
  · refine A_lookup (pc := 1) (off := 61) 62 hX dX12_kindBy_1 (by decide) (kb_off hc hq) rfl ?_
    refine A_iconst (pc := 62) (v := (-1)) (by decide) hX dX12_kindBy_62 ?_
    refine A_iret (pc := 63) hX hR dX12_kindBy_63 rfl rfl ?_
    exact ⟨by rw [kbI, if_neg hq], rfl⟩
set_option maxRecDepth 100000 in
set_option maxHeartbeats 1000000 in
theorem ct_isGood (l : Launch) (G : aG) {m tw nb nt hn len kt kn : Nat} {dy fa nm kd : Int32} {wh hk : Bool} {sn hd : Int64} {σ : aS} (ho : σ.2 m = some (oM m tw nb nt dy hn len fa wh nm sn hk kt kn kd hd)) {cd : Nat → Nat} (hp : RMp G m len cd σ) {k : Nat} (hk : k < len) : ACt l G yX12_isGood cX12_isGood 4 (some (.boolean)) 1 0 0 [.ref m, .int (nI k)] σ (dP (some (.int (bI (fitT cd k)))) σ) := by
  obtain ⟨pf, p1, p2, p3⟩ := id hp
  obtain ⟨v1, v2⟩ := p3 k hk
  have hkc := nI_clamp (n := k) (by omega)
  refine ACt.intro (own := RX12) (nm := "isGood") mk_X12_isGood rfl rfl [some (.ref m), some (.int (nI k)), none, none] rfl (Nat.le_of_ble_eq_true rfl) (fun X hX hR => ?_)
  refine A_aload_n (pc := 0) rfl hX dX12_isGood_0 ?_
  refine A_getf (pc := 1) hX fl_X12_34_12 dX12_isGood_1 (by repeat (first | assumption | exact aSet_s | exact aNew_s | refine lk_n ?_ (by omega) | refine lk_f (by assumption) ?_ (by omega) | refine lk_w ?_ (by omega))) (by exact rfl) ?_
  refine A_iload_n (pc := 4) rfl hX dX12_isGood_4 ?_
  refine A_bald (pc := 5) hX dX12_isGood_5 (by repeat (first | assumption | exact aSet_s | exact aNew_s | refine lk_n ?_ (by omega) | refine lk_f (by assumption) ?_ (by omega) | refine lk_w ?_ (by omega))) (vp_in_nI (by omega) (by decide)) ?_
  refine A_top (y := nI (cd k)) (by rw [hkc]; exact v1) ?_
  refine A_bipush (pc := 6) (v := (nI 48)) (by decide) hX dX12_isGood_6 ?_
  refine A_isub (pc := 8) hX dX12_isGood_8 ?_
  refine A_istore_n (pc := 9) (lv' := [_, _, _, _]) hX dX12_isGood_9 (Nat.le_of_ble_eq_true rfl) rfl rfl ?_
  refine A_iload_n (pc := 10) rfl hX dX12_isGood_10 ?_
  refine A_iconst (pc := 11) (v := (nI 5)) (by decide) hX dX12_isGood_11 ?_
  refine A_idiv (pc := 12) (by decide) hX dX12_isGood_12 ?_
  refine A_top (y := nI (k / 5)) (pk_div (by omega) (by decide) (by decide)) ?_
  refine A_istore_n (pc := 13) (lv' := [_, _, _, _]) hX dX12_isGood_13 (Nat.le_of_ble_eq_true rfl) rfl rfl ?_
  refine A_iload_n (pc := 14) rfl hX dX12_isGood_14 ?_
  refine A_iconst (pc := 15) (v := (nI 5)) (by decide) hX dX12_isGood_15 ?_
  refine A_irem (pc := 16) (by decide) hX dX12_isGood_16 ?_
  refine A_top (y := nI (k % 5)) (pk_rem (by omega) (by decide) (by decide)) ?_
  rcases (by omega : k % 5 = 0 ∨ k % 5 = 1 ∨ k % 5 = 2 ∨ k % 5 = 3 ∨ k % 5 = 4) with h5 | h5 | h5 | h5 | h5 <;> rw [h5]
  · refine A_tabIn (pc := 17) (off := 31) 48 hX dX12_isGood_17 (by decide) (by decide) rfl rfl ?_
    refine A_aload_n (pc := 48) rfl hX dX12_isGood_48 ?_
    refine A_getf (pc := 49) hX fl_X12_34_12 dX12_isGood_49 (by repeat (first | assumption | exact aSet_s | exact aNew_s | refine lk_n ?_ (by omega) | refine lk_f (by assumption) ?_ (by omega) | refine lk_w ?_ (by omega))) (by exact rfl) ?_
    refine A_iload_n (pc := 52) rfl hX dX12_isGood_52 ?_
    refine A_bald (pc := 53) hX dX12_isGood_53 (by repeat (first | assumption | exact aSet_s | exact aNew_s | refine lk_n ?_ (by omega) | refine lk_f (by assumption) ?_ (by omega) | refine lk_w ?_ (by omega))) (vp_in_nI (by omega) (by decide)) ?_
    refine A_top (y := nI (cd k)) (by rw [hkc]; exact v1) ?_
    refine A_S1d (pc := 54) hX mk_X12_kindBy ls_X12_85 dX12_isGood_54 (ct_kindBy l G v2) rfl (Nat.le_of_ble_eq_true rfl) (Nat.le_of_ble_eq_true rfl) (Nat.le_of_ble_eq_true rfl) (Nat.le_of_ble_eq_true rfl) (Nat.le_of_ble_eq_true rfl) ?_
    refine A_iconst (pc := 57) (v := (-1)) (by decide) hX dX12_isGood_57 ?_
    refine A_icmp_eq (pc := 58) 65 hX dX12_isGood_58 rfl (fun c58 => ?_) (fun c58 => ?_)
    · refine A_iconst (pc := 65) (v := (nI 0)) (by decide) hX dX12_isGood_65 ?_
      refine A_iret (pc := 66) hX hR dX12_isGood_66 rfl rfl ?_
      exact bl_f (by rw [fit_0 (by omega) h5]; exact Bool.eq_false_iff.mpr (kb_1.mp c58))
    · refine A_iconst (pc := 61) (v := (nI 1)) (by decide) hX dX12_isGood_61 ?_
      refine A_goto (pc := 62) 66 hX dX12_isGood_62 rfl ?_
      refine A_iret (pc := 66) hX hR dX12_isGood_66 rfl rfl ?_
      exact bl_t (by rw [fit_0 (by omega) h5]; exact Decidable.byContradiction fun q => c58 (kb_1.mpr q))
  · refine A_tabIn (pc := 17) (off := 50) 67 hX dX12_isGood_17 (by decide) (by decide) rfl rfl ?_
    refine A_iload_n (pc := 67) rfl hX dX12_isGood_67 ?_
    refine A_iconst (pc := 68) (v := (nI 0)) (by decide) hX dX12_isGood_68 ?_
    refine A_iconst (pc := 69) (v := (nI 2)) (by decide) hX dX12_isGood_69 ?_
    refine A_S3d (pc := 70) hX mk_X12_within ls_X12_77 dX12_isGood_70 (ct_within l G ) rfl (Nat.le_of_ble_eq_true rfl) (Nat.le_of_ble_eq_true rfl) (Nat.le_of_ble_eq_true rfl) (Nat.le_of_ble_eq_true rfl) (Nat.le_of_ble_eq_true rfl) ?_
    refine A_iret (pc := 73) hX hR dX12_isGood_73 rfl (bI_z _) ?_
    exact ⟨by rw [fg_1 v2, fit_1 (by omega) h5], rfl⟩
  · refine A_tabIn (pc := 17) (off := 57) 74 hX dX12_isGood_17 (by decide) (by decide) rfl rfl ?_
    refine A_iload_n (pc := 74) rfl hX dX12_isGood_74 ?_
    refine A_iconst (pc := 75) (v := (nI 1)) (by decide) hX dX12_isGood_75 ?_
    refine A_bipush (pc := 76) (v := (nI 7)) (by decide) hX dX12_isGood_76 ?_
    refine A_S3d (pc := 78) hX mk_X12_within ls_X12_77 dX12_isGood_78 (ct_within l G ) rfl (Nat.le_of_ble_eq_true rfl) (Nat.le_of_ble_eq_true rfl) (Nat.le_of_ble_eq_true rfl) (Nat.le_of_ble_eq_true rfl) (Nat.le_of_ble_eq_true rfl) ?_
    refine A_iret (pc := 81) hX hR dX12_isGood_81 rfl (bI_z _) ?_
    exact ⟨by rw [fg_2 v2, fit_2 (by omega) h5], rfl⟩
  · refine A_tabIn (pc := 17) (off := 65) 82 hX dX12_isGood_17 (by decide) (by decide) rfl rfl ?_
    refine A_iload_n (pc := 82) rfl hX dX12_isGood_82 ?_
    refine A_iconst (pc := 83) (v := (nI 1)) (by decide) hX dX12_isGood_83 ?_
    refine A_iconst (pc := 84) (v := (nI 5)) (by decide) hX dX12_isGood_84 ?_
    refine A_S3d (pc := 85) hX mk_X12_within ls_X12_77 dX12_isGood_85 (ct_within l G ) rfl (Nat.le_of_ble_eq_true rfl) (Nat.le_of_ble_eq_true rfl) (Nat.le_of_ble_eq_true rfl) (Nat.le_of_ble_eq_true rfl) (Nat.le_of_ble_eq_true rfl) ?_
    refine A_iret (pc := 88) hX hR dX12_isGood_88 rfl (bI_z _) ?_
    exact ⟨by rw [fg_3 v2, fit_3 (by omega) h5], rfl⟩
  · refine A_tabOut (pc := 17) 89 hX dX12_isGood_17 (by decide) rfl ?_
    refine A_aload_n (pc := 89) rfl hX dX12_isGood_89 ?_
    refine A_getf (pc := 90) hX fl_X12_34_12 dX12_isGood_90 (by repeat (first | assumption | exact aSet_s | exact aNew_s | refine lk_n ?_ (by omega) | refine lk_f (by assumption) ?_ (by omega) | refine lk_w ?_ (by omega))) (by exact rfl) ?_
    refine A_iload_n (pc := 93) rfl hX dX12_isGood_93 ?_
    refine A_bald (pc := 94) hX dX12_isGood_94 (by repeat (first | assumption | exact aSet_s | exact aNew_s | refine lk_n ?_ (by omega) | refine lk_f (by assumption) ?_ (by omega) | refine lk_w ?_ (by omega))) (vp_in_nI (by omega) (by decide)) ?_
    refine A_top (y := nI (cd k)) (by rw [hkc]; exact v1) ?_
    refine A_bipush (pc := 95) (v := (nI 44)) (by decide) hX dX12_isGood_95 ?_
    refine A_icmp_ne (pc := 97) 109 hX dX12_isGood_97 rfl (fun c97 => ?_) (fun c97 => ?_)
    · refine A_iconst (pc := 109) (v := (nI 0)) (by decide) hX dX12_isGood_109 ?_
      refine A_iret (pc := 110) hX hR dX12_isGood_110 rfl rfl ?_
      exact bl_f (by rw [fit_4 (by omega) h5]; exact decide_eq_false fun q => c97 (by rw [q.1]))
    · refine A_iload_n (pc := 100) rfl hX dX12_isGood_100 ?_
      refine A_iconst (pc := 101) (v := (nI 5)) (by decide) hX dX12_isGood_101 ?_
      refine A_icmp_ge (pc := 102) 109 hX dX12_isGood_102 rfl (fun c102 => ?_) (fun c102 => ?_)
      · refine A_iconst (pc := 109) (v := (nI 0)) (by decide) hX dX12_isGood_109 ?_
        refine A_iret (pc := 110) hX hR dX12_isGood_110 rfl rfl ?_
        exact bl_f (by rw [fit_4 (by omega) h5]; exact decide_eq_false fun q => nI_ge q.2 (by decide) c102)
      · refine A_iconst (pc := 105) (v := (nI 1)) (by decide) hX dX12_isGood_105 ?_
        refine A_goto (pc := 106) 110 hX dX12_isGood_106 rfl ?_
        refine A_iret (pc := 110) hX hR dX12_isGood_110 rfl rfl ?_
        exact bl_t (by rw [fit_4 (by omega) h5]; exact decide_eq_true ⟨(nI_eq (b := 44) (by omega) (by decide)).mp c97, (by rcases Nat.lt_or_ge (k / 5) 5 with q | q; exact q; exact absurd (nI_le q (by omega)) c102)⟩)
theorem fg_r {c nb : Nat} (h : c < 128) (hn : nb ≤ 6) : winB (nI c - nI 48) (nI 0) (nI nb - nI 1) = decide (48 ≤ c ∧ c < 48 + nb) := (by decide +kernel : ∀ nb, nb < 7 → ∀ c, c < 128 → winB (nI c - nI 48) (nI 0) (nI nb - nI 1) = decide (48 ≤ c ∧ c < 48 + nb)) nb (by omega) c h
set_option maxRecDepth 100000 in
set_option maxHeartbeats 1000000 in
theorem ct_readRound (l : Launch) (G : aG) {m tw nb nt hn len kt kn : Nat} {dy fa nm kd : Int32} {wh hk : Bool} {sn hd : Int64} {σ : aS} (ho : σ.2 m = some (oM m tw nb nt dy hn len fa wh nm sn hk kt kn kd hd)) {cd : Nat → Nat} (hp : RMp G m len cd σ) (hnb : nb ≤ 6) : ACt l G yX12_readRound cX12_readRound 2 (none) 1 0 0 [.ref m] σ (vP (fun σ' => σ'.2 m = some (oM m tw nb nt dy hn len (nI (faultOf (fitR nb cd) len)) (isRnB nb cd len) nm sn hk kt kn kd hd) ∧ Fr m (m + 1) σ σ')) := by
  obtain ⟨pf, p1, p2, p3⟩ := id hp
  have hfl : faultOf (fitR nb cd) len ≤ len := by have := flt_le (fitR nb cd) len 0; rw [faultOf]; omega
  refine ACt.intro (own := RX12) (nm := "readRound") mk_X12_readRound rfl rfl [some (.ref m), none] rfl (Nat.le_of_ble_eq_true rfl) (fun X hX hR => ?_)
  refine A_iconst (pc := 0) (v := (nI 0)) (by decide) hX dX12_readRound_0 ?_
  refine A_istore_n (pc := 1) (lv' := [_, _]) hX dX12_readRound_1 (Nat.le_of_ble_eq_true rfl) rfl rfl ?_
  have h67 : ∀ σ1 : aS, σ1.2 m = some (oM m tw nb nt dy hn len (nI (faultOf (fitR nb cd) len)) wh nm sn hk kt kn kd hd) → Fr m (m + 1) σ σ1 → AA G X 0 0 67 [some (.ref m), some (.int (nI (faultOf (fitR nb cd) len)))] [.int (bI (isRnB nb cd len)), .ref m] σ1 := by
    intro σ1 q0 q1
    refine A_putf (pc := 67) (fs' := [_, _, _, _, _, _, _, _, _, _, _, _, _, _, _, _, _, _, _, _, _, _, _, _, _, _, _, _, _, _, _, _, _, _, _, _, _]) hX pl_X12_96_12 dX12_readRound_67 (by repeat (first | assumption | exact aSet_s | exact aNew_s | refine lk_n ?_ (by omega) | refine lk_f (by assumption) ?_ (by omega) | refine lk_w ?_ (by omega))) (by exact Nat.le_of_ble_eq_true rfl) (by exact rfl) (bI_z _) (bI_fit _) ?_
    refine A_ret (pc := 70) hX hR dX12_readRound_70 ?_
    exact ⟨rfl, aSet_s, (by repeat (first | exact Fr.rf | refine Fr.set ?_ (by omega) (by omega) | refine Fr.tr ?_ (Fr.wd (by assumption) (by omega) (by omega))))⟩
  have h44 : AA G X 0 0 44 [some (.ref m), some (.int (nI (faultOf (fitR nb cd) len)))] [] σ := by
    skip
    refine A_aload_n (pc := 44) rfl hX dX12_readRound_44 ?_
    refine A_iload_n (pc := 45) rfl hX dX12_readRound_45 ?_
    refine A_putf (pc := 46) (fs' := [_, _, _, _, _, _, _, _, _, _, _, _, _, _, _, _, _, _, _, _, _, _, _, _, _, _, _, _, _, _, _, _, _, _, _, _, _]) hX pl_X12_93_12 dX12_readRound_46 (by repeat (first | assumption | exact aSet_s | exact aNew_s | refine lk_n ?_ (by omega) | refine lk_f (by assumption) ?_ (by omega) | refine lk_w ?_ (by omega))) (by exact Nat.le_of_ble_eq_true rfl) (by exact rfl) rfl rfl ?_
    refine A_gen (fun z => (z.2 m = some (oM m (tw) (nb) (nt) (dy) (hn) (len) (nI (faultOf (fitR nb cd) len)) (wh) (nm) (sn) (hk) (kt) (kn) (kd) (hd))) ∧ Fr (m) (m + 1) σ z) ⟨aSet_s, (Fr.rf.set (by omega) (by omega))⟩ (fun σ49 hg => ?_)
    obtain ⟨h49, f49⟩ := hg
    refine A_aload_n (pc := 49) rfl hX dX12_readRound_49 ?_
    refine A_iload_n (pc := 50) rfl hX dX12_readRound_50 ?_
    refine A_aload_n (pc := 51) rfl hX dX12_readRound_51 ?_
    refine A_getf (pc := 52) hX fl_X12_81_12 dX12_readRound_52 (by repeat (first | assumption | exact aSet_s | exact aNew_s | refine lk_n ?_ (by omega) | refine lk_f (by assumption) ?_ (by omega) | refine lk_w ?_ (by omega))) (by exact rfl) ?_
    refine A_icmp_ne (pc := 55) 66 hX dX12_readRound_55 rfl (fun c55 => ?_) (fun c55 => ?_)
    · refine A_iconst (pc := 66) (v := (nI 0)) (by decide) hX dX12_readRound_66 ?_
      exact A_top (by rw [isRnB, decide_eq_false (fun q => c55 (by rw [q.2]))]; rfl) (h67 σ49 h49 f49)
    · refine A_iload_n (pc := 58) rfl hX dX12_readRound_58 ?_
      refine A_if_le (pc := 59) 66 hX dX12_readRound_59 rfl (fun c59 => ?_) (fun c59 => ?_)
      · refine A_iconst (pc := 66) (v := (nI 0)) (by decide) hX dX12_readRound_66 ?_
        exact A_top (by rw [isRnB, decide_eq_false (fun q => absurd ((nI_leI (b := 0) (by omega) (by decide)).mp c59) (by have := (nI_eq (by omega) (by omega)).mp c55; omega))]; rfl) (h67 σ49 h49 f49)
      · refine A_iconst (pc := 62) (v := (nI 1)) (by decide) hX dX12_readRound_62 ?_
        refine A_goto (pc := 63) 67 hX dX12_readRound_63 rfl ?_
        exact A_top (by rw [isRnB, decide_eq_true ⟨(by rcases Nat.eq_zero_or_pos len with z | z; exact absurd (by rw [(nI_eq (by omega) (by omega)).mp c55, z]; decide) c59; exact z), (nI_eq (by omega) (by omega)).mp c55⟩]; rfl) (h67 σ49 h49 f49)
  suffices hl : ∀ (n k : Nat), k + n = len → faultOf (fitR nb cd) len = flt (fitR nb cd) n k → AA G X 0 0 2 [some (.ref m), some (.int (nI k))] [] σ from hl len 0 (by omega) rfl
  intro n
  induction n with
  | zero =>
    intro k hk hq
    have e : faultOf (fitR nb cd) len = k := hq
    rw [← e]
    have e2 : faultOf (fitR nb cd) len = len := by omega
    refine A_iload_n (pc := 2) rfl hX dX12_readRound_2 ?_
    refine A_aload_n (pc := 3) rfl hX dX12_readRound_3 ?_
    refine A_getf (pc := 4) hX fl_X12_81_12 dX12_readRound_4 (by repeat (first | assumption | exact aSet_s | exact aNew_s | refine lk_n ?_ (by omega) | refine lk_f (by assumption) ?_ (by omega) | refine lk_w ?_ (by omega))) (by exact rfl) ?_
    refine A_icmp_ge (pc := 7) 44 hX dX12_readRound_7 rfl (fun c7 => ?_) (fun c7 => ?_)
    · exact h44
    · exact absurd (by rw [e2]; exact nI_le (Nat.le_refl _) (by omega)) c7
  | succ n ih =>
    intro k hk hq
    rw [flt] at hq
    have hkl : k < len := by omega
    obtain ⟨v1, v2⟩ := p3 k hkl
    have hkc := nI_clamp (n := k) (by omega)
    have hno : ¬ fitR nb cd k = true → AA G X 0 0 44 [some (.ref m), some (.int (nI k))] [] σ := fun q => by
      rw [if_neg q] at hq
      rw [← hq]; exact h44
    refine A_iload_n (pc := 2) rfl hX dX12_readRound_2 ?_
    refine A_aload_n (pc := 3) rfl hX dX12_readRound_3 ?_
    refine A_getf (pc := 4) hX fl_X12_81_12 dX12_readRound_4 (by repeat (first | assumption | exact aSet_s | exact aNew_s | refine lk_n ?_ (by omega) | refine lk_f (by assumption) ?_ (by omega) | refine lk_w ?_ (by omega))) (by exact rfl) ?_
    refine A_icmp_ge (pc := 7) 44 hX dX12_readRound_7 rfl (fun c7 => ?_) (fun c7 => ?_)
    · exact absurd c7 (nI_ge hkl (by omega))
    · refine A_iload_n (pc := 10) rfl hX dX12_readRound_10 ?_
      refine A_bipush (pc := 11) (v := (nI 8)) (by decide) hX dX12_readRound_11 ?_
      refine A_icmp_ge (pc := 13) 44 hX dX12_readRound_13 rfl (fun c13 => ?_) (fun c13 => ?_)
      · exact hno (fun q => absurd ((nI_leI (a := 8) (by decide) (by omega)).mp c13) (by have := (of_decide_eq_true q).1; omega))
      · have h8 : k < 8 := by
          rcases Nat.lt_or_ge k 8 with q | q
          · exact q
          · exact absurd (nI_le q (by omega)) c13
        refine A_aload_n (pc := 16) rfl hX dX12_readRound_16 ?_
        refine A_getf (pc := 17) hX fl_X12_34_12 dX12_readRound_17 (by repeat (first | assumption | exact aSet_s | exact aNew_s | refine lk_n ?_ (by omega) | refine lk_f (by assumption) ?_ (by omega) | refine lk_w ?_ (by omega))) (by exact rfl) ?_
        refine A_iload_n (pc := 20) rfl hX dX12_readRound_20 ?_
        refine A_bald (pc := 21) hX dX12_readRound_21 (by repeat (first | assumption | exact aSet_s | exact aNew_s | refine lk_n ?_ (by omega) | refine lk_f (by assumption) ?_ (by omega) | refine lk_w ?_ (by omega))) (vp_in_nI (by omega) (by decide)) ?_
        refine A_top (y := nI (cd k)) (by rw [hkc]; exact v1) ?_
        refine A_bipush (pc := 22) (v := (nI 48)) (by decide) hX dX12_readRound_22 ?_
        refine A_isub (pc := 24) hX dX12_readRound_24 ?_
        refine A_iconst (pc := 25) (v := (nI 0)) (by decide) hX dX12_readRound_25 ?_
        refine A_aload_n (pc := 26) rfl hX dX12_readRound_26 ?_
        refine A_getf (pc := 27) hX fl_X12_103_12 dX12_readRound_27 (by repeat (first | assumption | exact aSet_s | exact aNew_s | refine lk_n ?_ (by omega) | refine lk_f (by assumption) ?_ (by omega) | refine lk_w ?_ (by omega))) (by exact rfl) ?_
        refine A_iconst (pc := 30) (v := (nI 1)) (by decide) hX dX12_readRound_30 ?_
        refine A_isub (pc := 31) hX dX12_readRound_31 ?_
        refine A_S3d (pc := 32) hX mk_X12_within ls_X12_77 dX12_readRound_32 (ct_within l G ) rfl (Nat.le_of_ble_eq_true rfl) (Nat.le_of_ble_eq_true rfl) (Nat.le_of_ble_eq_true rfl) (Nat.le_of_ble_eq_true rfl) (Nat.le_of_ble_eq_true rfl) ?_
        refine A_if_eq (pc := 35) 44 hX dX12_readRound_35 rfl (fun c35 => ?_) (fun c35 => ?_)
        · exact hno (fun q => absurd c35 (by rw [fg_r v2 hnb, decide_eq_true (of_decide_eq_true q).2]; decide))
        · have hg : fitR nb cd k = true := decide_eq_true ⟨h8, of_decide_eq_true (by rw [← fg_r v2 hnb]; exact bI_ne c35)⟩
          rw [if_pos hg] at hq
          refine A_iinc (pc := 38) (v := (nI (k + 1))) (lv' := [_, _]) hX dX12_readRound_38 rfl (nI_succ k).symm rfl rfl ?_
          refine A_goto (pc := 41) 2 hX dX12_readRound_41 rfl ?_
          exact ih (k + 1) (by omega) hq
set_option maxRecDepth 100000 in
set_option maxHeartbeats 1000000 in
theorem ct_endsOf (l : Launch) (G : aG) {m tw nb nt hn len kt kn : Nat} {dy fa nm kd : Int32} {wh hk : Bool} {sn hd : Int64} {σ : aS} (ho : σ.2 m = some (oM m tw nb nt dy hn len fa wh nm sn hk kt kn kd hd)) {B : BorT} (ha : RMa G m nb B σ) {cd : Nat → Nat} (hp : RMp G m len cd σ) (hr : okR nb cd len) {s : Nat} (hs : s < 512) : ACt l G yX12_endsOf cX12_endsOf 4 (some .int) 2 0 0 [.ref m, .int (nI s)] σ (dP (some (.int (nI (endF B cd len 0 s)))) σ) := by
  obtain ⟨hnb, hok, gk, gt, gm, gd, e1, e2, e3, e4, e5⟩ := id ha
  obtain ⟨pf, p1, p2, p3⟩ := id hp
  refine ACt.intro (own := RX12) (nm := "endsOf") mk_X12_endsOf rfl rfl [some (.ref m), some (.int (nI s)), none, none] rfl (Nat.le_of_ble_eq_true rfl) (fun X hX hR => ?_)
  refine A_iload_n (pc := 0) rfl hX dX12_endsOf_0 ?_
  refine A_istore_n (pc := 1) (lv' := [_, _, _, _]) hX dX12_endsOf_1 (Nat.le_of_ble_eq_true rfl) rfl rfl ?_
  refine A_iconst (pc := 2) (v := (nI 0)) (by decide) hX dX12_endsOf_2 ?_
  refine A_istore_n (pc := 3) (lv' := [_, _, _, _]) hX dX12_endsOf_3 (Nat.le_of_ble_eq_true rfl) rfl rfl ?_
  suffices hl : ∀ (n k s1 : Nat), k + n = len → s1 < 512 → endF B cd len 0 s = endF B cd n k s1 → AA G X 0 0 4 [some (.ref m), some (.int (nI s)), some (.int (nI s1)), some (.int (nI k))] [] σ from hl len 0 s (by omega) hs rfl
  intro n
  induction n with
  | zero =>
    intro k s1 hk hs1 hq
    have e : len = k := by omega
    subst e
    refine A_iload_n (pc := 4) rfl hX dX12_endsOf_4 ?_
    refine A_aload_n (pc := 5) rfl hX dX12_endsOf_5 ?_
    refine A_getf (pc := 6) hX fl_X12_81_12 dX12_endsOf_6 (by repeat (first | assumption | exact aSet_s | exact aNew_s | refine lk_n ?_ (by omega) | refine lk_f (by assumption) ?_ (by omega) | refine lk_w ?_ (by omega))) (by exact rfl) ?_
    refine A_icmp_ge (pc := 9) 33 hX dX12_endsOf_9 rfl (fun c9 => ?_) (fun c9 => ?_)
    · refine A_iload_n (pc := 33) rfl hX dX12_endsOf_33 ?_
      refine A_iret (pc := 34) hX hR dX12_endsOf_34 rfl rfl ?_
      exact ⟨by rw [hq]; rfl, rfl⟩
    · exact absurd (nI_le (Nat.le_refl _) (by omega)) c9
  | succ n ih =>
    intro k s1 hk hs1 hq
    have hkl : k < len := by omega
    obtain ⟨v1, v2⟩ := p3 k hkl
    obtain ⟨r1, r2⟩ := hr k hkl
    have hkc := nI_clamp (n := k) (by omega)
    refine A_iload_n (pc := 4) rfl hX dX12_endsOf_4 ?_
    refine A_aload_n (pc := 5) rfl hX dX12_endsOf_5 ?_
    refine A_getf (pc := 6) hX fl_X12_81_12 dX12_endsOf_6 (by repeat (first | assumption | exact aSet_s | exact aNew_s | refine lk_n ?_ (by omega) | refine lk_f (by assumption) ?_ (by omega) | refine lk_w ?_ (by omega))) (by exact rfl) ?_
    refine A_icmp_ge (pc := 9) 33 hX dX12_endsOf_9 rfl (fun c9 => ?_) (fun c9 => ?_)
    · exact absurd c9 (nI_ge hkl (by omega))
    · refine A_aload_n (pc := 12) rfl hX dX12_endsOf_12 ?_
      refine A_aload_n (pc := 13) rfl hX dX12_endsOf_13 ?_
      refine A_getf (pc := 14) hX fl_X12_34_12 dX12_endsOf_14 (by repeat (first | assumption | exact aSet_s | exact aNew_s | refine lk_n ?_ (by omega) | refine lk_f (by assumption) ?_ (by omega) | refine lk_w ?_ (by omega))) (by exact rfl) ?_
      refine A_iload_n (pc := 17) rfl hX dX12_endsOf_17 ?_
      refine A_bald (pc := 18) hX dX12_endsOf_18 (by repeat (first | assumption | exact aSet_s | exact aNew_s | refine lk_n ?_ (by omega) | refine lk_f (by assumption) ?_ (by omega) | refine lk_w ?_ (by omega))) (vp_in_nI (by omega) (by decide)) ?_
      refine A_top (y := nI (cd k)) (by rw [hkc]; exact v1) ?_
      refine A_bipush (pc := 19) (v := (nI 48)) (by decide) hX dX12_endsOf_19 ?_
      refine A_isub (pc := 21) hX dX12_endsOf_21 ?_
      refine A_top (y := nI (cd k - 48)) (pk_sub (by omega)) ?_
      refine A_iload_n (pc := 22) rfl hX dX12_endsOf_22 ?_
      refine A_V2d (pc := 23) hX mk_X12_made lv_X12_141 dX12_endsOf_23 (by repeat (first | assumption | exact aSet_s | exact aNew_s | refine lk_n ?_ (by omega) | refine lk_f (by assumption) ?_ (by omega) | refine lk_w ?_ (by omega))) (ct_made l G ho ha (by omega) hs1) rfl (Nat.le_of_ble_eq_true rfl) (Nat.le_of_ble_eq_true rfl) (Nat.le_of_ble_eq_true rfl) (Nat.le_of_ble_eq_true rfl) (Nat.le_of_ble_eq_true rfl) ?_
      refine A_istore_n (pc := 26) (lv' := [_, _, _, _]) hX dX12_endsOf_26 (Nat.le_of_ble_eq_true rfl) rfl rfl ?_
      refine A_iinc (pc := 27) (v := (nI (k + 1))) (lv' := [_, _, _, _]) hX dX12_endsOf_27 rfl (nI_succ k).symm rfl rfl ?_
      refine A_goto (pc := 30) 4 hX dX12_endsOf_30 rfl ?_
      exact ih (k + 1) _ (by omega) (mkB_lt hok (by omega) hs1) hq
def RMv (G : aG) (m M : Nat) (B : BorT) (σ : aS) : Prop := ∃ a b c d : Nat → Int32, σ.2 (m + 10) = some (aI G 6 a) ∧ σ.2 (m + 11) = some (aI G 6 b) ∧ σ.2 (m + 12) = some (aI G 6 c) ∧ σ.2 (m + 13) = some (aI G 6 d) ∧ ∀ i, i < M → a i = nI (B i).1 ∧ b i = nI (B i).2.1 ∧ c i = nI (B i).2.2.1 ∧ d i = nI (B i).2.2.2
set_option maxRecDepth 100000 in
set_option maxHeartbeats 1000000 in
theorem ct_readTown (l : Launch) (G : aG) {m tw nb nt hn len kt kn : Nat} {dy fa nm kd : Int32} {wh hk : Bool} {sn hd : Int64} {σ : aS} (ho : σ.2 m = some (oM m tw nb nt dy hn len fa wh nm sn hk kt kn kd hd)) {cd : Nat → Nat} (hp : RMp G m len cd σ) (hn1 : RMn G m σ) : ACt l G yX12_readTown cX12_readTown 3 (none) 2 0 0 [.ref m] σ (vP (fun σ' => ∃ nm', σ'.2 m = some (oM m tw nb nt dy hn len (nI (faultOf (fitT cd) len)) (isTwB cd len) nm' sn hk kt kn kd hd) ∧ (∃ σ1, Fr m (m + 1) σ σ1 ∧ Fr (m + 10) (m + 14) σ1 σ') ∧ RMn G m σ' ∧ (isTwB cd len = true → nm' = nI ((len + 1) / 5) ∧ RMv G m ((len + 1) / 5) (borC cd) σ'))) := by
  obtain ⟨pf, p1, p2, p3⟩ := id hp
  have hfl : faultOf (fitT cd) len ≤ len := by have := flt_le (fitT cd) len 0; rw [faultOf]; omega
  obtain ⟨na, nb_, nc, nd, n1, n2, n3, n4⟩ := id hn1
  refine ACt.intro (own := RX12) (nm := "readTown") mk_X12_readTown rfl rfl [some (.ref m), none, none] rfl (Nat.le_of_ble_eq_true rfl) (fun X hX hR => ?_)
  refine A_iconst (pc := 0) (v := (nI 0)) (by decide) hX dX12_readTown_0 ?_
  refine A_istore_n (pc := 1) (lv' := [_, _, _]) hX dX12_readTown_1 (Nat.le_of_ble_eq_true rfl) rfl rfl ?_
  generalize hfd : faultOf (fitT cd) len = f at hfl
  have h70 : ∀ σ1 : aS, σ1.2 m = some (oM m tw nb nt dy hn len (nI f) (isTwB cd len) (nI ((f + 1) / 5)) sn hk kt kn kd hd) → Fr m (m + 1) σ σ1 → AA G X 0 0 70 [some (.ref m), some (.int (nI f)), some (.int (nI 0))] [] σ1 := by
    intro σ1 q0 q1
    by_cases hT : isTwB cd len = true
    · have hfe : f = len := by rw [← hfd]; exact (of_decide_eq_true hT).2.2
      obtain ⟨t1, t2, t3, t4⟩ := twOK hT
      have hM : (f + 1) / 5 = (len + 1) / 5 := by rw [hfe]
      suffices hl : ∀ (q b : Nat) (σ2 : aS) (a1 a2 a3 a4 : Nat → Int32), b ≤ (f + 1) / 5 → (f + 1) / 5 - b = q → Fr (m + 10) (m + 14) σ1 σ2 → σ2.2 (m + 10) = some (aI G 6 a1) → σ2.2 (m + 11) = some (aI G 6 a2) → σ2.2 (m + 12) = some (aI G 6 a3) → σ2.2 (m + 13) = some (aI G 6 a4) → (∀ i, i < b → a1 i = nI (borC cd i).1 ∧ a2 i = nI (borC cd i).2.1 ∧ a3 i = nI (borC cd i).2.2.1 ∧ a4 i = nI (borC cd i).2.2.2) → AA G X 0 0 70 [some (.ref m), some (.int (nI f)), some (.int (nI b))] [] σ2 from hl _ 0 σ1 na nb_ nc nd (Nat.zero_le _) rfl Fr.rf (lk_f q1 n1 (by omega)) (lk_f q1 n2 (by omega)) (lk_f q1 n3 (by omega)) (lk_f q1 n4 (by omega)) (fun i hi => absurd hi (Nat.not_lt_zero i))
      intro q
      induction q with
      | zero =>
        intro b σ2 a1 a2 a3 a4 hb hq hF x1 x2 x3 x4 hx
        have e : (f + 1) / 5 = b := by omega
        refine A_iload_n (pc := 70) rfl hX dX12_readTown_70 ?_
        refine A_aload_n (pc := 71) rfl hX dX12_readTown_71 ?_
        refine A_getf (pc := 72) hX fl_X12_100_12 dX12_readTown_72 (by repeat (first | assumption | exact aSet_s | exact aNew_s | refine lk_n ?_ (by omega) | refine lk_f (by assumption) ?_ (by omega) | refine lk_w ?_ (by omega))) (by exact rfl) ?_
        refine A_icmp_ge (pc := 75) 165 hX dX12_readTown_75 rfl (fun c75 => ?_) (fun c75 => ?_)
        · refine A_ret (pc := 165) hX hR dX12_readTown_165 ?_
          refine ⟨rfl, nI ((f + 1) / 5), ?_, ⟨σ1, q1, hF⟩, ⟨a1, a2, a3, a4, x1, x2, x3, x4⟩, fun _ => ⟨by rw [hM], a1, a2, a3, a4, x1, x2, x3, x4, fun i hi => hx i (by omega)⟩⟩
          rw [hfd]; exact lk_f hF q0 (by omega)
        · exact absurd (nI_le (by omega) (by omega)) c75
      | succ q ih =>
        intro b σ2 a1 a2 a3 a4 hb hq hF x1 x2 x3 x4 hx
        have hbl : b < (f + 1) / 5 := by omega
        have hbc := nI_clamp (n := b) (by omega)
        obtain ⟨y1, y2, y3, y4, y5⟩ := t4 b (by omega)
        have hpg := lk_f hF (lk_f q1 p1 (by omega)) (by omega)
        have q02 := lk_f hF q0 (by omega)
        have z0 := p3 (b * 5) (by omega)
        have z1 := p3 (b * 5 + 1) (by omega)
        have z2 := p3 (b * 5 + 2) (by omega)
        have z3 := p3 (b * 5 + 3) (by omega)
        have i0 := nI_clamp (n := b * 5) (by omega)
        have i1 := nI_clamp (n := b * 5 + 1) (by omega)
        have i2 := nI_clamp (n := b * 5 + 2) (by omega)
        have i3 := nI_clamp (n := b * 5 + 3) (by omega)
        refine A_iload_n (pc := 70) rfl hX dX12_readTown_70 ?_
        refine A_aload_n (pc := 71) rfl hX dX12_readTown_71 ?_
        refine A_getf (pc := 72) hX fl_X12_100_12 dX12_readTown_72 (by repeat (first | assumption | exact aSet_s | exact aNew_s | refine lk_n ?_ (by omega) | refine lk_f (by assumption) ?_ (by omega) | refine lk_w ?_ (by omega))) (by exact rfl) ?_
        refine A_icmp_ge (pc := 75) 165 hX dX12_readTown_75 rfl (fun c75 => ?_) (fun c75 => ?_)
        · exact absurd c75 (nI_ge hbl (by omega))
        · refine A_aload_n (pc := 78) rfl hX dX12_readTown_78 ?_
          refine A_getf (pc := 79) hX fl_X12_96_12 dX12_readTown_79 (by repeat (first | assumption | exact aSet_s | exact aNew_s | refine lk_n ?_ (by omega) | refine lk_f (by assumption) ?_ (by omega) | refine lk_w ?_ (by omega))) (by exact rfl) ?_
          refine A_if_eq (pc := 82) 165 hX dX12_readTown_82 rfl (fun c82 => ?_) (fun c82 => ?_)
          · exact absurd hT (bI_f c82)
          · refine A_aload_n (pc := 85) rfl hX dX12_readTown_85 ?_
            refine A_getf (pc := 86) hX fl_X12_38_12 dX12_readTown_86 (by repeat (first | assumption | exact aSet_s | exact aNew_s | refine lk_n ?_ (by omega) | refine lk_f (by assumption) ?_ (by omega) | refine lk_w ?_ (by omega))) (by exact rfl) ?_
            refine A_iload_n (pc := 89) rfl hX dX12_readTown_89 ?_
            refine A_aload_n (pc := 90) rfl hX dX12_readTown_90 ?_
            refine A_getf (pc := 91) hX fl_X12_34_12 dX12_readTown_91 (by repeat (first | assumption | exact aSet_s | exact aNew_s | refine lk_n ?_ (by omega) | refine lk_f (by assumption) ?_ (by omega) | refine lk_w ?_ (by omega))) (by exact rfl) ?_
            refine A_iconst (pc := 94) (v := (nI 5)) (by decide) hX dX12_readTown_94 ?_
            refine A_iload_n (pc := 95) rfl hX dX12_readTown_95 ?_
            refine A_imul (pc := 96) hX dX12_readTown_96 ?_
            refine A_top (y := nI (b * 5)) (by rw [pk_mul, Nat.mul_comm]) ?_
            refine A_bald (pc := 97) hX dX12_readTown_97 (by repeat (first | assumption | exact aSet_s | exact aNew_s | refine lk_n ?_ (by omega) | refine lk_f (by assumption) ?_ (by omega) | refine lk_w ?_ (by omega))) (vp_in_nI (by omega) (by decide)) ?_
            refine A_top (y := nI (cd (b * 5))) (by rw [i0]; exact z0.1) ?_
            refine A_S1d (pc := 98) hX mk_X12_kindBy ls_X12_85 dX12_readTown_98 (ct_kindBy l G z0.2) rfl (Nat.le_of_ble_eq_true rfl) (Nat.le_of_ble_eq_true rfl) (Nat.le_of_ble_eq_true rfl) (Nat.le_of_ble_eq_true rfl) (Nat.le_of_ble_eq_true rfl) ?_
            refine A_top (y := nI (kindC (cd (b * 5)))) (by have hL : isL (cd (b * 5)) = true := decide_eq_true y2; rw [kbI, if_pos hL]) ?_
            refine A_iast (pc := 101) hX dX12_readTown_101 (by repeat (first | assumption | exact aSet_s | exact aNew_s | refine lk_n ?_ (by omega) | refine lk_f (by assumption) ?_ (by omega) | refine lk_w ?_ (by omega))) (vp_in_nI (by omega) (by decide)) ?_
            refine A_aload_n (pc := 102) rfl hX dX12_readTown_102 ?_
            refine A_getf (pc := 103) hX fl_X12_41_12 dX12_readTown_103 (by repeat (first | assumption | exact aSet_s | exact aNew_s | refine lk_n ?_ (by omega) | refine lk_f (by assumption) ?_ (by omega) | refine lk_w ?_ (by omega))) (by exact rfl) ?_
            refine A_iload_n (pc := 106) rfl hX dX12_readTown_106 ?_
            refine A_aload_n (pc := 107) rfl hX dX12_readTown_107 ?_
            refine A_getf (pc := 108) hX fl_X12_34_12 dX12_readTown_108 (by repeat (first | assumption | exact aSet_s | exact aNew_s | refine lk_n ?_ (by omega) | refine lk_f (by assumption) ?_ (by omega) | refine lk_w ?_ (by omega))) (by exact rfl) ?_
            refine A_iconst (pc := 111) (v := (nI 5)) (by decide) hX dX12_readTown_111 ?_
            refine A_iload_n (pc := 112) rfl hX dX12_readTown_112 ?_
            refine A_imul (pc := 113) hX dX12_readTown_113 ?_
            refine A_top (y := nI (b * 5)) (by rw [pk_mul, Nat.mul_comm]) ?_
            refine A_iconst (pc := 114) (v := (nI 1)) (by decide) hX dX12_readTown_114 ?_
            refine A_iadd (pc := 115) hX dX12_readTown_115 ?_
            refine A_top (y := nI (b * 5 + 1)) (nI_add _ _) ?_
            refine A_bald (pc := 116) hX dX12_readTown_116 (by repeat (first | assumption | exact aSet_s | exact aNew_s | refine lk_n ?_ (by omega) | refine lk_f (by assumption) ?_ (by omega) | refine lk_w ?_ (by omega))) (vp_in_nI (by omega) (by decide)) ?_
            refine A_top (y := nI (cd (b * 5 + 1))) (by rw [i1]; exact z1.1) ?_
            refine A_bipush (pc := 117) (v := (nI 48)) (by decide) hX dX12_readTown_117 ?_
            refine A_isub (pc := 119) hX dX12_readTown_119 ?_
            refine A_top (y := nI (cd (b * 5 + 1) - 48)) (pk_sub y3) ?_
            refine A_iast (pc := 120) hX dX12_readTown_120 (by repeat (first | assumption | exact aSet_s | exact aNew_s | refine lk_n ?_ (by omega) | refine lk_f (by assumption) ?_ (by omega) | refine lk_w ?_ (by omega))) (vp_in_nI (by omega) (by decide)) ?_
            refine A_aload_n (pc := 121) rfl hX dX12_readTown_121 ?_
            refine A_getf (pc := 122) hX fl_X12_44_12 dX12_readTown_122 (by repeat (first | assumption | exact aSet_s | exact aNew_s | refine lk_n ?_ (by omega) | refine lk_f (by assumption) ?_ (by omega) | refine lk_w ?_ (by omega))) (by exact rfl) ?_
            refine A_iload_n (pc := 125) rfl hX dX12_readTown_125 ?_
            refine A_aload_n (pc := 126) rfl hX dX12_readTown_126 ?_
            refine A_getf (pc := 127) hX fl_X12_34_12 dX12_readTown_127 (by repeat (first | assumption | exact aSet_s | exact aNew_s | refine lk_n ?_ (by omega) | refine lk_f (by assumption) ?_ (by omega) | refine lk_w ?_ (by omega))) (by exact rfl) ?_
            refine A_iconst (pc := 130) (v := (nI 5)) (by decide) hX dX12_readTown_130 ?_
            refine A_iload_n (pc := 131) rfl hX dX12_readTown_131 ?_
            refine A_imul (pc := 132) hX dX12_readTown_132 ?_
            refine A_top (y := nI (b * 5)) (by rw [pk_mul, Nat.mul_comm]) ?_
            refine A_iconst (pc := 133) (v := (nI 2)) (by decide) hX dX12_readTown_133 ?_
            refine A_iadd (pc := 134) hX dX12_readTown_134 ?_
            refine A_top (y := nI (b * 5 + 2)) (nI_add _ _) ?_
            refine A_bald (pc := 135) hX dX12_readTown_135 (by repeat (first | assumption | exact aSet_s | exact aNew_s | refine lk_n ?_ (by omega) | refine lk_f (by assumption) ?_ (by omega) | refine lk_w ?_ (by omega))) (vp_in_nI (by omega) (by decide)) ?_
            refine A_top (y := nI (cd (b * 5 + 2))) (by rw [i2]; exact z2.1) ?_
            refine A_bipush (pc := 136) (v := (nI 48)) (by decide) hX dX12_readTown_136 ?_
            refine A_isub (pc := 138) hX dX12_readTown_138 ?_
            refine A_top (y := nI (cd (b * 5 + 2) - 48)) (pk_sub y4) ?_
            refine A_iast (pc := 139) hX dX12_readTown_139 (by repeat (first | assumption | exact aSet_s | exact aNew_s | refine lk_n ?_ (by omega) | refine lk_f (by assumption) ?_ (by omega) | refine lk_w ?_ (by omega))) (vp_in_nI (by omega) (by decide)) ?_
            refine A_aload_n (pc := 140) rfl hX dX12_readTown_140 ?_
            refine A_getf (pc := 141) hX fl_X12_47_12 dX12_readTown_141 (by repeat (first | assumption | exact aSet_s | exact aNew_s | refine lk_n ?_ (by omega) | refine lk_f (by assumption) ?_ (by omega) | refine lk_w ?_ (by omega))) (by exact rfl) ?_
            refine A_iload_n (pc := 144) rfl hX dX12_readTown_144 ?_
            refine A_aload_n (pc := 145) rfl hX dX12_readTown_145 ?_
            refine A_getf (pc := 146) hX fl_X12_34_12 dX12_readTown_146 (by repeat (first | assumption | exact aSet_s | exact aNew_s | refine lk_n ?_ (by omega) | refine lk_f (by assumption) ?_ (by omega) | refine lk_w ?_ (by omega))) (by exact rfl) ?_
            refine A_iconst (pc := 149) (v := (nI 5)) (by decide) hX dX12_readTown_149 ?_
            refine A_iload_n (pc := 150) rfl hX dX12_readTown_150 ?_
            refine A_imul (pc := 151) hX dX12_readTown_151 ?_
            refine A_top (y := nI (b * 5)) (by rw [pk_mul, Nat.mul_comm]) ?_
            refine A_iconst (pc := 152) (v := (nI 3)) (by decide) hX dX12_readTown_152 ?_
            refine A_iadd (pc := 153) hX dX12_readTown_153 ?_
            refine A_top (y := nI (b * 5 + 3)) (nI_add _ _) ?_
            refine A_bald (pc := 154) hX dX12_readTown_154 (by repeat (first | assumption | exact aSet_s | exact aNew_s | refine lk_n ?_ (by omega) | refine lk_f (by assumption) ?_ (by omega) | refine lk_w ?_ (by omega))) (vp_in_nI (by omega) (by decide)) ?_
            refine A_top (y := nI (cd (b * 5 + 3))) (by rw [i3]; exact z3.1) ?_
            refine A_bipush (pc := 155) (v := (nI 48)) (by decide) hX dX12_readTown_155 ?_
            refine A_isub (pc := 157) hX dX12_readTown_157 ?_
            refine A_top (y := nI (cd (b * 5 + 3) - 48)) (pk_sub y5) ?_
            refine A_iast (pc := 158) hX dX12_readTown_158 (by repeat (first | assumption | exact aSet_s | exact aNew_s | refine lk_n ?_ (by omega) | refine lk_f (by assumption) ?_ (by omega) | refine lk_w ?_ (by omega))) (vp_in_nI (by omega) (by decide)) ?_
            refine A_iinc (pc := 159) (v := (nI (b + 1))) (lv' := [_, _, _]) hX dX12_readTown_159 rfl (nI_succ b).symm rfl rfl ?_
            refine A_goto (pc := 162) 70 hX dX12_readTown_162 rfl ?_
            rw [hbc]
            refine ih (b + 1) _ _ _ _ _ (by omega) (by omega) (by repeat (first | exact Fr.rf | refine Fr.set ?_ (by omega) (by omega) | refine Fr.tr ?_ (Fr.wd (by assumption) (by omega) (by omega)))) (by repeat (first | assumption | exact aSet_s | exact aNew_s | refine lk_n ?_ (by omega) | refine lk_f (by assumption) ?_ (by omega) | refine lk_w ?_ (by omega))) (by repeat (first | assumption | exact aSet_s | exact aNew_s | refine lk_n ?_ (by omega) | refine lk_f (by assumption) ?_ (by omega) | refine lk_w ?_ (by omega))) (by repeat (first | assumption | exact aSet_s | exact aNew_s | refine lk_n ?_ (by omega) | refine lk_f (by assumption) ?_ (by omega) | refine lk_w ?_ (by omega))) (by repeat (first | assumption | exact aSet_s | exact aNew_s | refine lk_n ?_ (by omega) | refine lk_f (by assumption) ?_ (by omega) | refine lk_w ?_ (by omega))) (fun i hi => ?_)
            by_cases e : i = b
            · subst e
              simp only [upd, if_pos]
              refine ⟨?_, ?_, ?_, ?_⟩ <;> first | rfl | trivial
            · simp only [upd, if_neg e]; exact hx i (by omega)
    · skip
      refine A_iload_n (pc := 70) rfl hX dX12_readTown_70 ?_
      refine A_aload_n (pc := 71) rfl hX dX12_readTown_71 ?_
      refine A_getf (pc := 72) hX fl_X12_100_12 dX12_readTown_72 (by repeat (first | assumption | exact aSet_s | exact aNew_s | refine lk_n ?_ (by omega) | refine lk_f (by assumption) ?_ (by omega) | refine lk_w ?_ (by omega))) (by exact rfl) ?_
      refine A_icmp_ge (pc := 75) 165 hX dX12_readTown_75 rfl (fun c75 => ?_) (fun c75 => ?_)
      · refine A_ret (pc := 165) hX hR dX12_readTown_165 ?_
        exact ⟨rfl, _, by rw [hfd]; exact q0, ⟨σ1, q1, Fr.rf⟩, ⟨na, nb_, nc, nd, lk_f q1 n1 (by omega), lk_f q1 n2 (by omega), lk_f q1 n3 (by omega), lk_f q1 n4 (by omega)⟩, fun q => absurd q hT⟩
      · refine A_aload_n (pc := 78) rfl hX dX12_readTown_78 ?_
        refine A_getf (pc := 79) hX fl_X12_96_12 dX12_readTown_79 (by repeat (first | assumption | exact aSet_s | exact aNew_s | refine lk_n ?_ (by omega) | refine lk_f (by assumption) ?_ (by omega) | refine lk_w ?_ (by omega))) (by exact rfl) ?_
        refine A_if_eq (pc := 82) 165 hX dX12_readTown_82 rfl (fun c82 => ?_) (fun c82 => ?_)
        · refine A_ret (pc := 165) hX hR dX12_readTown_165 ?_
          exact ⟨rfl, _, by rw [hfd]; exact q0, ⟨σ1, q1, Fr.rf⟩, ⟨na, nb_, nc, nd, lk_f q1 n1 (by omega), lk_f q1 n2 (by omega), lk_f q1 n3 (by omega), lk_f q1 n4 (by omega)⟩, fun q => absurd q hT⟩
        · exact absurd (bI_ne c82) hT
  have h56 : ∀ σ1 : aS, σ1.2 m = some (oM m tw nb nt dy hn len (nI f) wh nm sn hk kt kn kd hd) → Fr m (m + 1) σ σ1 → AA G X 0 0 56 [some (.ref m), some (.int (nI f)), none] [.int (bI (isTwB cd len)), .ref m] σ1 := by
    intro σ1 q0 q1
    refine A_putf (pc := 56) (fs' := [_, _, _, _, _, _, _, _, _, _, _, _, _, _, _, _, _, _, _, _, _, _, _, _, _, _, _, _, _, _, _, _, _, _, _, _, _]) hX pl_X12_96_12 dX12_readTown_56 (by repeat (first | assumption | exact aSet_s | exact aNew_s | refine lk_n ?_ (by omega) | refine lk_f (by assumption) ?_ (by omega) | refine lk_w ?_ (by omega))) (by exact Nat.le_of_ble_eq_true rfl) (by exact rfl) (bI_z _) (bI_fit _) ?_
    refine A_aload_n (pc := 59) rfl hX dX12_readTown_59 ?_
    refine A_iload_n (pc := 60) rfl hX dX12_readTown_60 ?_
    refine A_iconst (pc := 61) (v := (nI 1)) (by decide) hX dX12_readTown_61 ?_
    refine A_iadd (pc := 62) hX dX12_readTown_62 ?_
    refine A_top (y := nI (f + 1)) (nI_add _ _) ?_
    refine A_iconst (pc := 63) (v := (nI 5)) (by decide) hX dX12_readTown_63 ?_
    refine A_idiv (pc := 64) (by decide) hX dX12_readTown_64 ?_
    refine A_top (y := nI ((f + 1) / 5)) (pk_div (by omega) (by decide) (by decide)) ?_
    refine A_putf (pc := 65) (fs' := [_, _, _, _, _, _, _, _, _, _, _, _, _, _, _, _, _, _, _, _, _, _, _, _, _, _, _, _, _, _, _, _, _, _, _, _, _]) hX pl_X12_100_12 dX12_readTown_65 (by repeat (first | assumption | exact aSet_s | exact aNew_s | refine lk_n ?_ (by omega) | refine lk_f (by assumption) ?_ (by omega) | refine lk_w ?_ (by omega))) (by exact Nat.le_of_ble_eq_true rfl) (by exact rfl) rfl rfl ?_
    refine A_gen (fun z => (z.2 m = some (oM m (tw) (nb) (nt) (dy) (hn) (len) (nI f) (isTwB cd len) (nI ((f + 1) / 5)) (sn) (hk) (kt) (kn) (kd) (hd))) ∧ Fr (m) (m + 1) σ1 z) ⟨aSet_s, ((Fr.rf.set (by omega) (by omega)).set (by omega) (by omega))⟩ (fun σ68 hg => ?_)
    obtain ⟨h68, f68⟩ := hg
    refine A_iconst (pc := 68) (v := (nI 0)) (by decide) hX dX12_readTown_68 ?_
    refine A_istore_n (pc := 69) (lv' := [_, _, _]) hX dX12_readTown_69 (Nat.le_of_ble_eq_true rfl) rfl rfl ?_
    exact h70 σ68 h68 (q1.tr f68)
  have h24 : AA G X 0 0 24 [some (.ref m), some (.int (nI f)), none] [] σ := by
    skip
    refine A_aload_n (pc := 24) rfl hX dX12_readTown_24 ?_
    refine A_iload_n (pc := 25) rfl hX dX12_readTown_25 ?_
    refine A_putf (pc := 26) (fs' := [_, _, _, _, _, _, _, _, _, _, _, _, _, _, _, _, _, _, _, _, _, _, _, _, _, _, _, _, _, _, _, _, _, _, _, _, _]) hX pl_X12_93_12 dX12_readTown_26 (by repeat (first | assumption | exact aSet_s | exact aNew_s | refine lk_n ?_ (by omega) | refine lk_f (by assumption) ?_ (by omega) | refine lk_w ?_ (by omega))) (by exact Nat.le_of_ble_eq_true rfl) (by exact rfl) rfl rfl ?_
    refine A_gen (fun z => (z.2 m = some (oM m (tw) (nb) (nt) (dy) (hn) (len) (nI f) (wh) (nm) (sn) (hk) (kt) (kn) (kd) (hd))) ∧ Fr (m) (m + 1) σ z) ⟨aSet_s, (Fr.rf.set (by omega) (by omega))⟩ (fun σ29 hg => ?_)
    obtain ⟨h29, f29⟩ := hg
    refine A_aload_n (pc := 29) rfl hX dX12_readTown_29 ?_
    refine A_iload_n (pc := 30) rfl hX dX12_readTown_30 ?_
    refine A_aload_n (pc := 31) rfl hX dX12_readTown_31 ?_
    refine A_getf (pc := 32) hX fl_X12_81_12 dX12_readTown_32 (by repeat (first | assumption | exact aSet_s | exact aNew_s | refine lk_n ?_ (by omega) | refine lk_f (by assumption) ?_ (by omega) | refine lk_w ?_ (by omega))) (by exact rfl) ?_
    refine A_icmp_ne (pc := 35) 55 hX dX12_readTown_35 rfl (fun c35 => ?_) (fun c35 => ?_)
    · refine A_iconst (pc := 55) (v := (nI 0)) (by decide) hX dX12_readTown_55 ?_
      exact A_top (by rw [isTwB, decide_eq_false (fun q => c35 (by rw [← hfd, q.2.2]))]; rfl) (h56 σ29 h29 f29)
    · refine A_iload_n (pc := 38) rfl hX dX12_readTown_38 ?_
      refine A_iconst (pc := 39) (v := (nI 5)) (by decide) hX dX12_readTown_39 ?_
      refine A_irem (pc := 40) (by decide) hX dX12_readTown_40 ?_
      refine A_top (y := nI (f % 5)) (pk_rem (by omega) (by decide) (by decide)) ?_
      refine A_iconst (pc := 41) (v := (nI 4)) (by decide) hX dX12_readTown_41 ?_
      refine A_icmp_ne (pc := 42) 55 hX dX12_readTown_42 rfl (fun c42 => ?_) (fun c42 => ?_)
      · refine A_iconst (pc := 55) (v := (nI 0)) (by decide) hX dX12_readTown_55 ?_
        exact A_top (by rw [isTwB, decide_eq_false (fun q => c42 (by rw [show f = len by rw [← hfd]; exact q.2.2, q.1]))]; rfl) (h56 σ29 h29 f29)
      · refine A_iload_n (pc := 45) rfl hX dX12_readTown_45 ?_
        refine A_bipush (pc := 46) (v := (nI 8)) (by decide) hX dX12_readTown_46 ?_
        refine A_icmp_le (pc := 48) 55 hX dX12_readTown_48 rfl (fun c48 => ?_) (fun c48 => ?_)
        · refine A_iconst (pc := 55) (v := (nI 0)) (by decide) hX dX12_readTown_55 ?_
          exact A_top (by rw [isTwB, decide_eq_false (fun q => absurd ((nI_leI (b := 8) (by omega) (by decide)).mp c48) (by have e : f = len := (by rw [← hfd]; exact q.2.2); omega))]; rfl) (h56 σ29 h29 f29)
        · have e1 := (nI_eq (by omega) (by omega)).mp c35
          have e2 := (nI_eq (b := 4) (by omega) (by decide)).mp c42
          have e3 : 8 < f := by
            rcases Nat.lt_or_ge 8 f with q | q
            · exact q
            · exact absurd (nI_le q (by decide)) c48
          have hT : isTwB cd len = true := decide_eq_true ⟨by rw [← e1]; exact e2, by omega, by rw [hfd]; exact e1⟩
          refine A_iconst (pc := 51) (v := (nI 1)) (by decide) hX dX12_readTown_51 ?_
          refine A_goto (pc := 52) 56 hX dX12_readTown_52 rfl ?_
          exact A_top (by rw [hT]; rfl) (h56 σ29 h29 f29)
  suffices hl : ∀ (n k : Nat), k + n = len → f = flt (fitT cd) n k → AA G X 0 0 2 [some (.ref m), some (.int (nI k)), none] [] σ from hl len 0 (by omega) (by rw [← hfd]; rfl)
  intro n
  induction n with
  | zero =>
    intro k hk hq
    have e : f = k := hq
    rw [← e]
    have e2 : f = len := by omega
    refine A_iload_n (pc := 2) rfl hX dX12_readTown_2 ?_
    refine A_aload_n (pc := 3) rfl hX dX12_readTown_3 ?_
    refine A_getf (pc := 4) hX fl_X12_81_12 dX12_readTown_4 (by repeat (first | assumption | exact aSet_s | exact aNew_s | refine lk_n ?_ (by omega) | refine lk_f (by assumption) ?_ (by omega) | refine lk_w ?_ (by omega))) (by exact rfl) ?_
    refine A_icmp_ge (pc := 7) 24 hX dX12_readTown_7 rfl (fun c7 => ?_) (fun c7 => ?_)
    · exact h24
    · exact absurd (by rw [e2]; exact nI_le (Nat.le_refl _) (by omega)) c7
  | succ n ih =>
    intro k hk hq
    rw [flt] at hq
    have hkl : k < len := by omega
    refine A_iload_n (pc := 2) rfl hX dX12_readTown_2 ?_
    refine A_aload_n (pc := 3) rfl hX dX12_readTown_3 ?_
    refine A_getf (pc := 4) hX fl_X12_81_12 dX12_readTown_4 (by repeat (first | assumption | exact aSet_s | exact aNew_s | refine lk_n ?_ (by omega) | refine lk_f (by assumption) ?_ (by omega) | refine lk_w ?_ (by omega))) (by exact rfl) ?_
    refine A_icmp_ge (pc := 7) 24 hX dX12_readTown_7 rfl (fun c7 => ?_) (fun c7 => ?_)
    · exact absurd c7 (nI_ge hkl (by omega))
    · refine A_aload_n (pc := 10) rfl hX dX12_readTown_10 ?_
      refine A_iload_n (pc := 11) rfl hX dX12_readTown_11 ?_
      refine A_V1d (pc := 12) hX mk_X12_isGood lv_X12_89 dX12_readTown_12 (by repeat (first | assumption | exact aSet_s | exact aNew_s | refine lk_n ?_ (by omega) | refine lk_f (by assumption) ?_ (by omega) | refine lk_w ?_ (by omega))) (ct_isGood l G ho hp hkl) rfl (Nat.le_of_ble_eq_true rfl) (Nat.le_of_ble_eq_true rfl) (Nat.le_of_ble_eq_true rfl) (Nat.le_of_ble_eq_true rfl) (Nat.le_of_ble_eq_true rfl) ?_
      refine A_if_eq (pc := 15) 24 hX dX12_readTown_15 rfl (fun c15 => ?_) (fun c15 => ?_)
      · rw [if_neg (bI_f c15)] at hq
        rw [← hq]; exact h24
      · rw [if_pos (bI_ne c15)] at hq
        refine A_iinc (pc := 18) (v := (nI (k + 1))) (lv' := [_, _, _]) hX dX12_readTown_18 rfl (nI_succ k).symm rfl rfl ?_
        refine A_goto (pc := 21) 2 hX dX12_readTown_21 rfl ?_
        exact ih (k + 1) (by omega) hq
set_option maxRecDepth 100000 in
set_option maxHeartbeats 1000000 in
theorem ct_faultM (l : Launch) (G : aG) {m len nb nt kn tw hn : Nat} {cd : Nat → Nat} {B : BorT} {dy kd : Int32} {V KV : ThT} {hI : Bool} {σ : aS} (hM : RM G m len cd nb B nt dy V hI kn kd KV tw hn σ) {x : Int32} : ACt l G yX12_fault cX12_fault 2 (some .int) 3 0 0 [.ref m, .int x] σ (iP (fun v σ' => v = anFault len cd nb x ∧ RM G m len cd nb B nt dy V hI kn kd KV tw hn σ' ∧ Fr m (m + 23) σ σ')) := by
  obtain ⟨fa, nm, wh, hk, sn, hd, kt, ho, ha, ht, hp, hn1, hs1, hkp, hI1, hI2⟩ := id hM
  have hnb := ha.1
  refine ACt.intro (own := RX12) (nm := "fault") mk_X12_fault rfl rfl [some (.ref m), some (.int x)] rfl (Nat.le_of_ble_eq_true rfl) (fun X hX hR => ?_)
  refine A_iload_n (pc := 0) rfl hX dX12_fault_0 ?_
  refine A_iconst (pc := 1) (v := (nI 0)) (by decide) hX dX12_fault_1 ?_
  refine A_iconst (pc := 2) (v := (nI 1)) (by decide) hX dX12_fault_2 ?_
  refine A_S3d (pc := 3) hX mk_X12_within ls_X12_77 dX12_fault_3 (ct_within l G ) rfl (Nat.le_of_ble_eq_true rfl) (Nat.le_of_ble_eq_true rfl) (Nat.le_of_ble_eq_true rfl) (Nat.le_of_ble_eq_true rfl) (Nat.le_of_ble_eq_true rfl) ?_
  refine A_top (y := bI (inN 2 x)) (by rw [winB_in (by decide)]) ?_
  refine A_if_ne (pc := 6) 12 hX dX12_fault_6 rfl (fun c6 => ?_) (fun c6 => ?_)
  · have hc := bI_ne c6
    obtain ⟨c, hc1, rfl⟩ := inN_t (by decide) hc
    refine A_iload_n (pc := 12) rfl hX dX12_fault_12 ?_
    refine A_if_ne (pc := 13) 23 hX dX12_fault_13 rfl (fun c13 => ?_) (fun c13 => ?_)
    · refine A_aload_n (pc := 23) rfl hX dX12_fault_23 ?_
      refine A_V0v (pc := 24) hX mk_X12_readRound lv_X12_109 dX12_fault_24 (by repeat (first | assumption | exact aSet_s | exact aNew_s | refine lk_n ?_ (by omega) | refine lk_f (by assumption) ?_ (by omega) | refine lk_w ?_ (by omega))) (ct_readRound l G ho hp hnb) rfl (Nat.le_of_ble_eq_true rfl) (Nat.le_of_ble_eq_true rfl) (Nat.le_of_ble_eq_true rfl) (Nat.le_of_ble_eq_true rfl) (Nat.le_of_ble_eq_true rfl) (fun σ24 h24 => ?_)
      obtain ⟨h24, hf24⟩ := h24
      refine A_aload_n (pc := 27) rfl hX dX12_fault_27 ?_
      refine A_getf (pc := 28) hX fl_X12_93_12 dX12_fault_28 (by repeat (first | assumption | exact aSet_s | exact aNew_s | refine lk_n ?_ (by omega) | refine lk_f (by assumption) ?_ (by omega) | refine lk_w ?_ (by omega))) (by exact rfl) ?_
      refine A_iret (pc := 31) hX hR dX12_fault_31 rfl rfl ?_
      rw [show anFault len cd nb (nI c) = _ from (by rw [anFault, if_neg c13, if_pos (show nI c = nI 1 by rw [show c = 1 by have : ¬ c = 0 := fun q => c13 (by rw [q]; rfl); omega])])]
      exact ⟨_, rfl, rfl, ⟨_, nm, _, hk, sn, hd, kt, h24, (ha.fr hf24 (by omega)), (ht.fr hf24 (by omega)), (hp.fr hf24 (by omega)), (hn1.fr hf24 (by omega)), (hs1.fr hf24 (by omega)), (hkp.fr hf24 (by omega)), hI1, hI2⟩, (by repeat (first | exact Fr.rf | refine Fr.set ?_ (by omega) (by omega) | refine Fr.tr ?_ (Fr.wd (by assumption) (by omega) (by omega))))⟩
    · refine A_aload_n (pc := 16) rfl hX dX12_fault_16 ?_
      refine A_V0v (pc := 17) hX mk_X12_readTown lv_X12_106 dX12_fault_17 (by repeat (first | assumption | exact aSet_s | exact aNew_s | refine lk_n ?_ (by omega) | refine lk_f (by assumption) ?_ (by omega) | refine lk_w ?_ (by omega))) (ct_readTown l G ho hp hn1) rfl (Nat.le_of_ble_eq_true rfl) (Nat.le_of_ble_eq_true rfl) (Nat.le_of_ble_eq_true rfl) (Nat.le_of_ble_eq_true rfl) (Nat.le_of_ble_eq_true rfl) (fun σ17 h17 => ?_)
      obtain ⟨nm', h17, ⟨σg17, fa17, fb17⟩, hn17, hv17⟩ := h17
      refine A_goto (pc := 20) 27 hX dX12_fault_20 rfl ?_
      refine A_aload_n (pc := 27) rfl hX dX12_fault_27 ?_
      refine A_getf (pc := 28) hX fl_X12_93_12 dX12_fault_28 (by repeat (first | assumption | exact aSet_s | exact aNew_s | refine lk_n ?_ (by omega) | refine lk_f (by assumption) ?_ (by omega) | refine lk_w ?_ (by omega))) (by exact rfl) ?_
      refine A_iret (pc := 31) hX hR dX12_fault_31 rfl rfl ?_
      rw [show anFault len cd nb (nI c) = _ from if_pos c13]
      exact ⟨_, rfl, rfl, ⟨_, _, _, hk, sn, hd, kt, h17, ((ha.fr fa17 (by omega)).fr fb17 (by omega)), ((ht.fr fa17 (by omega)).fr fb17 (by omega)), ((hp.fr fa17 (by omega)).fr fb17 (by omega)), hn17, ((hs1.fr fa17 (by omega)).fr fb17 (by omega)), ((hkp.fr fa17 (by omega)).fr fb17 (by omega)), hI1, hI2⟩, (by repeat (first | exact Fr.rf | refine Fr.set ?_ (by omega) (by omega) | refine Fr.tr ?_ (Fr.wd (by assumption) (by omega) (by omega))))⟩
  · have hc := bI_f c6
    refine A_bipush (pc := 9) (v := (-102)) (by decide) hX dX12_fault_9 ?_
    refine A_iret (pc := 11) hX hR dX12_fault_11 rfl rfl ?_
    rw [show anFault len cd nb x = _ from (by rw [anFault, if_neg (fun q => hc (by rw [q]; rfl)), if_neg (fun q => hc (by rw [q]; rfl))])]
    exact ⟨_, rfl, rfl, hM, Fr.rf⟩
