/-! traits of a state; what a borrower of a kind, a trait, a much makes of a state -/
def trt (s t : Nat) : Nat := s / 8 ^ t % 8
def setT (s t v : Nat) : Nat := s - trt s t * 8 ^ t + v * 8 ^ t
def mk (k t m s : Nat) : Nat := match k with
  | 0 => setT s t ((trt s t + m) % 8)
  | 1 => setT s t m
  | 2 => setT s t (7 - trt s t)
  | 3 => setT (setT s t (trt s ((t + 1) % 3))) ((t + 1) % 3) (trt s t)
  | _ => setT s t (2 * trt s t % 8)
theorem t_lt3 {t : Nat} (h : t < 3) : t = 0 ∨ t = 1 ∨ t = 2 := by omega
theorem trt_lt (s t : Nat) : trt s t < 8 := Nat.mod_lt _ (by decide)
theorem trt_le {s t : Nat} (ht : t < 3) : trt s t * 8 ^ t ≤ s := by
  rcases t_lt3 ht with rfl | rfl | rfl <;> simp only [trt] <;> omega
theorem setT_lt {s t v : Nat} (hs : s < 512) (ht : t < 3) (hv : v < 8) : setT s t v < 512 := by
  rcases t_lt3 ht with rfl | rfl | rfl <;> simp only [setT, trt] <;> omega
theorem trt_setT {s t v : Nat} (hs : s < 512) (ht : t < 3) (hv : v < 8) : trt (setT s t v) t = v := by
  rcases t_lt3 ht with rfl | rfl | rfl <;> simp only [setT, trt] <;> omega
theorem trt_setT_ne {s t u v : Nat} (hs : s < 512) (ht : t < 3) (hu : u < 3) (hne : u ≠ t) (hv : v < 8) : trt (setT s t v) u = trt s u := by
  rcases t_lt3 ht with rfl | rfl | rfl <;> rcases t_lt3 hu with rfl | rfl | rfl <;> simp only [setT, trt] <;> omega
theorem mk_lt {k t m s : Nat} (hs : s < 512) (ht : t < 3) (hm : m < 8) : mk k t m s < 512 := by
  have h1 := trt_lt s t
  have h2 := trt_lt s ((t + 1) % 3)
  have ht1 : (t + 1) % 3 < 3 := Nat.mod_lt _ (by decide)
  unfold mk
  split
  · exact setT_lt hs ht (Nat.mod_lt _ (by decide))
  · exact setT_lt hs ht hm
  · exact setT_lt hs ht (by omega)
  · exact setT_lt (setT_lt hs ht h2) ht1 h1
  · exact setT_lt hs ht (Nat.mod_lt _ (by decide))
theorem i_and7 {x : Nat} (h : x < 16) : nI x &&& nI 7 = nI (x % 8) := (by decide +kernel : ∀ x, x < 16 → nI x &&& nI 7 = nI (x % 8)) x h
theorem i_tr {s t : Nat} (hs : s < 512) (ht : t < 3) : (nI s >>> ((nI 3 * nI t) &&& 31)) &&& nI 7 = nI (trt s t) := (by decide +kernel : ∀ s, s < 512 → ∀ t, t < 3 → (nI s >>> ((nI 3 * nI t) &&& 31)) &&& nI 7 = nI (trt s t)) s hs t ht
theorem i_dif {t v w : Nat} (ht : t < 3) (hv : v < 8) (hw : w < 8) : (nI v - nI w) <<< ((nI 3 * nI t) &&& 31) = nI (v * 8 ^ t) - nI (w * 8 ^ t) := (by decide +kernel : ∀ t, t < 3 → ∀ v, v < 8 → ∀ w, w < 8 → (nI v - nI w) <<< ((nI 3 * nI t) &&& 31) = nI (v * 8 ^ t) - nI (w * 8 ^ t)) t ht v hv w hw
theorem i_addsub {a b c : Nat} (h : c ≤ a) : nI a + (nI b - nI c) = nI (a - c + b) := by
  rw [← nI_add (a - c) b, ← pk_sub h, Int32.sub_eq_add_neg, Int32.sub_eq_add_neg, Int32.add_comm (nI b), ← Int32.add_assoc]
theorem i_set {s t v : Nat} (hs : s < 512) (ht : t < 3) (hv : v < 8) : nI s + ((nI v - nI (trt s t)) <<< ((nI 3 * nI t) &&& 31)) = nI (setT s t v) := by
  rw [i_dif ht hv (trt_lt s t), i_addsub (trt_le ht), setT]
def bI (b : Bool) : Int32 := if b then 1 else 0
theorem bl_t {b : Bool} {σ : aS} (h : b = true) : dP (some (.int (bI b))) σ (some (.int (nI 1))) σ := ⟨by rw [h]; rfl, rfl⟩
theorem bl_f {b : Bool} {σ : aS} (h : b = false) : dP (some (.int (bI b))) σ (some (.int (nI 0))) σ := ⟨by rw [h]; rfl, rfl⟩
theorem bI_ne {b : Bool} (h : ¬ bI b = 0) : b = true := by cases b with
  | true => rfl
  | false => exact absurd rfl h
theorem bI_eq {b : Bool} (h : bI b = 0) : b = false := by cases b with
  | false => rfl
  | true => exact absurd h (by decide)
theorem bI_z (b : Bool) : narrow .boolean (.int (bI b)) = .int (bI b) := by cases b <;> rfl
def isSt (x : Int32) : Bool := decide (0 ≤ x ∧ x < nI 512)
theorem isSt_t {x : Int32} (h : isSt x = true) : ∃ s : Nat, s < 512 ∧ x = nI s := by
  obtain ⟨h1, h2⟩ := of_decide_eq_true h
  obtain ⟨s, hs, rfl⟩ := nI_of (i_nlt.mpr h1)
  exact ⟨s, (nI_ltI hs (by decide)).mp h2, rfl⟩
theorem isSt_nI {s : Nat} (h : s < 512) : isSt (nI s) = true := decide_eq_true ⟨nI_pos' (by omega), nI_lt h (by decide)⟩
set_option maxRecDepth 100000 in
set_option maxHeartbeats 1000000 in
theorem ct_isState (l : Launch) (G : aG) {x : Int32} {σ : aS} : ACt l G yX11_isState cX11_isState 1 (some (.boolean)) 0 0 0 [.int x] σ (dP (some (.int (bI (isSt x)))) σ) := by
  refine ACt.intro (own := RX11) (nm := "isState") mk_X11_isState rfl rfl [some (.int x)] rfl (Nat.le_of_ble_eq_true rfl) (fun X hX hR => ?_)
  refine A_iload_n (pc := 0) rfl hX dX11_isState_0 ?_
  refine A_if_lt (pc := 1) 15 hX dX11_isState_1 rfl (fun c1 => ?_) (fun c1 => ?_)
  · refine A_iconst (pc := 15) (v := (nI 0)) (by decide) hX dX11_isState_15 ?_
    refine A_iret (pc := 16) hX hR dX11_isState_16 rfl rfl ?_
    exact bl_f (decide_eq_false fun q => i_nlt.mpr q.1 c1)
  · refine A_iload_n (pc := 4) rfl hX dX11_isState_4 ?_
    refine A_sipush (pc := 5) (v := (nI 512)) (by decide) hX dX11_isState_5 ?_
    refine A_icmp_ge (pc := 8) 15 hX dX11_isState_8 rfl (fun c8 => ?_) (fun c8 => ?_)
    · refine A_iconst (pc := 15) (v := (nI 0)) (by decide) hX dX11_isState_15 ?_
      refine A_iret (pc := 16) hX hR dX11_isState_16 rfl rfl ?_
      exact bl_f (decide_eq_false fun q => i_nle.mpr q.2 c8)
    · refine A_iconst (pc := 11) (v := (nI 1)) (by decide) hX dX11_isState_11 ?_
      refine A_goto (pc := 12) 16 hX dX11_isState_12 rfl ?_
      refine A_iret (pc := 16) hX hR dX11_isState_16 rfl rfl ?_
      exact bl_t (decide_eq_true ⟨i_nlt.mp c1, i_nle.mp c8⟩)
set_option maxRecDepth 100000 in
set_option maxHeartbeats 1000000 in
theorem ct_traitOf (l : Launch) (G : aG) {s t : Nat} (hs : s < 512) (ht : t < 3) {σ : aS} : ACt l G yX11_traitOf cX11_traitOf 2 (some .int) 0 0 0 [.int (nI s), .int (nI t)] σ (dP (some (.int (nI (trt s t)))) σ) := by
  refine ACt.intro (own := RX11) (nm := "traitOf") mk_X11_traitOf rfl rfl [some (.int (nI s)), some (.int (nI t))] rfl (Nat.le_of_ble_eq_true rfl) (fun X hX hR => ?_)
  refine A_iload_n (pc := 0) rfl hX dX11_traitOf_0 ?_
  refine A_iconst (pc := 1) (v := (nI 3)) (by decide) hX dX11_traitOf_1 ?_
  refine A_iload_n (pc := 2) rfl hX dX11_traitOf_2 ?_
  refine A_imul (pc := 3) hX dX11_traitOf_3 ?_
  refine A_ishr (pc := 4) hX dX11_traitOf_4 ?_
  refine A_bipush (pc := 5) (v := (nI 7)) (by decide) hX dX11_traitOf_5 ?_
  refine A_iand (pc := 7) hX dX11_traitOf_7 ?_
  refine A_iret (pc := 8) hX hR dX11_traitOf_8 rfl rfl ?_
  exact ⟨by rw [← i_tr hs ht], rfl⟩
def trS (s : Nat) : Nat := trt s 0 + trt s 1 + trt s 2
set_option maxRecDepth 100000 in
set_option maxHeartbeats 1000000 in
theorem ct_traitSum (l : Launch) (G : aG) {s : Nat} (hs : s < 512) {σ : aS} : ACt l G yX11_traitSum cX11_traitSum 1 (some .int) 1 0 0 [.int (nI s)] σ (dP (some (.int (nI (trS s)))) σ) := by
  refine ACt.intro (own := RX11) (nm := "traitSum") mk_X11_traitSum rfl rfl [some (.int (nI s))] rfl (Nat.le_of_ble_eq_true rfl) (fun X hX hR => ?_)
  refine A_iload_n (pc := 0) rfl hX dX11_traitSum_0 ?_
  refine A_iconst (pc := 1) (v := (nI 0)) (by decide) hX dX11_traitSum_1 ?_
  refine A_S2d (pc := 2) hX mk_X11_traitOf ls_X11_142 dX11_traitSum_2 (ct_traitOf l G hs (by decide)) rfl (Nat.le_of_ble_eq_true rfl) (Nat.le_of_ble_eq_true rfl) (Nat.le_of_ble_eq_true rfl) (Nat.le_of_ble_eq_true rfl) (Nat.le_of_ble_eq_true rfl) ?_
  refine A_iload_n (pc := 5) rfl hX dX11_traitSum_5 ?_
  refine A_iconst (pc := 6) (v := (nI 1)) (by decide) hX dX11_traitSum_6 ?_
  refine A_S2d (pc := 7) hX mk_X11_traitOf ls_X11_142 dX11_traitSum_7 (ct_traitOf l G hs (by decide)) rfl (Nat.le_of_ble_eq_true rfl) (Nat.le_of_ble_eq_true rfl) (Nat.le_of_ble_eq_true rfl) (Nat.le_of_ble_eq_true rfl) (Nat.le_of_ble_eq_true rfl) ?_
  refine A_iadd (pc := 10) hX dX11_traitSum_10 ?_
  refine A_iload_n (pc := 11) rfl hX dX11_traitSum_11 ?_
  refine A_iconst (pc := 12) (v := (nI 2)) (by decide) hX dX11_traitSum_12 ?_
  refine A_S2d (pc := 13) hX mk_X11_traitOf ls_X11_142 dX11_traitSum_13 (ct_traitOf l G hs (by decide)) rfl (Nat.le_of_ble_eq_true rfl) (Nat.le_of_ble_eq_true rfl) (Nat.le_of_ble_eq_true rfl) (Nat.le_of_ble_eq_true rfl) (Nat.le_of_ble_eq_true rfl) ?_
  refine A_iadd (pc := 16) hX dX11_traitSum_16 ?_
  refine A_iret (pc := 17) hX hR dX11_traitSum_17 rfl rfl ?_
  exact ⟨by rw [nI_add, nI_add]; rfl, rfl⟩
def ciK (k : Nat) : Nat := match k with
  | 0 => 0
  | 1 => 4
  | 2 => 9
  | 3 => 6
  | _ => 1
def oK (k t m d : Nat) : va_E := aO (ciK k) [.int (nI t), .int (nI m), .int (nI d)]
set_option maxRecDepth 100000 in
set_option maxHeartbeats 1000000 in
theorem ct_X0_init (l : Launch) (G : aG) {a ci : Nat} {x y z : Int32} {v0 v1 v2 : Value} {σ : aS} (h9 : LkP RX0 9 ci 0 .int true) (h15 : LkP RX0 15 ci 1 .int true) (h18 : LkP RX0 18 ci 2 .int true) (h : σ.2 a = some (aO ci [v0, v1, v2])) : ACt l G yX0_init cX0_init 4 (none) 1 0 0 [.ref a, .int x, .int y, .int z] σ (vP (fun σ' => σ'.2 a = some (aO ci [.int x, .int y, .int z]) ∧ Fr a (a + 1) σ σ')) := by
  refine ACt.intro (own := RX0) (nm := "<init>") mk_X0_init rfl rfl [some (.ref a), some (.int x), some (.int y), some (.int z)] rfl (Nat.le_of_ble_eq_true rfl) (fun X hX hR => ?_)
  refine A_aload_n (pc := 0) rfl hX dX0_init_0 ?_
  refine A_objInit (pc := 1) hX lo_X0_3 dX0_init_1 rfl (Nat.le_of_ble_eq_true rfl) (Nat.le_of_ble_eq_true rfl) ?_
  refine A_aload_n (pc := 4) rfl hX dX0_init_4 ?_
  refine A_iload_n (pc := 5) rfl hX dX0_init_5 ?_
  refine A_putF (pc := 6) (fs' := [_, _, _]) hX h9 dX0_init_6 (by repeat (first | assumption | exact aSet_s | exact aNew_s | refine lk_n ?_ (by omega) | refine lk_f (by assumption) ?_ (by omega) | refine lk_w ?_ (by omega))) (by exact Nat.le_of_ble_eq_true rfl) (by exact rfl) rfl rfl ?_
  refine A_aload_n (pc := 9) rfl hX dX0_init_9 ?_
  refine A_iload_n (pc := 10) rfl hX dX0_init_10 ?_
  refine A_putF (pc := 11) (fs' := [_, _, _]) hX h15 dX0_init_11 (by repeat (first | assumption | exact aSet_s | exact aNew_s | refine lk_n ?_ (by omega) | refine lk_f (by assumption) ?_ (by omega) | refine lk_w ?_ (by omega))) (by exact Nat.le_of_ble_eq_true rfl) (by exact rfl) rfl rfl ?_
  refine A_aload_n (pc := 14) rfl hX dX0_init_14 ?_
  refine A_iload_n (pc := 15) rfl hX dX0_init_15 ?_
  refine A_putF (pc := 16) (fs' := [_, _, _]) hX h18 dX0_init_16 (by repeat (first | assumption | exact aSet_s | exact aNew_s | refine lk_n ?_ (by omega) | refine lk_f (by assumption) ?_ (by omega) | refine lk_w ?_ (by omega))) (by exact Nat.le_of_ble_eq_true rfl) (by exact rfl) rfl rfl ?_
  refine A_ret (pc := 19) hX hR dX0_init_19 ?_
  exact ⟨rfl, aSet_s, ((Fr.rf.set (Nat.le_refl _) (Nat.lt_succ_self _)).set (Nat.le_refl _) (Nat.lt_succ_self _)).set (Nat.le_refl _) (Nat.lt_succ_self _)⟩
set_option maxRecDepth 100000 in
set_option maxHeartbeats 1000000 in
theorem ct_X4_init (l : Launch) (G : aG) {a ci : Nat} {x y z : Int32} {v0 v1 v2 : Value} {σ : aS} (h9 : LkP RX0 9 ci 0 .int true) (h15 : LkP RX0 15 ci 1 .int true) (h18 : LkP RX0 18 ci 2 .int true) (h : σ.2 a = some (aO ci [v0, v1, v2])) : ACt l G yX4_init cX4_init 4 (none) 2 0 0 [.ref a, .int x, .int y, .int z] σ (vP (fun σ' => σ'.2 a = some (aO ci [.int x, .int y, .int z]) ∧ Fr a (a + 1) σ σ')) := by
  refine ACt.intro (own := RX4) (nm := "<init>") mk_X4_init rfl rfl [some (.ref a), some (.int x), some (.int y), some (.int z)] rfl (Nat.le_of_ble_eq_true rfl) (fun X hX hR => ?_)
  refine A_aload_n (pc := 0) rfl hX dX4_init_0 ?_
  refine A_iload_n (pc := 1) rfl hX dX4_init_1 ?_
  refine A_iload_n (pc := 2) rfl hX dX4_init_2 ?_
  refine A_iload_n (pc := 3) rfl hX dX4_init_3 ?_
  refine A_I3v (pc := 4) hX mk_X0_init li_X4_3 dX4_init_4 (ct_X0_init l G h9 h15 h18 h) rfl (Nat.le_of_ble_eq_true rfl) (Nat.le_of_ble_eq_true rfl) (Nat.le_of_ble_eq_true rfl) (Nat.le_of_ble_eq_true rfl) (Nat.le_of_ble_eq_true rfl) (fun σ4 h4 => ?_)
  refine A_ret (pc := 7) hX hR dX4_init_7 ?_
  exact ⟨rfl, h4⟩
set_option maxRecDepth 100000 in
set_option maxHeartbeats 1000000 in
theorem ct_X9_init (l : Launch) (G : aG) {a ci : Nat} {x y z : Int32} {v0 v1 v2 : Value} {σ : aS} (h9 : LkP RX0 9 ci 0 .int true) (h15 : LkP RX0 15 ci 1 .int true) (h18 : LkP RX0 18 ci 2 .int true) (h : σ.2 a = some (aO ci [v0, v1, v2])) : ACt l G yX9_init cX9_init 4 (none) 2 0 0 [.ref a, .int x, .int y, .int z] σ (vP (fun σ' => σ'.2 a = some (aO ci [.int x, .int y, .int z]) ∧ Fr a (a + 1) σ σ')) := by
  refine ACt.intro (own := RX9) (nm := "<init>") mk_X9_init rfl rfl [some (.ref a), some (.int x), some (.int y), some (.int z)] rfl (Nat.le_of_ble_eq_true rfl) (fun X hX hR => ?_)
  refine A_aload_n (pc := 0) rfl hX dX9_init_0 ?_
  refine A_iload_n (pc := 1) rfl hX dX9_init_1 ?_
  refine A_iload_n (pc := 2) rfl hX dX9_init_2 ?_
  refine A_iload_n (pc := 3) rfl hX dX9_init_3 ?_
  refine A_I3v (pc := 4) hX mk_X0_init li_X9_3 dX9_init_4 (ct_X0_init l G h9 h15 h18 h) rfl (Nat.le_of_ble_eq_true rfl) (Nat.le_of_ble_eq_true rfl) (Nat.le_of_ble_eq_true rfl) (Nat.le_of_ble_eq_true rfl) (Nat.le_of_ble_eq_true rfl) (fun σ4 h4 => ?_)
  refine A_ret (pc := 7) hX hR dX9_init_7 ?_
  exact ⟨rfl, h4⟩
set_option maxRecDepth 100000 in
set_option maxHeartbeats 1000000 in
theorem ct_X6_init (l : Launch) (G : aG) {a ci : Nat} {x y z : Int32} {v0 v1 v2 : Value} {σ : aS} (h9 : LkP RX0 9 ci 0 .int true) (h15 : LkP RX0 15 ci 1 .int true) (h18 : LkP RX0 18 ci 2 .int true) (h : σ.2 a = some (aO ci [v0, v1, v2])) : ACt l G yX6_init cX6_init 4 (none) 2 0 0 [.ref a, .int x, .int y, .int z] σ (vP (fun σ' => σ'.2 a = some (aO ci [.int x, .int y, .int z]) ∧ Fr a (a + 1) σ σ')) := by
  refine ACt.intro (own := RX6) (nm := "<init>") mk_X6_init rfl rfl [some (.ref a), some (.int x), some (.int y), some (.int z)] rfl (Nat.le_of_ble_eq_true rfl) (fun X hX hR => ?_)
  refine A_aload_n (pc := 0) rfl hX dX6_init_0 ?_
  refine A_iload_n (pc := 1) rfl hX dX6_init_1 ?_
  refine A_iload_n (pc := 2) rfl hX dX6_init_2 ?_
  refine A_iload_n (pc := 3) rfl hX dX6_init_3 ?_
  refine A_I3v (pc := 4) hX mk_X0_init li_X6_3 dX6_init_4 (ct_X0_init l G h9 h15 h18 h) rfl (Nat.le_of_ble_eq_true rfl) (Nat.le_of_ble_eq_true rfl) (Nat.le_of_ble_eq_true rfl) (Nat.le_of_ble_eq_true rfl) (Nat.le_of_ble_eq_true rfl) (fun σ4 h4 => ?_)
  refine A_ret (pc := 7) hX hR dX6_init_7 ?_
  exact ⟨rfl, h4⟩
set_option maxRecDepth 100000 in
set_option maxHeartbeats 1000000 in
theorem ct_X1_init (l : Launch) (G : aG) {a ci : Nat} {x y z : Int32} {v0 v1 v2 : Value} {σ : aS} (h9 : LkP RX0 9 ci 0 .int true) (h15 : LkP RX0 15 ci 1 .int true) (h18 : LkP RX0 18 ci 2 .int true) (h : σ.2 a = some (aO ci [v0, v1, v2])) : ACt l G yX1_init cX1_init 4 (none) 3 0 0 [.ref a, .int x, .int y, .int z] σ (vP (fun σ' => σ'.2 a = some (aO ci [.int x, .int y, .int z]) ∧ Fr a (a + 1) σ σ')) := by
  refine ACt.intro (own := RX1) (nm := "<init>") mk_X1_init rfl rfl [some (.ref a), some (.int x), some (.int y), some (.int z)] rfl (Nat.le_of_ble_eq_true rfl) (fun X hX hR => ?_)
  refine A_aload_n (pc := 0) rfl hX dX1_init_0 ?_
  refine A_iload_n (pc := 1) rfl hX dX1_init_1 ?_
  refine A_iload_n (pc := 2) rfl hX dX1_init_2 ?_
  refine A_iload_n (pc := 3) rfl hX dX1_init_3 ?_
  refine A_I3v (pc := 4) hX mk_X4_init li_X1_3 dX1_init_4 (ct_X4_init l G h9 h15 h18 h) rfl (Nat.le_of_ble_eq_true rfl) (Nat.le_of_ble_eq_true rfl) (Nat.le_of_ble_eq_true rfl) (Nat.le_of_ble_eq_true rfl) (Nat.le_of_ble_eq_true rfl) (fun σ4 h4 => ?_)
  refine A_ret (pc := 7) hX hR dX1_init_7 ?_
  exact ⟨rfl, h4⟩
set_option maxRecDepth 100000 in
set_option maxHeartbeats 1000000 in
theorem ct_X0_kind (l : Launch) (G : aG) {a : Nat} {σ : aS} : ACt l G yX0_kind cX0_kind 1 (some .int) 0 0 0 [.ref a] σ (dP (some (.int (nI 0))) σ) := by
  refine ACt.intro (own := RX0) (nm := "kind") mk_X0_kind rfl rfl [some (.ref a)] rfl (Nat.le_of_ble_eq_true rfl) (fun X hX hR => ?_)
  refine A_iconst (pc := 0) (v := (nI 0)) (by decide) hX dX0_kind_0 ?_
  refine A_iret (pc := 1) hX hR dX0_kind_1 rfl rfl ?_
  exact ⟨rfl, rfl⟩
set_option maxRecDepth 100000 in
set_option maxHeartbeats 1000000 in
theorem ct_X4_kind (l : Launch) (G : aG) {a : Nat} {σ : aS} : ACt l G yX4_kind cX4_kind 1 (some .int) 0 0 0 [.ref a] σ (dP (some (.int (nI 1))) σ) := by
  refine ACt.intro (own := RX4) (nm := "kind") mk_X4_kind rfl rfl [some (.ref a)] rfl (Nat.le_of_ble_eq_true rfl) (fun X hX hR => ?_)
  refine A_iconst (pc := 0) (v := (nI 1)) (by decide) hX dX4_kind_0 ?_
  refine A_iret (pc := 1) hX hR dX4_kind_1 rfl rfl ?_
  exact ⟨rfl, rfl⟩
set_option maxRecDepth 100000 in
set_option maxHeartbeats 1000000 in
theorem ct_X9_kind (l : Launch) (G : aG) {a : Nat} {σ : aS} : ACt l G yX9_kind cX9_kind 1 (some .int) 0 0 0 [.ref a] σ (dP (some (.int (nI 2))) σ) := by
  refine ACt.intro (own := RX9) (nm := "kind") mk_X9_kind rfl rfl [some (.ref a)] rfl (Nat.le_of_ble_eq_true rfl) (fun X hX hR => ?_)
  refine A_iconst (pc := 0) (v := (nI 2)) (by decide) hX dX9_kind_0 ?_
  refine A_iret (pc := 1) hX hR dX9_kind_1 rfl rfl ?_
  exact ⟨rfl, rfl⟩
set_option maxRecDepth 100000 in
set_option maxHeartbeats 1000000 in
theorem ct_X6_kind (l : Launch) (G : aG) {a : Nat} {σ : aS} : ACt l G yX6_kind cX6_kind 1 (some .int) 0 0 0 [.ref a] σ (dP (some (.int (nI 3))) σ) := by
  refine ACt.intro (own := RX6) (nm := "kind") mk_X6_kind rfl rfl [some (.ref a)] rfl (Nat.le_of_ble_eq_true rfl) (fun X hX hR => ?_)
  refine A_iconst (pc := 0) (v := (nI 3)) (by decide) hX dX6_kind_0 ?_
  refine A_iret (pc := 1) hX hR dX6_kind_1 rfl rfl ?_
  exact ⟨rfl, rfl⟩
set_option maxRecDepth 100000 in
set_option maxHeartbeats 1000000 in
theorem ct_X1_kind (l : Launch) (G : aG) {a : Nat} {σ : aS} : ACt l G yX1_kind cX1_kind 1 (some .int) 0 0 0 [.ref a] σ (dP (some (.int (nI 4))) σ) := by
  refine ACt.intro (own := RX1) (nm := "kind") mk_X1_kind rfl rfl [some (.ref a)] rfl (Nat.le_of_ble_eq_true rfl) (fun X hX hR => ?_)
  refine A_iconst (pc := 0) (v := (nI 4)) (by decide) hX dX1_kind_0 ?_
  refine A_iret (pc := 1) hX hR dX1_kind_1 rfl rfl ?_
  exact ⟨rfl, rfl⟩
set_option maxRecDepth 100000 in
set_option maxHeartbeats 1000000 in
theorem ct_X0_changed (l : Launch) (G : aG) {a v : Nat} {x z : Value} {m : Nat} {σ : aS} (h : σ.2 a = some (aO 0 [x, .int (nI m), z])) (hv : v < 8) (hm : m < 8) : ACt l G yX0_changed cX0_changed 2 (some .int) 0 0 0 [.ref a, .int (nI v)] σ (dP (some (.int (nI ((v + m) % 8)))) σ) := by
  refine ACt.intro (own := RX0) (nm := "changed") mk_X0_changed rfl rfl [some (.ref a), some (.int (nI v))] rfl (Nat.le_of_ble_eq_true rfl) (fun X hX hR => ?_)
  refine A_iload_n (pc := 0) rfl hX dX0_changed_0 ?_
  refine A_aload_n (pc := 1) rfl hX dX0_changed_1 ?_
  refine A_getf (pc := 2) hX fl_X0_15_0 dX0_changed_2 (by repeat (first | assumption | exact aSet_s | exact aNew_s | refine lk_n ?_ (by omega) | refine lk_f (by assumption) ?_ (by omega) | refine lk_w ?_ (by omega))) (by exact rfl) ?_
  refine A_iadd (pc := 5) hX dX0_changed_5 ?_
  refine A_bipush (pc := 6) (v := (nI 7)) (by decide) hX dX0_changed_6 ?_
  refine A_iand (pc := 8) hX dX0_changed_8 ?_
  refine A_iret (pc := 9) hX hR dX0_changed_9 rfl rfl ?_
  exact ⟨by rw [nI_add, i_and7 (by omega)], rfl⟩
set_option maxRecDepth 100000 in
set_option maxHeartbeats 1000000 in
theorem ct_X4_changed (l : Launch) (G : aG) {a v : Nat} {x z : Value} {m : Nat} {σ : aS} (h : σ.2 a = some (aO 4 [x, .int (nI m), z])) : ACt l G yX4_changed cX4_changed 2 (some .int) 0 0 0 [.ref a, .int (nI v)] σ (dP (some (.int (nI m))) σ) := by
  refine ACt.intro (own := RX4) (nm := "changed") mk_X4_changed rfl rfl [some (.ref a), some (.int (nI v))] rfl (Nat.le_of_ble_eq_true rfl) (fun X hX hR => ?_)
  refine A_aload_n (pc := 0) rfl hX dX4_changed_0 ?_
  refine A_getf (pc := 1) hX fl_X4_9_4 dX4_changed_1 (by repeat (first | assumption | exact aSet_s | exact aNew_s | refine lk_n ?_ (by omega) | refine lk_f (by assumption) ?_ (by omega) | refine lk_w ?_ (by omega))) (by exact rfl) ?_
  refine A_iret (pc := 4) hX hR dX4_changed_4 rfl rfl ?_
  exact ⟨rfl, rfl⟩
set_option maxRecDepth 100000 in
set_option maxHeartbeats 1000000 in
theorem ct_X9_changed (l : Launch) (G : aG) {a v : Nat} {σ : aS} (hv : v < 8) : ACt l G yX9_changed cX9_changed 2 (some .int) 0 0 0 [.ref a, .int (nI v)] σ (dP (some (.int (nI (7 - v)))) σ) := by
  refine ACt.intro (own := RX9) (nm := "changed") mk_X9_changed rfl rfl [some (.ref a), some (.int (nI v))] rfl (Nat.le_of_ble_eq_true rfl) (fun X hX hR => ?_)
  refine A_bipush (pc := 0) (v := (nI 7)) (by decide) hX dX9_changed_0 ?_
  refine A_iload_n (pc := 2) rfl hX dX9_changed_2 ?_
  refine A_isub (pc := 3) hX dX9_changed_3 ?_
  refine A_iret (pc := 4) hX hR dX9_changed_4 rfl rfl ?_
  exact ⟨by rw [pk_sub (by omega)], rfl⟩
set_option maxRecDepth 100000 in
set_option maxHeartbeats 1000000 in
theorem ct_X1_changed (l : Launch) (G : aG) {a v : Nat} {σ : aS} (hv : v < 8) : ACt l G yX1_changed cX1_changed 2 (some .int) 0 0 0 [.ref a, .int (nI v)] σ (dP (some (.int (nI (2 * v % 8)))) σ) := by
  refine ACt.intro (own := RX1) (nm := "changed") mk_X1_changed rfl rfl [some (.ref a), some (.int (nI v))] rfl (Nat.le_of_ble_eq_true rfl) (fun X hX hR => ?_)
  refine A_iconst (pc := 0) (v := (nI 2)) (by decide) hX dX1_changed_0 ?_
  refine A_iload_n (pc := 1) rfl hX dX1_changed_1 ?_
  refine A_imul (pc := 2) hX dX1_changed_2 ?_
  refine A_bipush (pc := 3) (v := (nI 7)) (by decide) hX dX1_changed_3 ?_
  refine A_iand (pc := 5) hX dX1_changed_5 ?_
  refine A_iret (pc := 6) hX hR dX1_changed_6 rfl rfl ?_
  exact ⟨by rw [pk_mul, i_and7 (by omega)], rfl⟩
set_option maxRecDepth 100000 in
set_option maxHeartbeats 1000000 in
theorem ct_stateAfter_0 (l : Launch) (G : aG) {a s t m : Nat} {z : Value} {σ : aS} (h : σ.2 a = some (aO 0 [.int (nI t), .int (nI m), z])) (hs : s < 512) (ht : t < 3) (hm : m < 8) : ACt l G yX0_stateAfter cX0_stateAfter 3 (some .int) 1 0 0 [.ref a, .int (nI s)] σ (dP (some (.int (nI (mk 0 t m s)))) σ) := by
  refine ACt.intro (own := RX0) (nm := "stateAfter") mk_X0_stateAfter rfl rfl [some (.ref a), some (.int (nI s)), none] rfl (Nat.le_of_ble_eq_true rfl) (fun X hX hR => ?_)
  refine A_iload_n (pc := 0) rfl hX dX0_stateAfter_0 ?_
  refine A_aload_n (pc := 1) rfl hX dX0_stateAfter_1 ?_
  refine A_getf (pc := 2) hX fl_X0_9_0 dX0_stateAfter_2 (by repeat (first | assumption | exact aSet_s | exact aNew_s | refine lk_n ?_ (by omega) | refine lk_f (by assumption) ?_ (by omega) | refine lk_w ?_ (by omega))) (by exact rfl) ?_
  refine A_S2d (pc := 5) hX mk_X11_traitOf ls_X0_21 dX0_stateAfter_5 (ct_traitOf l G hs ht) rfl (Nat.le_of_ble_eq_true rfl) (Nat.le_of_ble_eq_true rfl) (Nat.le_of_ble_eq_true rfl) (Nat.le_of_ble_eq_true rfl) (Nat.le_of_ble_eq_true rfl) ?_
  refine A_istore_n (pc := 8) (lv' := [_, _, _]) hX dX0_stateAfter_8 (Nat.le_of_ble_eq_true rfl) rfl rfl ?_
  refine A_iload_n (pc := 9) rfl hX dX0_stateAfter_9 ?_
  refine A_aload_n (pc := 10) rfl hX dX0_stateAfter_10 ?_
  refine A_iload_n (pc := 11) rfl hX dX0_stateAfter_11 ?_
  refine A_U1d (pc := 12) hX mk_X0_changed lu_X0_25_0 dX0_stateAfter_12 (by repeat (first | assumption | exact aSet_s | exact aNew_s | refine lk_n ?_ (by omega) | refine lk_f (by assumption) ?_ (by omega) | refine lk_w ?_ (by omega))) (ct_X0_changed l G h (trt_lt _ _) hm) rfl (Nat.le_of_ble_eq_true rfl) (Nat.le_of_ble_eq_true rfl) (Nat.le_of_ble_eq_true rfl) (Nat.le_of_ble_eq_true rfl) (Nat.le_of_ble_eq_true rfl) ?_
  refine A_iload_n (pc := 15) rfl hX dX0_stateAfter_15 ?_
  refine A_isub (pc := 16) hX dX0_stateAfter_16 ?_
  refine A_iconst (pc := 17) (v := (nI 3)) (by decide) hX dX0_stateAfter_17 ?_
  refine A_aload_n (pc := 18) rfl hX dX0_stateAfter_18 ?_
  refine A_getf (pc := 19) hX fl_X0_9_0 dX0_stateAfter_19 (by repeat (first | assumption | exact aSet_s | exact aNew_s | refine lk_n ?_ (by omega) | refine lk_f (by assumption) ?_ (by omega) | refine lk_w ?_ (by omega))) (by exact rfl) ?_
  refine A_imul (pc := 22) hX dX0_stateAfter_22 ?_
  refine A_ishl (pc := 23) hX dX0_stateAfter_23 ?_
  refine A_iadd (pc := 24) hX dX0_stateAfter_24 ?_
  refine A_iret (pc := 25) hX hR dX0_stateAfter_25 rfl rfl ?_
  exact ⟨by rw [i_set hs ht (Nat.mod_lt _ (by decide))]; rfl, rfl⟩
set_option maxRecDepth 100000 in
set_option maxHeartbeats 1000000 in
theorem ct_stateAfter_1 (l : Launch) (G : aG) {a s t m : Nat} {z : Value} {σ : aS} (h : σ.2 a = some (aO 4 [.int (nI t), .int (nI m), z])) (hs : s < 512) (ht : t < 3) (hm : m < 8) : ACt l G yX0_stateAfter cX0_stateAfter 3 (some .int) 1 0 0 [.ref a, .int (nI s)] σ (dP (some (.int (nI (mk 1 t m s)))) σ) := by
  refine ACt.intro (own := RX0) (nm := "stateAfter") mk_X0_stateAfter rfl rfl [some (.ref a), some (.int (nI s)), none] rfl (Nat.le_of_ble_eq_true rfl) (fun X hX hR => ?_)
  refine A_iload_n (pc := 0) rfl hX dX0_stateAfter_0 ?_
  refine A_aload_n (pc := 1) rfl hX dX0_stateAfter_1 ?_
  refine A_getf (pc := 2) hX fl_X0_9_4 dX0_stateAfter_2 (by repeat (first | assumption | exact aSet_s | exact aNew_s | refine lk_n ?_ (by omega) | refine lk_f (by assumption) ?_ (by omega) | refine lk_w ?_ (by omega))) (by exact rfl) ?_
  refine A_S2d (pc := 5) hX mk_X11_traitOf ls_X0_21 dX0_stateAfter_5 (ct_traitOf l G hs ht) rfl (Nat.le_of_ble_eq_true rfl) (Nat.le_of_ble_eq_true rfl) (Nat.le_of_ble_eq_true rfl) (Nat.le_of_ble_eq_true rfl) (Nat.le_of_ble_eq_true rfl) ?_
  refine A_istore_n (pc := 8) (lv' := [_, _, _]) hX dX0_stateAfter_8 (Nat.le_of_ble_eq_true rfl) rfl rfl ?_
  refine A_iload_n (pc := 9) rfl hX dX0_stateAfter_9 ?_
  refine A_aload_n (pc := 10) rfl hX dX0_stateAfter_10 ?_
  refine A_iload_n (pc := 11) rfl hX dX0_stateAfter_11 ?_
  refine A_U1d (pc := 12) hX mk_X4_changed lu_X0_25_4 dX0_stateAfter_12 (by repeat (first | assumption | exact aSet_s | exact aNew_s | refine lk_n ?_ (by omega) | refine lk_f (by assumption) ?_ (by omega) | refine lk_w ?_ (by omega))) (ct_X4_changed l G h) rfl (Nat.le_of_ble_eq_true rfl) (Nat.le_of_ble_eq_true rfl) (Nat.le_of_ble_eq_true rfl) (Nat.le_of_ble_eq_true rfl) (Nat.le_of_ble_eq_true rfl) ?_
  refine A_iload_n (pc := 15) rfl hX dX0_stateAfter_15 ?_
  refine A_isub (pc := 16) hX dX0_stateAfter_16 ?_
  refine A_iconst (pc := 17) (v := (nI 3)) (by decide) hX dX0_stateAfter_17 ?_
  refine A_aload_n (pc := 18) rfl hX dX0_stateAfter_18 ?_
  refine A_getf (pc := 19) hX fl_X0_9_4 dX0_stateAfter_19 (by repeat (first | assumption | exact aSet_s | exact aNew_s | refine lk_n ?_ (by omega) | refine lk_f (by assumption) ?_ (by omega) | refine lk_w ?_ (by omega))) (by exact rfl) ?_
  refine A_imul (pc := 22) hX dX0_stateAfter_22 ?_
  refine A_ishl (pc := 23) hX dX0_stateAfter_23 ?_
  refine A_iadd (pc := 24) hX dX0_stateAfter_24 ?_
  refine A_iret (pc := 25) hX hR dX0_stateAfter_25 rfl rfl ?_
  exact ⟨by rw [i_set hs ht hm]; rfl, rfl⟩
set_option maxRecDepth 100000 in
set_option maxHeartbeats 1000000 in
theorem ct_stateAfter_2 (l : Launch) (G : aG) {a s t m : Nat} {z : Value} {σ : aS} (h : σ.2 a = some (aO 9 [.int (nI t), .int (nI m), z])) (hs : s < 512) (ht : t < 3) (hm : m < 8) : ACt l G yX0_stateAfter cX0_stateAfter 3 (some .int) 1 0 0 [.ref a, .int (nI s)] σ (dP (some (.int (nI (mk 2 t m s)))) σ) := by
  refine ACt.intro (own := RX0) (nm := "stateAfter") mk_X0_stateAfter rfl rfl [some (.ref a), some (.int (nI s)), none] rfl (Nat.le_of_ble_eq_true rfl) (fun X hX hR => ?_)
  refine A_iload_n (pc := 0) rfl hX dX0_stateAfter_0 ?_
  refine A_aload_n (pc := 1) rfl hX dX0_stateAfter_1 ?_
  refine A_getf (pc := 2) hX fl_X0_9_9 dX0_stateAfter_2 (by repeat (first | assumption | exact aSet_s | exact aNew_s | refine lk_n ?_ (by omega) | refine lk_f (by assumption) ?_ (by omega) | refine lk_w ?_ (by omega))) (by exact rfl) ?_
  refine A_S2d (pc := 5) hX mk_X11_traitOf ls_X0_21 dX0_stateAfter_5 (ct_traitOf l G hs ht) rfl (Nat.le_of_ble_eq_true rfl) (Nat.le_of_ble_eq_true rfl) (Nat.le_of_ble_eq_true rfl) (Nat.le_of_ble_eq_true rfl) (Nat.le_of_ble_eq_true rfl) ?_
  refine A_istore_n (pc := 8) (lv' := [_, _, _]) hX dX0_stateAfter_8 (Nat.le_of_ble_eq_true rfl) rfl rfl ?_
  refine A_iload_n (pc := 9) rfl hX dX0_stateAfter_9 ?_
  refine A_aload_n (pc := 10) rfl hX dX0_stateAfter_10 ?_
  refine A_iload_n (pc := 11) rfl hX dX0_stateAfter_11 ?_
  refine A_U1d (pc := 12) hX mk_X9_changed lu_X0_25_9 dX0_stateAfter_12 (by repeat (first | assumption | exact aSet_s | exact aNew_s | refine lk_n ?_ (by omega) | refine lk_f (by assumption) ?_ (by omega) | refine lk_w ?_ (by omega))) (ct_X9_changed l G (trt_lt _ _)) rfl (Nat.le_of_ble_eq_true rfl) (Nat.le_of_ble_eq_true rfl) (Nat.le_of_ble_eq_true rfl) (Nat.le_of_ble_eq_true rfl) (Nat.le_of_ble_eq_true rfl) ?_
  refine A_iload_n (pc := 15) rfl hX dX0_stateAfter_15 ?_
  refine A_isub (pc := 16) hX dX0_stateAfter_16 ?_
  refine A_iconst (pc := 17) (v := (nI 3)) (by decide) hX dX0_stateAfter_17 ?_
  refine A_aload_n (pc := 18) rfl hX dX0_stateAfter_18 ?_
  refine A_getf (pc := 19) hX fl_X0_9_9 dX0_stateAfter_19 (by repeat (first | assumption | exact aSet_s | exact aNew_s | refine lk_n ?_ (by omega) | refine lk_f (by assumption) ?_ (by omega) | refine lk_w ?_ (by omega))) (by exact rfl) ?_
  refine A_imul (pc := 22) hX dX0_stateAfter_22 ?_
  refine A_ishl (pc := 23) hX dX0_stateAfter_23 ?_
  refine A_iadd (pc := 24) hX dX0_stateAfter_24 ?_
  refine A_iret (pc := 25) hX hR dX0_stateAfter_25 rfl rfl ?_
  exact ⟨by rw [i_set hs ht (by have := trt_lt s t; omega)]; rfl, rfl⟩
set_option maxRecDepth 100000 in
set_option maxHeartbeats 1000000 in
theorem ct_stateAfter_4 (l : Launch) (G : aG) {a s t m : Nat} {z : Value} {σ : aS} (h : σ.2 a = some (aO 1 [.int (nI t), .int (nI m), z])) (hs : s < 512) (ht : t < 3) (hm : m < 8) : ACt l G yX0_stateAfter cX0_stateAfter 3 (some .int) 1 0 0 [.ref a, .int (nI s)] σ (dP (some (.int (nI (mk 4 t m s)))) σ) := by
  refine ACt.intro (own := RX0) (nm := "stateAfter") mk_X0_stateAfter rfl rfl [some (.ref a), some (.int (nI s)), none] rfl (Nat.le_of_ble_eq_true rfl) (fun X hX hR => ?_)
  refine A_iload_n (pc := 0) rfl hX dX0_stateAfter_0 ?_
  refine A_aload_n (pc := 1) rfl hX dX0_stateAfter_1 ?_
  refine A_getf (pc := 2) hX fl_X0_9_1 dX0_stateAfter_2 (by repeat (first | assumption | exact aSet_s | exact aNew_s | refine lk_n ?_ (by omega) | refine lk_f (by assumption) ?_ (by omega) | refine lk_w ?_ (by omega))) (by exact rfl) ?_
  refine A_S2d (pc := 5) hX mk_X11_traitOf ls_X0_21 dX0_stateAfter_5 (ct_traitOf l G hs ht) rfl (Nat.le_of_ble_eq_true rfl) (Nat.le_of_ble_eq_true rfl) (Nat.le_of_ble_eq_true rfl) (Nat.le_of_ble_eq_true rfl) (Nat.le_of_ble_eq_true rfl) ?_
  refine A_istore_n (pc := 8) (lv' := [_, _, _]) hX dX0_stateAfter_8 (Nat.le_of_ble_eq_true rfl) rfl rfl ?_
  refine A_iload_n (pc := 9) rfl hX dX0_stateAfter_9 ?_
  refine A_aload_n (pc := 10) rfl hX dX0_stateAfter_10 ?_
  refine A_iload_n (pc := 11) rfl hX dX0_stateAfter_11 ?_
  refine A_U1d (pc := 12) hX mk_X1_changed lu_X0_25_1 dX0_stateAfter_12 (by repeat (first | assumption | exact aSet_s | exact aNew_s | refine lk_n ?_ (by omega) | refine lk_f (by assumption) ?_ (by omega) | refine lk_w ?_ (by omega))) (ct_X1_changed l G (trt_lt _ _)) rfl (Nat.le_of_ble_eq_true rfl) (Nat.le_of_ble_eq_true rfl) (Nat.le_of_ble_eq_true rfl) (Nat.le_of_ble_eq_true rfl) (Nat.le_of_ble_eq_true rfl) ?_
  refine A_iload_n (pc := 15) rfl hX dX0_stateAfter_15 ?_
  refine A_isub (pc := 16) hX dX0_stateAfter_16 ?_
  refine A_iconst (pc := 17) (v := (nI 3)) (by decide) hX dX0_stateAfter_17 ?_
  refine A_aload_n (pc := 18) rfl hX dX0_stateAfter_18 ?_
  refine A_getf (pc := 19) hX fl_X0_9_1 dX0_stateAfter_19 (by repeat (first | assumption | exact aSet_s | exact aNew_s | refine lk_n ?_ (by omega) | refine lk_f (by assumption) ?_ (by omega) | refine lk_w ?_ (by omega))) (by exact rfl) ?_
  refine A_imul (pc := 22) hX dX0_stateAfter_22 ?_
  refine A_ishl (pc := 23) hX dX0_stateAfter_23 ?_
  refine A_iadd (pc := 24) hX dX0_stateAfter_24 ?_
  refine A_iret (pc := 25) hX hR dX0_stateAfter_25 rfl rfl ?_
  exact ⟨by rw [i_set hs ht (Nat.mod_lt _ (by decide))]; rfl, rfl⟩
theorem i_swap {s t m : Nat} (hs : s < 512) (ht : t < 3) : nI s + ((nI (trt s ((t + 1) % 3)) - nI (trt s t)) <<< ((nI 3 * nI t) &&& 31)) + ((nI (trt s t) - nI (trt s ((t + 1) % 3))) <<< ((nI 3 * nI ((t + 1) % 3)) &&& 31)) = nI (mk 3 t m s) := by
  have h1 := trt_lt s ((t + 1) % 3)
  have ht1 : (t + 1) % 3 < 3 := Nat.mod_lt _ (by decide)
  have hne : (t + 1) % 3 ≠ t := by omega
  rw [i_set hs ht h1]
  have e := trt_setT_ne hs ht ht1 hne h1
  have := i_set (setT_lt hs ht h1) ht1 (trt_lt s t)
  rw [e] at this
  exact this
set_option maxRecDepth 100000 in
set_option maxHeartbeats 1000000 in
theorem ct_stateAfter_3 (l : Launch) (G : aG) {a s t m : Nat} {y z : Value} {σ : aS} (h : σ.2 a = some (aO 6 [.int (nI t), y, z])) (hs : s < 512) (ht : t < 3) : ACt l G yX6_stateAfter cX6_stateAfter 5 (some .int) 1 0 0 [.ref a, .int (nI s)] σ (dP (some (.int (nI (mk 3 t m s)))) σ) := by
  refine ACt.intro (own := RX6) (nm := "stateAfter") mk_X6_stateAfter rfl rfl [some (.ref a), some (.int (nI s)), none, none, none] rfl (Nat.le_of_ble_eq_true rfl) (fun X hX hR => ?_)
  refine A_aload_n (pc := 0) rfl hX dX6_stateAfter_0 ?_
  refine A_getf (pc := 1) hX fl_X6_9_6 dX6_stateAfter_1 (by repeat (first | assumption | exact aSet_s | exact aNew_s | refine lk_n ?_ (by omega) | refine lk_f (by assumption) ?_ (by omega) | refine lk_w ?_ (by omega))) (by exact rfl) ?_
  refine A_iconst (pc := 4) (v := (nI 1)) (by decide) hX dX6_stateAfter_4 ?_
  refine A_iadd (pc := 5) hX dX6_stateAfter_5 ?_
  refine A_iconst (pc := 6) (v := (nI 3)) (by decide) hX dX6_stateAfter_6 ?_
  refine A_irem (pc := 7) (by decide) hX dX6_stateAfter_7 ?_
  refine A_top (y := nI ((t + 1) % 3)) (by rw [nI_add, pk_rem (by omega) (by decide) (by decide)]) ?_
  refine A_istore_n (pc := 8) (lv' := [_, _, _, _, _]) hX dX6_stateAfter_8 (Nat.le_of_ble_eq_true rfl) rfl rfl ?_
  refine A_iload_n (pc := 9) rfl hX dX6_stateAfter_9 ?_
  refine A_aload_n (pc := 10) rfl hX dX6_stateAfter_10 ?_
  refine A_getf (pc := 11) hX fl_X6_9_6 dX6_stateAfter_11 (by repeat (first | assumption | exact aSet_s | exact aNew_s | refine lk_n ?_ (by omega) | refine lk_f (by assumption) ?_ (by omega) | refine lk_w ?_ (by omega))) (by exact rfl) ?_
  refine A_S2d (pc := 14) hX mk_X11_traitOf ls_X6_15 dX6_stateAfter_14 (ct_traitOf l G hs ht) rfl (Nat.le_of_ble_eq_true rfl) (Nat.le_of_ble_eq_true rfl) (Nat.le_of_ble_eq_true rfl) (Nat.le_of_ble_eq_true rfl) (Nat.le_of_ble_eq_true rfl) ?_
  refine A_istore_n (pc := 17) (lv' := [_, _, _, _, _]) hX dX6_stateAfter_17 (Nat.le_of_ble_eq_true rfl) rfl rfl ?_
  refine A_iload_n (pc := 18) rfl hX dX6_stateAfter_18 ?_
  refine A_iload_n (pc := 19) rfl hX dX6_stateAfter_19 ?_
  refine A_S2d (pc := 20) hX mk_X11_traitOf ls_X6_15 dX6_stateAfter_20 (ct_traitOf l G hs (Nat.mod_lt _ (by decide))) rfl (Nat.le_of_ble_eq_true rfl) (Nat.le_of_ble_eq_true rfl) (Nat.le_of_ble_eq_true rfl) (Nat.le_of_ble_eq_true rfl) (Nat.le_of_ble_eq_true rfl) ?_
  refine A_istore (pc := 23) (lv' := [_, _, _, _, _]) hX dX6_stateAfter_23 (Nat.le_of_ble_eq_true rfl) rfl rfl ?_
  refine A_iload_n (pc := 25) rfl hX dX6_stateAfter_25 ?_
  refine A_iload (pc := 26) rfl hX dX6_stateAfter_26 ?_
  refine A_iload_n (pc := 28) rfl hX dX6_stateAfter_28 ?_
  refine A_isub (pc := 29) hX dX6_stateAfter_29 ?_
  refine A_iconst (pc := 30) (v := (nI 3)) (by decide) hX dX6_stateAfter_30 ?_
  refine A_aload_n (pc := 31) rfl hX dX6_stateAfter_31 ?_
  refine A_getf (pc := 32) hX fl_X6_9_6 dX6_stateAfter_32 (by repeat (first | assumption | exact aSet_s | exact aNew_s | refine lk_n ?_ (by omega) | refine lk_f (by assumption) ?_ (by omega) | refine lk_w ?_ (by omega))) (by exact rfl) ?_
  refine A_imul (pc := 35) hX dX6_stateAfter_35 ?_
  refine A_ishl (pc := 36) hX dX6_stateAfter_36 ?_
  refine A_iadd (pc := 37) hX dX6_stateAfter_37 ?_
  refine A_iload_n (pc := 38) rfl hX dX6_stateAfter_38 ?_
  refine A_iload (pc := 39) rfl hX dX6_stateAfter_39 ?_
  refine A_isub (pc := 41) hX dX6_stateAfter_41 ?_
  refine A_iconst (pc := 42) (v := (nI 3)) (by decide) hX dX6_stateAfter_42 ?_
  refine A_iload_n (pc := 43) rfl hX dX6_stateAfter_43 ?_
  refine A_imul (pc := 44) hX dX6_stateAfter_44 ?_
  refine A_ishl (pc := 45) hX dX6_stateAfter_45 ?_
  refine A_iadd (pc := 46) hX dX6_stateAfter_46 ?_
  refine A_iret (pc := 47) hX hR dX6_stateAfter_47 rfl rfl ?_
  exact ⟨by rw [i_swap hs ht], rfl⟩
