/-! the object itself: b the object, b + 1 the page, b + 3 the town, b + 8 the things, b + 14 the kept, b + 20 and b + 26 the ways, b + 32 whom never, b + 35 the rows -/
abbrev BorT := Nat → Nat × Nat × Nat × Nat
abbrev ThT := Nat → Nat × Int32 × Int32 × Int32
def RX (G : aG) (b tp sr len : Nat) (cd : Nat → Nat) (nb : Nat) (B : BorT) (nt : Nat) (dy : Int32) (V : ThT) (hI : Bool) (kn : Nat) (kd : Int32) (KV : ThT) (tw hn : Nat) (σ : aS) : Prop := σ.2 b = some (aO 11 [.ref (b + 1), .ref (b + 3), .ref (b + 8), .ref (b + 14), .ref (b + 20), .ref (b + 26), .ref (b + 32), .ref (b + 35), .int (bI hI), .int (nI tw), .int (nI hn)]) ∧ RPg G (b + 1) len cd σ ∧ RTw G (b + 3) tp nb B σ ∧ RTh G (b + 8) nt dy V σ ∧ RTh G (b + 14) kn kd KV σ ∧ RWs G (b + 20) (b + 3) false nb B σ ∧ RWs G (b + 26) (b + 3) true nb B σ ∧ RSp G (b + 32) (b + 3) sr σ ∧ RRo G (b + 35) (b + 3) σ ∧ b + 40 ≤ tp
theorem RWs.fr {G : aG} {y w nb lo hi : Nat} {by_ : Bool} {B : BorT} {σ σ' : aS} (h : RWs G y w by_ nb B σ) (hf : Fr lo hi σ σ') (h2 : hi ≤ y ∨ y + 6 ≤ lo) : RWs G y w by_ nb B σ' := h.kept fun a _ _ => hf.2 a (by omega)
theorem RSp.fr {G : aG} {z w sr lo hi : Nat} {σ σ' : aS} (h : RSp G z w sr σ) (hf : Fr lo hi σ σ') (h2 : hi ≤ z ∨ z + 3 ≤ lo) : RSp G z w sr σ' := h.kept fun a _ _ => hf.2 a (by omega)
theorem RRo.fr {G : aG} {r w lo hi : Nat} {σ σ' : aS} (h : RRo G r w σ) (hf : Fr lo hi σ σ') (h2 : hi ≤ r ∨ r + 5 ≤ lo) : RRo G r w σ' := h.kept fun a _ _ => hf.2 a (by omega)
theorem RWs.cell {G : aG} {y w nb : Nat} {by_ : Bool} {B : BorT} {σ : aS} (h : RWs G y w by_ nb B σ) : ∃ fs, σ.2 y = some (aO 10 fs) := by
  rcases h with ⟨fd, gc, gf, go, gb, ge, h0, _⟩ | ⟨s0, fd, D, F, od, gb, ge, hY, _⟩
  · exact ⟨_, h0⟩
  · exact ⟨_, hY.1⟩
theorem inN_f {n : Nat} {x : Int32} (hn : n < 2 ^ 31) (h : ¬ inN n x = true) : x.toInt < 0 ∨ (n : Int) - 1 < x.toInt := by
  refine Decidable.byContradiction fun q => h (decide_eq_true ⟨?_, ?_⟩)
  · rw [Int32.le_iff_toInt_le, Int32.toInt_zero]; omega
  · rw [Int32.lt_iff_toInt_lt, nI_toInt hn]; omega
theorem inN_n {n : Nat} {x : Int32} (hn : n < 2 ^ 31) (h : x.toInt < 0 ∨ (n : Int) - 1 < x.toInt) : ¬ inN n x = true := by
  intro q
  obtain ⟨i, hi, rfl⟩ := inN_t hn q
  rw [nI_toInt (by omega)] at h
  omega
/-- an answer that asks for a number among n, and for a what among m -/
def an2 (n m : Nat) (f : Nat → Nat → Int32) (x w : Int32) : Int32 := if inN n x = true then if inN m w = true then f x.toNatClampNeg w.toNatClampNeg else -102 else -101
theorem an2_in {n m b c : Nat} {f : Nat → Nat → Int32} (hn : n < 2 ^ 31) (hm : m < 2 ^ 31) (hb : b < n) (hc : c < m) : an2 n m f (nI b) (nI c) = f b c := by
  rw [an2, if_pos (inN_nI hn hb), if_pos (inN_nI hm hc), nI_clamp (by omega), nI_clamp (by omega)]
theorem an2_1 {n m : Nat} {f : Nat → Nat → Int32} {x w : Int32} (h : ¬ inN n x = true) : an2 n m f x w = -101 := if_neg h
theorem an2_2 {n m : Nat} {f : Nat → Nat → Int32} {x w : Int32} (h : inN n x = true) (h2 : ¬ inN m w = true) : an2 n m f x w = -102 := by rw [an2, if_pos h, if_neg h2]
def anFault (len : Nat) (cd : Nat → Nat) (nb : Nat) (x : Int32) : Int32 := if x = 0 then nI (faultOf (fitT cd) len) else if x = nI 1 then nI (faultOf (fitR nb cd) len) else -102
def abN (B : BorT) (nt : Nat) (V : ThT) (b c : Nat) : Int32 := match c with
  | 0 => nI (B b).1
  | 1 => nI (B b).2.1
  | 2 => nI (B b).2.2.1
  | 3 => nI (B b).2.2.2
  | 4 => heldBy V nt (nI b)
  | _ => leftAt V nt (nI b)
def isK (k c : Nat) : Bool := decide (c = 0 ∨ k = c ∨ (c = 1 ∧ k = 4))
def asN (B : BorT) (b c : Nat) : Int32 := if isK (B b).1 c = true then nI b else -1
def thN (B : BorT) (V : ThT) (i c : Nat) : Int32 := match c with
  | 3 => nI (V i).1
  | 4 => (V i).2.1
  | 5 => (V i).2.2.2
  | 6 => nI (homeV B (V i))
  | c => nI (trt (V i).1 c)
def ctN (len nb nt : Nat) (dy : Int32) (V : ThT) (tw hn c : Nat) : Int32 := match c with
  | 0 => nI nb
  | 1 => nI nt
  | 2 => nI (cntN (fun i => decide (¬ (V i).2.1 = -1)) nt)
  | 3 => dy
  | 4 => nI (sumN (fun i => trS (V i).1) nt)
  | 5 => nI len
  | 6 => nI tw
  | _ => nI hn
def anCount (len nb nt : Nat) (dy : Int32) (V : ThT) (tw hn : Nat) (w : Int32) : Int32 := if inN 8 w = true then ctN len nb nt dy V tw hn w.toNatClampNeg else -102
set_option maxRecDepth 100000 in
set_option maxHeartbeats 1000000 in
theorem ct_fault (l : Launch) (G : aG) {b tp sr len nb nt kn tw hn : Nat} {cd : Nat → Nat} {B : BorT} {dy kd : Int32} {V KV : ThT} {hI : Bool} {σ : aS} (hX0 : RX G b tp sr len cd nb B nt dy V hI kn kd KV tw hn σ) {x : Int32} : ACt l G yX11_fault cX11_fault 2 (some .int) 3 0 0 [.ref b, .int x] σ (dP (some (.int (anFault len cd nb x))) σ) := by
  obtain ⟨o0, hpg, htw, hth, hkp, hy1, hy2, hsp, hro, htp⟩ := id hX0
  obtain ⟨pf, p0, p1, p2, p3⟩ := id hpg
  obtain ⟨hwt, hnb, hok, bor, fa, fo, fn, e0, e1, e2, e3, e4, e5, e6⟩ := id htw
  refine ACt.intro (own := RX11) (nm := "fault") mk_X11_fault rfl rfl [some (.ref b), some (.int x)] rfl (Nat.le_of_ble_eq_true rfl) (fun X hX hR => ?_)
  refine A_iload_n (pc := 0) rfl hX dX11_fault_0 ?_
  refine A_if_ne (pc := 1) 12 hX dX11_fault_1 rfl (fun c1 => ?_) (fun c1 => ?_)
  · refine A_iload_n (pc := 12) rfl hX dX11_fault_12 ?_
    refine A_iconst (pc := 13) (v := (nI 1)) (by decide) hX dX11_fault_13 ?_
    refine A_icmp_ne (pc := 14) 32 hX dX11_fault_14 rfl (fun c14 => ?_) (fun c14 => ?_)
    · refine A_bipush (pc := 32) (v := (-102)) (by decide) hX dX11_fault_32 ?_
      refine A_iret (pc := 34) hX hR dX11_fault_34 rfl rfl ?_
      exact ⟨by rw [anFault, if_neg c1, if_neg c14], rfl⟩
    · refine A_aload_n (pc := 17) rfl hX dX11_fault_17 ?_
      refine A_getf (pc := 18) hX fl_X11_10_11 dX11_fault_18 (by repeat (first | assumption | exact aSet_s | exact aNew_s | refine lk_n ?_ (by omega) | refine lk_f (by assumption) ?_ (by omega) | refine lk_w ?_ (by omega))) (by exact rfl) ?_
      refine A_aload_n (pc := 21) rfl hX dX11_fault_21 ?_
      refine A_getf (pc := 22) hX fl_X11_19_11 dX11_fault_22 (by repeat (first | assumption | exact aSet_s | exact aNew_s | refine lk_n ?_ (by omega) | refine lk_f (by assumption) ?_ (by omega) | refine lk_w ?_ (by omega))) (by exact rfl) ?_
      refine A_getf (pc := 25) hX fl_X11_73_8 dX11_fault_25 (by repeat (first | assumption | exact aSet_s | exact aNew_s | refine lk_n ?_ (by omega) | refine lk_f (by assumption) ?_ (by omega) | refine lk_w ?_ (by omega))) (by exact rfl) ?_
      refine A_V1d (pc := 28) hX mk_X2_faultOfRound lv_X11_76 dX11_fault_28 (by repeat (first | assumption | exact aSet_s | exact aNew_s | refine lk_n ?_ (by omega) | refine lk_f (by assumption) ?_ (by omega) | refine lk_w ?_ (by omega))) (ct_faultOfRound l G hpg hnb) rfl (Nat.le_of_ble_eq_true rfl) (Nat.le_of_ble_eq_true rfl) (Nat.le_of_ble_eq_true rfl) (Nat.le_of_ble_eq_true rfl) (Nat.le_of_ble_eq_true rfl) ?_
      refine A_iret (pc := 31) hX hR dX11_fault_31 rfl rfl ?_
      exact ⟨by rw [anFault, if_neg c1, if_pos c14], rfl⟩
  · refine A_aload_n (pc := 4) rfl hX dX11_fault_4 ?_
    refine A_getf (pc := 5) hX fl_X11_10_11 dX11_fault_5 (by repeat (first | assumption | exact aSet_s | exact aNew_s | refine lk_n ?_ (by omega) | refine lk_f (by assumption) ?_ (by omega) | refine lk_w ?_ (by omega))) (by exact rfl) ?_
    refine A_V0d (pc := 8) hX mk_X2_faultOfTown lv_X11_69 dX11_fault_8 (by repeat (first | assumption | exact aSet_s | exact aNew_s | refine lk_n ?_ (by omega) | refine lk_f (by assumption) ?_ (by omega) | refine lk_w ?_ (by omega))) (ct_faultOfTown l G hpg) rfl (Nat.le_of_ble_eq_true rfl) (Nat.le_of_ble_eq_true rfl) (Nat.le_of_ble_eq_true rfl) (Nat.le_of_ble_eq_true rfl) (Nat.le_of_ble_eq_true rfl) ?_
    refine A_iret (pc := 11) hX hR dX11_fault_11 rfl rfl ?_
    exact ⟨by rw [anFault, if_pos c1], rfl⟩
set_option maxRecDepth 100000 in
set_option maxHeartbeats 1000000 in
theorem ct_isOfKind (l : Launch) (G : aG) {a k t m d c : Nat} {σ : aS} (hk : k ≤ 4) (h : σ.2 a = some (oK k t m d)) (hc : c < 5) : ACt l G yX11_isOfKind cX11_isOfKind 2 (some (.boolean)) 0 0 0 [.ref a, .int (nI c)] σ (dP (some (.int (bI (isK k c)))) σ) := by
  refine ACt.intro (own := RX11) (nm := "isOfKind") mk_X11_isOfKind rfl rfl [some (.ref a), some (.int (nI c))] rfl (Nat.le_of_ble_eq_true rfl) (fun X hX hR => ?_)
  refine A_iload_n (pc := 0) rfl hX dX11_isOfKind_0 ?_
  rcases (by omega : c = 0 ∨ c = 1 ∨ c = 2 ∨ c = 3 ∨ c = 4) with rfl | rfl | rfl | rfl | rfl
  · refine A_tabIn (pc := 1) (off := 35) 36 hX dX11_isOfKind_1 (by decide) (by decide) rfl rfl ?_
    refine A_iconst (pc := 36) (v := (nI 1)) (by decide) hX dX11_isOfKind_36 ?_
    refine A_iret (pc := 37) hX hR dX11_isOfKind_37 rfl rfl ?_
    exact ⟨rfl, rfl⟩
  · refine A_tabIn (pc := 1) (off := 37) 38 hX dX11_isOfKind_1 (by decide) (by decide) rfl rfl ?_
    refine A_aload_n (pc := 38) rfl hX dX11_isOfKind_38 ?_
    rcases oK_get hk h with ⟨e, rfl⟩ | ⟨e, rfl⟩ | ⟨e, rfl⟩ | ⟨e, rfl⟩ | ⟨e, rfl⟩
    · refine A_instN (pc := 39) hX cl_X11_260 dX11_isOfKind_39 e rfl (by decide +kernel) ?_
      refine A_iret (pc := 42) hX hR dX11_isOfKind_42 rfl rfl ?_
      exact ⟨rfl, rfl⟩
    · refine A_instY (pc := 39) hX cl_X11_260 dX11_isOfKind_39 e rfl (.inl rfl) ?_
      refine A_iret (pc := 42) hX hR dX11_isOfKind_42 rfl rfl ?_
      exact ⟨rfl, rfl⟩
    · refine A_instN (pc := 39) hX cl_X11_260 dX11_isOfKind_39 e rfl (by decide +kernel) ?_
      refine A_iret (pc := 42) hX hR dX11_isOfKind_42 rfl rfl ?_
      exact ⟨rfl, rfl⟩
    · refine A_instN (pc := 39) hX cl_X11_260 dX11_isOfKind_39 e rfl (by decide +kernel) ?_
      refine A_iret (pc := 42) hX hR dX11_isOfKind_42 rfl rfl ?_
      exact ⟨rfl, rfl⟩
    · refine A_instY (pc := 39) hX cl_X11_260 dX11_isOfKind_39 e rfl (.inr ca_X1_X4) ?_
      refine A_iret (pc := 42) hX hR dX11_isOfKind_42 rfl rfl ?_
      exact ⟨rfl, rfl⟩
  · refine A_tabIn (pc := 1) (off := 42) 43 hX dX11_isOfKind_1 (by decide) (by decide) rfl rfl ?_
    refine A_aload_n (pc := 43) rfl hX dX11_isOfKind_43 ?_
    rcases oK_get hk h with ⟨e, rfl⟩ | ⟨e, rfl⟩ | ⟨e, rfl⟩ | ⟨e, rfl⟩ | ⟨e, rfl⟩
    · refine A_instN (pc := 44) hX cl_X11_262 dX11_isOfKind_44 e rfl (by decide +kernel) ?_
      refine A_iret (pc := 47) hX hR dX11_isOfKind_47 rfl rfl ?_
      exact ⟨rfl, rfl⟩
    · refine A_instN (pc := 44) hX cl_X11_262 dX11_isOfKind_44 e rfl (by decide +kernel) ?_
      refine A_iret (pc := 47) hX hR dX11_isOfKind_47 rfl rfl ?_
      exact ⟨rfl, rfl⟩
    · refine A_instY (pc := 44) hX cl_X11_262 dX11_isOfKind_44 e rfl (.inl rfl) ?_
      refine A_iret (pc := 47) hX hR dX11_isOfKind_47 rfl rfl ?_
      exact ⟨rfl, rfl⟩
    · refine A_instN (pc := 44) hX cl_X11_262 dX11_isOfKind_44 e rfl (by decide +kernel) ?_
      refine A_iret (pc := 47) hX hR dX11_isOfKind_47 rfl rfl ?_
      exact ⟨rfl, rfl⟩
    · refine A_instN (pc := 44) hX cl_X11_262 dX11_isOfKind_44 e rfl (by decide +kernel) ?_
      refine A_iret (pc := 47) hX hR dX11_isOfKind_47 rfl rfl ?_
      exact ⟨rfl, rfl⟩
  · refine A_tabIn (pc := 1) (off := 47) 48 hX dX11_isOfKind_1 (by decide) (by decide) rfl rfl ?_
    refine A_aload_n (pc := 48) rfl hX dX11_isOfKind_48 ?_
    rcases oK_get hk h with ⟨e, rfl⟩ | ⟨e, rfl⟩ | ⟨e, rfl⟩ | ⟨e, rfl⟩ | ⟨e, rfl⟩
    · refine A_instN (pc := 49) hX cl_X11_264 dX11_isOfKind_49 e rfl (by decide +kernel) ?_
      refine A_iret (pc := 52) hX hR dX11_isOfKind_52 rfl rfl ?_
      exact ⟨rfl, rfl⟩
    · refine A_instN (pc := 49) hX cl_X11_264 dX11_isOfKind_49 e rfl (by decide +kernel) ?_
      refine A_iret (pc := 52) hX hR dX11_isOfKind_52 rfl rfl ?_
      exact ⟨rfl, rfl⟩
    · refine A_instN (pc := 49) hX cl_X11_264 dX11_isOfKind_49 e rfl (by decide +kernel) ?_
      refine A_iret (pc := 52) hX hR dX11_isOfKind_52 rfl rfl ?_
      exact ⟨rfl, rfl⟩
    · refine A_instY (pc := 49) hX cl_X11_264 dX11_isOfKind_49 e rfl (.inl rfl) ?_
      refine A_iret (pc := 52) hX hR dX11_isOfKind_52 rfl rfl ?_
      exact ⟨rfl, rfl⟩
    · refine A_instN (pc := 49) hX cl_X11_264 dX11_isOfKind_49 e rfl (by decide +kernel) ?_
      refine A_iret (pc := 52) hX hR dX11_isOfKind_52 rfl rfl ?_
      exact ⟨rfl, rfl⟩
  · refine A_tabIn (pc := 1) (off := 52) 53 hX dX11_isOfKind_1 (by decide) (by decide) rfl rfl ?_
    refine A_aload_n (pc := 53) rfl hX dX11_isOfKind_53 ?_
    rcases oK_get hk h with ⟨e, rfl⟩ | ⟨e, rfl⟩ | ⟨e, rfl⟩ | ⟨e, rfl⟩ | ⟨e, rfl⟩
    · refine A_instN (pc := 54) hX cl_X11_266 dX11_isOfKind_54 e rfl (by decide +kernel) ?_
      refine A_iret (pc := 57) hX hR dX11_isOfKind_57 rfl rfl ?_
      exact ⟨rfl, rfl⟩
    · refine A_instN (pc := 54) hX cl_X11_266 dX11_isOfKind_54 e rfl (by decide +kernel) ?_
      refine A_iret (pc := 57) hX hR dX11_isOfKind_57 rfl rfl ?_
      exact ⟨rfl, rfl⟩
    · refine A_instN (pc := 54) hX cl_X11_266 dX11_isOfKind_54 e rfl (by decide +kernel) ?_
      refine A_iret (pc := 57) hX hR dX11_isOfKind_57 rfl rfl ?_
      exact ⟨rfl, rfl⟩
    · refine A_instN (pc := 54) hX cl_X11_266 dX11_isOfKind_54 e rfl (by decide +kernel) ?_
      refine A_iret (pc := 57) hX hR dX11_isOfKind_57 rfl rfl ?_
      exact ⟨rfl, rfl⟩
    · refine A_instY (pc := 54) hX cl_X11_266 dX11_isOfKind_54 e rfl (.inl rfl) ?_
      refine A_iret (pc := 57) hX hR dX11_isOfKind_57 rfl rfl ?_
      exact ⟨rfl, rfl⟩
set_option maxRecDepth 100000 in
set_option maxHeartbeats 1000000 in
theorem ct_about (l : Launch) (G : aG) {b tp sr len nb nt kn tw hn : Nat} {cd : Nat → Nat} {B : BorT} {dy kd : Int32} {V KV : ThT} {hI : Bool} {σ : aS} (hX0 : RX G b tp sr len cd nb B nt dy V hI kn kd KV tw hn σ) {x w : Int32} : ACt l G yX11_about cX11_about 4 (some .int) 3 0 0 [.ref b, .int x, .int w] σ (dP (some (.int (an2 nb 6 (abN B nt V) x w))) σ) := by
  obtain ⟨o0, hpg, htw, hth, hkp, hy1, hy2, hsp, hro, htp⟩ := id hX0
  obtain ⟨hwt, hnb, hok, bor, fa, fo, fn, e0, e1, e2, e3, e4, e5, e6⟩ := id htw
  obtain ⟨sd, fs, fh, fl, fr, ft, ⟨a0, a1, a2, a3, a4, a5⟩, hnt, hv⟩ := id hth
  refine ACt.intro (own := RX11) (nm := "about") mk_X11_about rfl rfl [some (.ref b), some (.int x), some (.int w), none] rfl (Nat.le_of_ble_eq_true rfl) (fun X hX hR => ?_)
  refine A_aload_n (pc := 0) rfl hX dX11_about_0 ?_
  refine A_getf (pc := 1) hX fl_X11_19_11 dX11_about_1 (by repeat (first | assumption | exact aSet_s | exact aNew_s | refine lk_n ?_ (by omega) | refine lk_f (by assumption) ?_ (by omega) | refine lk_w ?_ (by omega))) (by exact rfl) ?_
  refine A_iload_n (pc := 4) rfl hX dX11_about_4 ?_
  refine A_V1p (pc := 5) hX mk_X8_borrowerAt lv_X11_101 dX11_about_5 (by repeat (first | assumption | exact aSet_s | exact aNew_s | refine lk_n ?_ (by omega) | refine lk_f (by assumption) ?_ (by omega) | refine lk_w ?_ (by omega))) (ct_borrowerAt l G htw) rfl (Nat.le_of_ble_eq_true rfl) (Nat.le_of_ble_eq_true rfl) (Nat.le_of_ble_eq_true rfl) (Nat.le_of_ble_eq_true rfl) (Nat.le_of_ble_eq_true rfl) (fun x5 σ5 h5 => ?_)
  obtain ⟨es, hq⟩ := h5
  have es := es.symm
  subst es
  rcases hq with ⟨rfl, z⟩ | ⟨b1, a, hb1, rfl, rfl, ha, hobj⟩
  · have hno : ¬ inN nb x = true := fun q => z (of_decide_eq_true q)
    refine A_astore_nN (pc := 8) (lv' := [_, _, _, _]) hX dX11_about_8 (Nat.le_of_ble_eq_true rfl) rfl rfl ?_
    refine A_aload_nN (pc := 9) rfl hX dX11_about_9 ?_
    refine A_ifnonnullN (pc := 10) hX dX11_about_10 ?_
    refine A_bipush (pc := 13) (v := (-101)) (by decide) hX dX11_about_13 ?_
    refine A_iret (pc := 15) hX hR dX11_about_15 rfl rfl ?_
    exact ⟨by rw [an2_1 hno], rfl⟩
  · have hin : inN nb (nI b1) = true := inN_nI (by omega) hb1
    have hobj : σ.2 a = some (oK (B b1).1 (B b1).2.1 (B b1).2.2.1 (B b1).2.2.2) := hobj
    have hk4 := (hok b1 hb1).1
    refine A_astore_n (pc := 8) (lv' := [_, _, _, _]) hX dX11_about_8 (Nat.le_of_ble_eq_true rfl) rfl rfl ?_
    refine A_aload_n (pc := 9) rfl hX dX11_about_9 ?_
    refine A_ifnonnull (pc := 10) 16 hX dX11_about_10 rfl ?_
    refine A_iload_n (pc := 16) rfl hX dX11_about_16 ?_
    by_cases hc : inN 6 w = true
    · obtain ⟨c, hc1, rfl⟩ := inN_t (by decide) hc
      rcases (by omega : c = 0 ∨ c = 1 ∨ c = 2 ∨ c = 3 ∨ c = 4 ∨ c = 5) with rfl | rfl | rfl | rfl | rfl | rfl
      · refine A_tabIn (pc := 17) (off := 39) 56 hX dX11_about_17 (by decide) (by decide) rfl rfl ?_
        refine A_aload_n (pc := 56) rfl hX dX11_about_56 ?_
        rcases oK_get hk4 hobj with ⟨e, ek⟩ | ⟨e, ek⟩ | ⟨e, ek⟩ | ⟨e, ek⟩ | ⟨e, ek⟩
        · skip
          refine A_U0d (pc := 57) hX mk_X0_kind lu_X11_105_0 dX11_about_57 (by repeat (first | assumption | exact aSet_s | exact aNew_s | refine lk_n ?_ (by omega) | refine lk_f (by assumption) ?_ (by omega) | refine lk_w ?_ (by omega))) (ct_X0_kind l G) rfl (Nat.le_of_ble_eq_true rfl) (Nat.le_of_ble_eq_true rfl) (Nat.le_of_ble_eq_true rfl) (Nat.le_of_ble_eq_true rfl) (Nat.le_of_ble_eq_true rfl) ?_
          refine A_iret (pc := 60) hX hR dX11_about_60 rfl rfl ?_
          exact ⟨by rw [an2_in (by omega) (by decide) hb1 hc1]; show some (Value.int (nI 0)) = some (Value.int (nI (B b1).1)); rw [ek], rfl⟩
        · skip
          refine A_U0d (pc := 57) hX mk_X4_kind lu_X11_105_4 dX11_about_57 (by repeat (first | assumption | exact aSet_s | exact aNew_s | refine lk_n ?_ (by omega) | refine lk_f (by assumption) ?_ (by omega) | refine lk_w ?_ (by omega))) (ct_X4_kind l G) rfl (Nat.le_of_ble_eq_true rfl) (Nat.le_of_ble_eq_true rfl) (Nat.le_of_ble_eq_true rfl) (Nat.le_of_ble_eq_true rfl) (Nat.le_of_ble_eq_true rfl) ?_
          refine A_iret (pc := 60) hX hR dX11_about_60 rfl rfl ?_
          exact ⟨by rw [an2_in (by omega) (by decide) hb1 hc1]; show some (Value.int (nI 1)) = some (Value.int (nI (B b1).1)); rw [ek], rfl⟩
        · skip
          refine A_U0d (pc := 57) hX mk_X9_kind lu_X11_105_9 dX11_about_57 (by repeat (first | assumption | exact aSet_s | exact aNew_s | refine lk_n ?_ (by omega) | refine lk_f (by assumption) ?_ (by omega) | refine lk_w ?_ (by omega))) (ct_X9_kind l G) rfl (Nat.le_of_ble_eq_true rfl) (Nat.le_of_ble_eq_true rfl) (Nat.le_of_ble_eq_true rfl) (Nat.le_of_ble_eq_true rfl) (Nat.le_of_ble_eq_true rfl) ?_
          refine A_iret (pc := 60) hX hR dX11_about_60 rfl rfl ?_
          exact ⟨by rw [an2_in (by omega) (by decide) hb1 hc1]; show some (Value.int (nI 2)) = some (Value.int (nI (B b1).1)); rw [ek], rfl⟩
        · skip
          refine A_U0d (pc := 57) hX mk_X6_kind lu_X11_105_6 dX11_about_57 (by repeat (first | assumption | exact aSet_s | exact aNew_s | refine lk_n ?_ (by omega) | refine lk_f (by assumption) ?_ (by omega) | refine lk_w ?_ (by omega))) (ct_X6_kind l G) rfl (Nat.le_of_ble_eq_true rfl) (Nat.le_of_ble_eq_true rfl) (Nat.le_of_ble_eq_true rfl) (Nat.le_of_ble_eq_true rfl) (Nat.le_of_ble_eq_true rfl) ?_
          refine A_iret (pc := 60) hX hR dX11_about_60 rfl rfl ?_
          exact ⟨by rw [an2_in (by omega) (by decide) hb1 hc1]; show some (Value.int (nI 3)) = some (Value.int (nI (B b1).1)); rw [ek], rfl⟩
        · skip
          refine A_U0d (pc := 57) hX mk_X1_kind lu_X11_105_1 dX11_about_57 (by repeat (first | assumption | exact aSet_s | exact aNew_s | refine lk_n ?_ (by omega) | refine lk_f (by assumption) ?_ (by omega) | refine lk_w ?_ (by omega))) (ct_X1_kind l G) rfl (Nat.le_of_ble_eq_true rfl) (Nat.le_of_ble_eq_true rfl) (Nat.le_of_ble_eq_true rfl) (Nat.le_of_ble_eq_true rfl) (Nat.le_of_ble_eq_true rfl) ?_
          refine A_iret (pc := 60) hX hR dX11_about_60 rfl rfl ?_
          exact ⟨by rw [an2_in (by omega) (by decide) hb1 hc1]; show some (Value.int (nI 4)) = some (Value.int (nI (B b1).1)); rw [ek], rfl⟩
      · refine A_tabIn (pc := 17) (off := 44) 61 hX dX11_about_17 (by decide) (by decide) rfl rfl ?_
        refine A_aload_n (pc := 61) rfl hX dX11_about_61 ?_
        refine A_getK (pc := 62) hX fl_X11_110_0 fl_X11_110_4 fl_X11_110_9 fl_X11_110_6 fl_X11_110_1 dX11_about_62 hk4 hobj rfl ?_
        refine A_iret (pc := 65) hX hR dX11_about_65 rfl rfl ?_
        exact ⟨by rw [an2_in (by omega) (by decide) hb1 hc1]; rfl, rfl⟩
      · refine A_tabIn (pc := 17) (off := 49) 66 hX dX11_about_17 (by decide) (by decide) rfl rfl ?_
        refine A_aload_n (pc := 66) rfl hX dX11_about_66 ?_
        refine A_getK (pc := 67) hX fl_X11_113_0 fl_X11_113_4 fl_X11_113_9 fl_X11_113_6 fl_X11_113_1 dX11_about_67 hk4 hobj rfl ?_
        refine A_iret (pc := 70) hX hR dX11_about_70 rfl rfl ?_
        exact ⟨by rw [an2_in (by omega) (by decide) hb1 hc1]; rfl, rfl⟩
      · refine A_tabIn (pc := 17) (off := 54) 71 hX dX11_about_17 (by decide) (by decide) rfl rfl ?_
        refine A_aload_n (pc := 71) rfl hX dX11_about_71 ?_
        refine A_getK (pc := 72) hX fl_X11_116_0 fl_X11_116_4 fl_X11_116_9 fl_X11_116_6 fl_X11_116_1 dX11_about_72 hk4 hobj rfl ?_
        refine A_iret (pc := 75) hX hR dX11_about_75 rfl rfl ?_
        exact ⟨by rw [an2_in (by omega) (by decide) hb1 hc1]; rfl, rfl⟩
      · refine A_tabIn (pc := 17) (off := 59) 76 hX dX11_about_17 (by decide) (by decide) rfl rfl ?_
        refine A_aload_n (pc := 76) rfl hX dX11_about_76 ?_
        refine A_getf (pc := 77) hX fl_X11_26_11 dX11_about_77 (by repeat (first | assumption | exact aSet_s | exact aNew_s | refine lk_n ?_ (by omega) | refine lk_f (by assumption) ?_ (by omega) | refine lk_w ?_ (by omega))) (by exact rfl) ?_
        refine A_iload_n (pc := 80) rfl hX dX11_about_80 ?_
        refine A_V1d (pc := 81) hX mk_X7_numberHeldBy lv_X11_119 dX11_about_81 (by repeat (first | assumption | exact aSet_s | exact aNew_s | refine lk_n ?_ (by omega) | refine lk_f (by assumption) ?_ (by omega) | refine lk_w ?_ (by omega))) (ct_numberHeldBy l G hth) rfl (Nat.le_of_ble_eq_true rfl) (Nat.le_of_ble_eq_true rfl) (Nat.le_of_ble_eq_true rfl) (Nat.le_of_ble_eq_true rfl) (Nat.le_of_ble_eq_true rfl) ?_
        refine A_iret (pc := 84) hX hR dX11_about_84 rfl rfl ?_
        exact ⟨by rw [an2_in (by omega) (by decide) hb1 hc1]; rfl, rfl⟩
      · refine A_tabIn (pc := 17) (off := 68) 85 hX dX11_about_17 (by decide) (by decide) rfl rfl ?_
        refine A_aload_n (pc := 85) rfl hX dX11_about_85 ?_
        refine A_getf (pc := 86) hX fl_X11_26_11 dX11_about_86 (by repeat (first | assumption | exact aSet_s | exact aNew_s | refine lk_n ?_ (by omega) | refine lk_f (by assumption) ?_ (by omega) | refine lk_w ?_ (by omega))) (by exact rfl) ?_
        refine A_iload_n (pc := 89) rfl hX dX11_about_89 ?_
        refine A_V1d (pc := 90) hX mk_X7_daysLeftAt lv_X11_122 dX11_about_90 (by repeat (first | assumption | exact aSet_s | exact aNew_s | refine lk_n ?_ (by omega) | refine lk_f (by assumption) ?_ (by omega) | refine lk_w ?_ (by omega))) (ct_daysLeftAt l G hth) rfl (Nat.le_of_ble_eq_true rfl) (Nat.le_of_ble_eq_true rfl) (Nat.le_of_ble_eq_true rfl) (Nat.le_of_ble_eq_true rfl) (Nat.le_of_ble_eq_true rfl) ?_
        refine A_iret (pc := 93) hX hR dX11_about_93 rfl rfl ?_
        exact ⟨by rw [an2_in (by omega) (by decide) hb1 hc1]; rfl, rfl⟩
    · refine A_tabOut (pc := 17) 94 hX dX11_about_17 (by have := inN_f (by decide) hc; omega) rfl ?_
      refine A_bipush (pc := 94) (v := (-102)) (by decide) hX dX11_about_94 ?_
      refine A_iret (pc := 96) hX hR dX11_about_96 rfl rfl ?_
      exact ⟨by rw [an2_2 hin hc], rfl⟩
theorem inN_c {m : Nat} {x : Int32} (hm : m + 1 < 2 ^ 31) (h1 : ¬ x < 0) (h2 : x ≤ nI m) : inN (m + 1) x = true := by
  obtain ⟨j, hj, rfl⟩ := nI_of h1
  exact inN_nI hm (by have := (nI_leI hj (by omega)).mp h2; omega)
theorem inN_lt {n : Nat} {x : Int32} (h : x < 0) : ¬ inN n x = true := fun q => i_nlt.mpr (of_decide_eq_true q).1 h
theorem inN_gt {m : Nat} {x : Int32} (hm : m + 1 < 2 ^ 31) (h : ¬ x ≤ nI m) : ¬ inN (m + 1) x = true := by
  intro q
  obtain ⟨i, hi, rfl⟩ := inN_t hm q
  exact h (nI_le (by omega) (by omega))
theorem inN_ge {n : Nat} {x : Int32} (hn : n < 2 ^ 31) (h : nI n ≤ x) : ¬ inN n x = true := by
  intro q
  obtain ⟨i, hi, rfl⟩ := inN_t hn q
  exact absurd h (nI_ge hi hn)
theorem inN_cl {n : Nat} {x : Int32} (h1 : ¬ x < 0) (h2 : ¬ nI n ≤ x) : inN n x = true := decide_eq_true ⟨i_nlt.mp h1, i_nle.mp h2⟩
theorem bI_f {q : Bool} (h : bI q = 0) : ¬ q = true := by rw [bI_eq h]; decide
def inR (lo hi : Nat) (x : Int32) : Bool := decide (nI lo ≤ x ∧ x ≤ nI hi)
theorem inR_t {lo hi : Nat} {x : Int32} (hh : hi < 2 ^ 31) (hl : lo ≤ hi) (h : inR lo hi x = true) : ∃ n, lo ≤ n ∧ n ≤ hi ∧ x = nI n := by
  obtain ⟨h1, h2⟩ := of_decide_eq_true h
  have h0 : ¬ x < 0 := by
    rw [Int32.le_iff_toInt_le, nI_toInt (by omega)] at h1
    rw [Int32.lt_iff_toInt_lt, Int32.toInt_zero]; omega
  obtain ⟨j, hj, rfl⟩ := nI_of h0
  exact ⟨j, (nI_leI (by omega) hj).mp h1, (nI_leI hj hh).mp h2, rfl⟩
theorem inR_c {lo hi : Nat} {x : Int32} (h1 : ¬ x < nI lo) (h2 : x ≤ nI hi) : inR lo hi x = true := decide_eq_true ⟨i_nlt.mp h1, h2⟩
theorem inR_lt {lo hi : Nat} {x : Int32} (h : x < nI lo) : ¬ inR lo hi x = true := fun q => i_nlt.mpr (of_decide_eq_true q).1 h
theorem inR_gt {lo hi : Nat} {x : Int32} (h : ¬ x ≤ nI hi) : ¬ inR lo hi x = true := fun q => h (of_decide_eq_true q).2
/-- the answers that change something: the answer, and what is then -/
def stLetter (len : Nat) (cd : Nat → Nat) (c : Int32) : Int32 × Nat × (Nat → Nat) := if inR 32 126 c = true then if len < 30 then (nI (len + 1), len + 1, fun j => if j = len then c.toNatClampNeg else cd j) else (-104, len, cd) else (-102, len, cd)
def stThing (nb nt : Nat) (V : ThT) (s : Int32) : Int32 × Nat × ThT := if inN 512 s = true then if nb = 0 then (-103, nt, V) else if nt < 4 then (nI nt, nt + 1, fun i => if i = nt then (s.toNatClampNeg, -1, 0, 0) else V i) else (-104, nt, V) else (-102, nt, V)
def stLend (nb : Nat) (B : BorT) (nt : Nat) (V : ThT) (x y : Int32) : Int32 × ThT := if inN nt x = true ∧ inN nb y = true then if (V x.toNatClampNeg).2.1 = -1 ∧ heldBy V nt y = -1 then (nI (B y.toNatClampNeg).2.2.2, fun j => if j = x.toNatClampNeg then ((V x.toNatClampNeg).1, y, nI (B y.toNatClampNeg).2.2.2, (V x.toNatClampNeg).2.2.2) else V j) else (-103, V) else (-101, V)
def stDay (nb : Nat) (B : BorT) (nt : Nat) (dy : Int32) (V : ThT) : Int32 × Int32 × ThT := if nb = 0 then (-103, dy, V) else (nI (cntN (fun i => backV (V i)) nt), dy + 1, fun i => stepV B (V i))
def stImage (nb nt : Nat) (dy : Int32) (V : ThT) (hI : Bool) (kn : Nat) (kd : Int32) (KV : ThT) : Int32 × Bool × Nat × Int32 × ThT := if nb = 0 then (-103, hI, kn, kd, KV) else (dy, true, nt, dy, V)
def stRestore (nt : Nat) (dy : Int32) (V : ThT) (hI : Bool) (kn : Nat) (kd : Int32) (KV : ThT) : Int32 × Nat × Int32 × ThT := if hI = true then (kd, kn, kd, KV) else (-103, nt, dy, V)
theorem RX.setO {G : aG} {b tp sr len nb nt kn tw hn : Nat} {cd : Nat → Nat} {B : BorT} {dy kd : Int32} {V KV : ThT} {hI : Bool} {σ : aS} (h : RX G b tp sr len cd nb B nt dy V hI kn kd KV tw hn σ) (hI' : Bool) (tw' hn' : Nat) {e : va_E} (he : e = aO 11 [.ref (b + 1), .ref (b + 3), .ref (b + 8), .ref (b + 14), .ref (b + 20), .ref (b + 26), .ref (b + 32), .ref (b + 35), .int (bI hI'), .int (nI tw'), .int (nI hn')]) : RX G b tp sr len cd nb B nt dy V hI' kn kd KV tw' hn' (aSet σ b e) := by
  subst he
  obtain ⟨o0, hpg, htw, hth, hkp, hy1, hy2, hsp, hro, htp⟩ := h
  have hf : Fr b (b + 1) σ (aSet σ b (aO 11 [.ref (b + 1), .ref (b + 3), .ref (b + 8), .ref (b + 14), .ref (b + 20), .ref (b + 26), .ref (b + 32), .ref (b + 35), .int (bI hI'), .int (nI tw'), .int (nI hn')])) := Fr.rf.set (Nat.le_refl _) (Nat.lt_succ_self _)
  exact ⟨aSet_s, hpg.fr hf (by omega), htw.fr hf (by omega) (by omega), hth.fr hf (by omega), hkp.fr hf (by omega), hy1.fr hf (by omega), hy2.fr hf (by omega), hsp.fr hf (by omega), hro.fr hf (by omega), htp⟩
set_option maxRecDepth 100000 in
set_option maxHeartbeats 1000000 in
theorem ct_as (l : Launch) (G : aG) {b tp sr len nb nt kn tw hn : Nat} {cd : Nat → Nat} {B : BorT} {dy kd : Int32} {V KV : ThT} {hI : Bool} {σ : aS} (hX0 : RX G b tp sr len cd nb B nt dy V hI kn kd KV tw hn σ) {x w : Int32} : ACt l G yX11_as cX11_as 4 (some .int) 3 0 0 [.ref b, .int x, .int w] σ (dP (some (.int (an2 nb 5 (asN B) x w))) σ) := by
  obtain ⟨o0, hpg, htw, hth, hkp, hy1, hy2, hsp, hro, htp⟩ := id hX0
  obtain ⟨hwt, hnb, hok, bor, fa, fo, fn, e0, e1, e2, e3, e4, e5, e6⟩ := id htw
  refine ACt.intro (own := RX11) (nm := "as") mk_X11_as rfl rfl [some (.ref b), some (.int x), some (.int w), none] rfl (Nat.le_of_ble_eq_true rfl) (fun X hX hR => ?_)
  refine A_aload_n (pc := 0) rfl hX dX11_as_0 ?_
  refine A_getf (pc := 1) hX fl_X11_19_11 dX11_as_1 (by repeat (first | assumption | exact aSet_s | exact aNew_s | refine lk_n ?_ (by omega) | refine lk_f (by assumption) ?_ (by omega) | refine lk_w ?_ (by omega))) (by exact rfl) ?_
  refine A_iload_n (pc := 4) rfl hX dX11_as_4 ?_
  refine A_V1p (pc := 5) hX mk_X8_borrowerAt lv_X11_101 dX11_as_5 (by repeat (first | assumption | exact aSet_s | exact aNew_s | refine lk_n ?_ (by omega) | refine lk_f (by assumption) ?_ (by omega) | refine lk_w ?_ (by omega))) (ct_borrowerAt l G htw) rfl (Nat.le_of_ble_eq_true rfl) (Nat.le_of_ble_eq_true rfl) (Nat.le_of_ble_eq_true rfl) (Nat.le_of_ble_eq_true rfl) (Nat.le_of_ble_eq_true rfl) (fun x5 σ5 h5 => ?_)
  obtain ⟨es, hq⟩ := h5
  have es := es.symm
  subst es
  rcases hq with ⟨rfl, z⟩ | ⟨b1, a, hb1, rfl, rfl, ha, hobj⟩
  · have hno : ¬ inN nb x = true := fun q => z (of_decide_eq_true q)
    refine A_astore_nN (pc := 8) (lv' := [_, _, _, _]) hX dX11_as_8 (Nat.le_of_ble_eq_true rfl) rfl rfl ?_
    refine A_aload_nN (pc := 9) rfl hX dX11_as_9 ?_
    refine A_ifnonnullN (pc := 10) hX dX11_as_10 ?_
    refine A_bipush (pc := 13) (v := (-101)) (by decide) hX dX11_as_13 ?_
    refine A_iret (pc := 15) hX hR dX11_as_15 rfl rfl ?_
    exact ⟨by rw [an2_1 hno], rfl⟩
  · have hin : inN nb (nI b1) = true := inN_nI (by omega) hb1
    have hobj : σ.2 a = some (oK (B b1).1 (B b1).2.1 (B b1).2.2.1 (B b1).2.2.2) := hobj
    have hk4 := (hok b1 hb1).1
    refine A_astore_n (pc := 8) (lv' := [_, _, _, _]) hX dX11_as_8 (Nat.le_of_ble_eq_true rfl) rfl rfl ?_
    refine A_aload_n (pc := 9) rfl hX dX11_as_9 ?_
    refine A_ifnonnull (pc := 10) 16 hX dX11_as_10 rfl ?_
    refine A_iload_n (pc := 16) rfl hX dX11_as_16 ?_
    refine A_if_lt (pc := 17) 25 hX dX11_as_17 rfl (fun c17 => ?_) (fun c17 => ?_)
    · refine A_bipush (pc := 25) (v := (-102)) (by decide) hX dX11_as_25 ?_
      refine A_iret (pc := 27) hX hR dX11_as_27 rfl rfl ?_
      exact ⟨by rw [an2_2 hin (inN_lt c17)], rfl⟩
    · refine A_iload_n (pc := 20) rfl hX dX11_as_20 ?_
      refine A_iconst (pc := 21) (v := (nI 4)) (by decide) hX dX11_as_21 ?_
      refine A_icmp_le (pc := 22) 28 hX dX11_as_22 rfl (fun c22 => ?_) (fun c22 => ?_)
      · have hc := inN_c (by decide) c17 c22
        obtain ⟨c, hc1, rfl⟩ := inN_t (by decide) hc
        refine A_aload_n (pc := 28) rfl hX dX11_as_28 ?_
        refine A_iload_n (pc := 29) rfl hX dX11_as_29 ?_
        refine A_S2d (pc := 30) hX mk_X11_isOfKind ls_X11_125 dX11_as_30 (ct_isOfKind l G hk4 hobj hc1) rfl (Nat.le_of_ble_eq_true rfl) (Nat.le_of_ble_eq_true rfl) (Nat.le_of_ble_eq_true rfl) (Nat.le_of_ble_eq_true rfl) (Nat.le_of_ble_eq_true rfl) ?_
        refine A_if_eq (pc := 33) 40 hX dX11_as_33 rfl (fun c33 => ?_) (fun c33 => ?_)
        · refine A_iconst (pc := 40) (v := (-1)) (by decide) hX dX11_as_40 ?_
          refine A_iret (pc := 41) hX hR dX11_as_41 rfl rfl ?_
          exact ⟨by rw [an2_in (by omega) (by decide) hb1 hc1, asN, bI_eq c33]; rfl, rfl⟩
        · refine A_iload_n (pc := 36) rfl hX dX11_as_36 ?_
          refine A_goto (pc := 37) 41 hX dX11_as_37 rfl ?_
          refine A_iret (pc := 41) hX hR dX11_as_41 rfl rfl ?_
          exact ⟨by rw [an2_in (by omega) (by decide) hb1 hc1, asN, bI_ne c33]; rfl, rfl⟩
      · refine A_bipush (pc := 25) (v := (-102)) (by decide) hX dX11_as_25 ?_
        refine A_iret (pc := 27) hX hR dX11_as_27 rfl rfl ?_
        exact ⟨by rw [an2_2 hin (inN_gt (by decide) c22)], rfl⟩
set_option maxRecDepth 100000 in
set_option maxHeartbeats 1000000 in
theorem ct_thingOf (l : Launch) (G : aG) {b tp sr len nb nt kn tw hn : Nat} {cd : Nat → Nat} {B : BorT} {dy kd : Int32} {V KV : ThT} {hI : Bool} {σ : aS} (hX0 : RX G b tp sr len cd nb B nt dy V hI kn kd KV tw hn σ) (hV : okV nb nt V) {x w : Int32} : ACt l G yX11_thingOf cX11_thingOf 3 (some .int) 3 0 0 [.ref b, .int x, .int w] σ (dP (some (.int (an2 nt 7 (thN B V) x w))) σ) := by
  obtain ⟨o0, hpg, htw, hth, hkp, hy1, hy2, hsp, hro, htp⟩ := id hX0
  obtain ⟨hwt, hnb, hok, bor, fa, fo, fn, e0, e1, e2, e3, e4, e5, e6⟩ := id htw
  obtain ⟨sd, fs, fh, fl, fr, ft, ⟨a0, a1, a2, a3, a4, a5⟩, hnt, hv⟩ := id hth
  refine ACt.intro (own := RX11) (nm := "thingOf") mk_X11_thingOf rfl rfl [some (.ref b), some (.int x), some (.int w)] rfl (Nat.le_of_ble_eq_true rfl) (fun X hX hR => ?_)
  refine A_aload_n (pc := 0) rfl hX dX11_thingOf_0 ?_
  refine A_getf (pc := 1) hX fl_X11_26_11 dX11_thingOf_1 (by repeat (first | assumption | exact aSet_s | exact aNew_s | refine lk_n ?_ (by omega) | refine lk_f (by assumption) ?_ (by omega) | refine lk_w ?_ (by omega))) (by exact rfl) ?_
  refine A_iload_n (pc := 4) rfl hX dX11_thingOf_4 ?_
  refine A_V1d (pc := 5) hX mk_X7_has lv_X11_136 dX11_thingOf_5 (by repeat (first | assumption | exact aSet_s | exact aNew_s | refine lk_n ?_ (by omega) | refine lk_f (by assumption) ?_ (by omega) | refine lk_w ?_ (by omega))) (ct_has l G hth) rfl (Nat.le_of_ble_eq_true rfl) (Nat.le_of_ble_eq_true rfl) (Nat.le_of_ble_eq_true rfl) (Nat.le_of_ble_eq_true rfl) (Nat.le_of_ble_eq_true rfl) ?_
  refine A_if_ne (pc := 8) 14 hX dX11_thingOf_8 rfl (fun c8 => ?_) (fun c8 => ?_)
  · have hin := bI_ne c8
    obtain ⟨i, hi, rfl⟩ := inN_t (by omega) hin
    refine A_iload_n (pc := 14) rfl hX dX11_thingOf_14 ?_
    by_cases hc : inN 7 w = true
    · obtain ⟨c, hc1, rfl⟩ := inN_t (by decide) hc
      rcases (by omega : c = 0 ∨ c = 1 ∨ c = 2 ∨ c = 3 ∨ c = 4 ∨ c = 5 ∨ c = 6) with rfl | rfl | rfl | rfl | rfl | rfl | rfl
      · refine A_tabIn (pc := 15) (off := 41) 56 hX dX11_thingOf_15 (by decide) (by decide) rfl rfl ?_
        refine A_aload_n (pc := 56) rfl hX dX11_thingOf_56 ?_
        refine A_getf (pc := 57) hX fl_X11_26_11 dX11_thingOf_57 (by repeat (first | assumption | exact aSet_s | exact aNew_s | refine lk_n ?_ (by omega) | refine lk_f (by assumption) ?_ (by omega) | refine lk_w ?_ (by omega))) (by exact rfl) ?_
        refine A_iload_n (pc := 60) rfl hX dX11_thingOf_60 ?_
        refine A_V1d (pc := 61) hX mk_X7_stateOf lv_X11_139 dX11_thingOf_61 (by repeat (first | assumption | exact aSet_s | exact aNew_s | refine lk_n ?_ (by omega) | refine lk_f (by assumption) ?_ (by omega) | refine lk_w ?_ (by omega))) (ct_stateOf l G hth hi) rfl (Nat.le_of_ble_eq_true rfl) (Nat.le_of_ble_eq_true rfl) (Nat.le_of_ble_eq_true rfl) (Nat.le_of_ble_eq_true rfl) (Nat.le_of_ble_eq_true rfl) ?_
        refine A_iload_n (pc := 64) rfl hX dX11_thingOf_64 ?_
        refine A_S2d (pc := 65) hX mk_X11_traitOf ls_X11_142 dX11_thingOf_65 (ct_traitOf l G (hV i hi).1 (by decide)) rfl (Nat.le_of_ble_eq_true rfl) (Nat.le_of_ble_eq_true rfl) (Nat.le_of_ble_eq_true rfl) (Nat.le_of_ble_eq_true rfl) (Nat.le_of_ble_eq_true rfl) ?_
        refine A_iret (pc := 68) hX hR dX11_thingOf_68 rfl rfl ?_
        exact ⟨by rw [an2_in (by omega) (by decide) hi hc1]; rfl, rfl⟩
      · refine A_tabIn (pc := 15) (off := 41) 56 hX dX11_thingOf_15 (by decide) (by decide) rfl rfl ?_
        refine A_aload_n (pc := 56) rfl hX dX11_thingOf_56 ?_
        refine A_getf (pc := 57) hX fl_X11_26_11 dX11_thingOf_57 (by repeat (first | assumption | exact aSet_s | exact aNew_s | refine lk_n ?_ (by omega) | refine lk_f (by assumption) ?_ (by omega) | refine lk_w ?_ (by omega))) (by exact rfl) ?_
        refine A_iload_n (pc := 60) rfl hX dX11_thingOf_60 ?_
        refine A_V1d (pc := 61) hX mk_X7_stateOf lv_X11_139 dX11_thingOf_61 (by repeat (first | assumption | exact aSet_s | exact aNew_s | refine lk_n ?_ (by omega) | refine lk_f (by assumption) ?_ (by omega) | refine lk_w ?_ (by omega))) (ct_stateOf l G hth hi) rfl (Nat.le_of_ble_eq_true rfl) (Nat.le_of_ble_eq_true rfl) (Nat.le_of_ble_eq_true rfl) (Nat.le_of_ble_eq_true rfl) (Nat.le_of_ble_eq_true rfl) ?_
        refine A_iload_n (pc := 64) rfl hX dX11_thingOf_64 ?_
        refine A_S2d (pc := 65) hX mk_X11_traitOf ls_X11_142 dX11_thingOf_65 (ct_traitOf l G (hV i hi).1 (by decide)) rfl (Nat.le_of_ble_eq_true rfl) (Nat.le_of_ble_eq_true rfl) (Nat.le_of_ble_eq_true rfl) (Nat.le_of_ble_eq_true rfl) (Nat.le_of_ble_eq_true rfl) ?_
        refine A_iret (pc := 68) hX hR dX11_thingOf_68 rfl rfl ?_
        exact ⟨by rw [an2_in (by omega) (by decide) hi hc1]; rfl, rfl⟩
      · refine A_tabIn (pc := 15) (off := 41) 56 hX dX11_thingOf_15 (by decide) (by decide) rfl rfl ?_
        refine A_aload_n (pc := 56) rfl hX dX11_thingOf_56 ?_
        refine A_getf (pc := 57) hX fl_X11_26_11 dX11_thingOf_57 (by repeat (first | assumption | exact aSet_s | exact aNew_s | refine lk_n ?_ (by omega) | refine lk_f (by assumption) ?_ (by omega) | refine lk_w ?_ (by omega))) (by exact rfl) ?_
        refine A_iload_n (pc := 60) rfl hX dX11_thingOf_60 ?_
        refine A_V1d (pc := 61) hX mk_X7_stateOf lv_X11_139 dX11_thingOf_61 (by repeat (first | assumption | exact aSet_s | exact aNew_s | refine lk_n ?_ (by omega) | refine lk_f (by assumption) ?_ (by omega) | refine lk_w ?_ (by omega))) (ct_stateOf l G hth hi) rfl (Nat.le_of_ble_eq_true rfl) (Nat.le_of_ble_eq_true rfl) (Nat.le_of_ble_eq_true rfl) (Nat.le_of_ble_eq_true rfl) (Nat.le_of_ble_eq_true rfl) ?_
        refine A_iload_n (pc := 64) rfl hX dX11_thingOf_64 ?_
        refine A_S2d (pc := 65) hX mk_X11_traitOf ls_X11_142 dX11_thingOf_65 (ct_traitOf l G (hV i hi).1 (by decide)) rfl (Nat.le_of_ble_eq_true rfl) (Nat.le_of_ble_eq_true rfl) (Nat.le_of_ble_eq_true rfl) (Nat.le_of_ble_eq_true rfl) (Nat.le_of_ble_eq_true rfl) ?_
        refine A_iret (pc := 68) hX hR dX11_thingOf_68 rfl rfl ?_
        exact ⟨by rw [an2_in (by omega) (by decide) hi hc1]; rfl, rfl⟩
      · refine A_tabIn (pc := 15) (off := 54) 69 hX dX11_thingOf_15 (by decide) (by decide) rfl rfl ?_
        refine A_aload_n (pc := 69) rfl hX dX11_thingOf_69 ?_
        refine A_getf (pc := 70) hX fl_X11_26_11 dX11_thingOf_70 (by repeat (first | assumption | exact aSet_s | exact aNew_s | refine lk_n ?_ (by omega) | refine lk_f (by assumption) ?_ (by omega) | refine lk_w ?_ (by omega))) (by exact rfl) ?_
        refine A_iload_n (pc := 73) rfl hX dX11_thingOf_73 ?_
        refine A_V1d (pc := 74) hX mk_X7_stateOf lv_X11_139 dX11_thingOf_74 (by repeat (first | assumption | exact aSet_s | exact aNew_s | refine lk_n ?_ (by omega) | refine lk_f (by assumption) ?_ (by omega) | refine lk_w ?_ (by omega))) (ct_stateOf l G hth hi) rfl (Nat.le_of_ble_eq_true rfl) (Nat.le_of_ble_eq_true rfl) (Nat.le_of_ble_eq_true rfl) (Nat.le_of_ble_eq_true rfl) (Nat.le_of_ble_eq_true rfl) ?_
        refine A_iret (pc := 77) hX hR dX11_thingOf_77 rfl rfl ?_
        exact ⟨by rw [an2_in (by omega) (by decide) hi hc1]; rfl, rfl⟩
      · refine A_tabIn (pc := 15) (off := 63) 78 hX dX11_thingOf_15 (by decide) (by decide) rfl rfl ?_
        refine A_aload_n (pc := 78) rfl hX dX11_thingOf_78 ?_
        refine A_getf (pc := 79) hX fl_X11_26_11 dX11_thingOf_79 (by repeat (first | assumption | exact aSet_s | exact aNew_s | refine lk_n ?_ (by omega) | refine lk_f (by assumption) ?_ (by omega) | refine lk_w ?_ (by omega))) (by exact rfl) ?_
        refine A_iload_n (pc := 82) rfl hX dX11_thingOf_82 ?_
        refine A_V1d (pc := 83) hX mk_X7_holderOf lv_X11_146 dX11_thingOf_83 (by repeat (first | assumption | exact aSet_s | exact aNew_s | refine lk_n ?_ (by omega) | refine lk_f (by assumption) ?_ (by omega) | refine lk_w ?_ (by omega))) (ct_holderOf l G hth hi) rfl (Nat.le_of_ble_eq_true rfl) (Nat.le_of_ble_eq_true rfl) (Nat.le_of_ble_eq_true rfl) (Nat.le_of_ble_eq_true rfl) (Nat.le_of_ble_eq_true rfl) ?_
        refine A_iret (pc := 86) hX hR dX11_thingOf_86 rfl rfl ?_
        exact ⟨by rw [an2_in (by omega) (by decide) hi hc1]; rfl, rfl⟩
      · refine A_tabIn (pc := 15) (off := 72) 87 hX dX11_thingOf_15 (by decide) (by decide) rfl rfl ?_
        refine A_aload_n (pc := 87) rfl hX dX11_thingOf_87 ?_
        refine A_getf (pc := 88) hX fl_X11_26_11 dX11_thingOf_88 (by repeat (first | assumption | exact aSet_s | exact aNew_s | refine lk_n ?_ (by omega) | refine lk_f (by assumption) ?_ (by omega) | refine lk_w ?_ (by omega))) (by exact rfl) ?_
        refine A_iload_n (pc := 91) rfl hX dX11_thingOf_91 ?_
        refine A_V1d (pc := 92) hX mk_X7_returnsOf lv_X11_149 dX11_thingOf_92 (by repeat (first | assumption | exact aSet_s | exact aNew_s | refine lk_n ?_ (by omega) | refine lk_f (by assumption) ?_ (by omega) | refine lk_w ?_ (by omega))) (ct_returnsOf l G hth hi) rfl (Nat.le_of_ble_eq_true rfl) (Nat.le_of_ble_eq_true rfl) (Nat.le_of_ble_eq_true rfl) (Nat.le_of_ble_eq_true rfl) (Nat.le_of_ble_eq_true rfl) ?_
        refine A_iret (pc := 95) hX hR dX11_thingOf_95 rfl rfl ?_
        exact ⟨by rw [an2_in (by omega) (by decide) hi hc1]; rfl, rfl⟩
      · refine A_tabIn (pc := 15) (off := 81) 96 hX dX11_thingOf_15 (by decide) (by decide) rfl rfl ?_
        refine A_aload_n (pc := 96) rfl hX dX11_thingOf_96 ?_
        refine A_getf (pc := 97) hX fl_X11_26_11 dX11_thingOf_97 (by repeat (first | assumption | exact aSet_s | exact aNew_s | refine lk_n ?_ (by omega) | refine lk_f (by assumption) ?_ (by omega) | refine lk_w ?_ (by omega))) (by exact rfl) ?_
        refine A_iload_n (pc := 100) rfl hX dX11_thingOf_100 ?_
        refine A_aload_n (pc := 101) rfl hX dX11_thingOf_101 ?_
        refine A_getf (pc := 102) hX fl_X11_19_11 dX11_thingOf_102 (by repeat (first | assumption | exact aSet_s | exact aNew_s | refine lk_n ?_ (by omega) | refine lk_f (by assumption) ?_ (by omega) | refine lk_w ?_ (by omega))) (by exact rfl) ?_
        refine A_V2d (pc := 105) hX mk_X7_stateAtHome lv_X11_152 dX11_thingOf_105 (by repeat (first | assumption | exact aSet_s | exact aNew_s | refine lk_n ?_ (by omega) | refine lk_f (by assumption) ?_ (by omega) | refine lk_w ?_ (by omega))) (ct_stateAtHome l G hth htw hV hi) rfl (Nat.le_of_ble_eq_true rfl) (Nat.le_of_ble_eq_true rfl) (Nat.le_of_ble_eq_true rfl) (Nat.le_of_ble_eq_true rfl) (Nat.le_of_ble_eq_true rfl) ?_
        refine A_iret (pc := 108) hX hR dX11_thingOf_108 rfl rfl ?_
        exact ⟨by rw [an2_in (by omega) (by decide) hi hc1]; rfl, rfl⟩
    · refine A_tabOut (pc := 15) 109 hX dX11_thingOf_15 (by have := inN_f (by decide) hc; omega) rfl ?_
      refine A_bipush (pc := 109) (v := (-102)) (by decide) hX dX11_thingOf_109 ?_
      refine A_iret (pc := 111) hX hR dX11_thingOf_111 rfl rfl ?_
      exact ⟨by rw [an2_2 hin hc], rfl⟩
  · have hno := bI_f c8
    refine A_bipush (pc := 11) (v := (-101)) (by decide) hX dX11_thingOf_11 ?_
    refine A_iret (pc := 13) hX hR dX11_thingOf_13 rfl rfl ?_
    exact ⟨by rw [an2_1 hno], rfl⟩
set_option maxRecDepth 100000 in
set_option maxHeartbeats 1000000 in
theorem ct_by (l : Launch) (G : aG) {b tp sr len nb nt kn tw hn : Nat} {cd : Nat → Nat} {B : BorT} {dy kd : Int32} {V KV : ThT} {hI : Bool} {σ : aS} (hX0 : RX G b tp sr len cd nb B nt dy V hI kn kd KV tw hn σ) {x s : Int32} : ACt l G yX11_by cX11_by 3 (some .int) 3 0 0 [.ref b, .int x, .int s] σ (dP (some (.int (an2 nb 512 (fun b s => nI (mkB B b s)) x s))) σ) := by
  obtain ⟨o0, hpg, htw, hth, hkp, hy1, hy2, hsp, hro, htp⟩ := id hX0
  obtain ⟨hwt, hnb, hok, bor, fa, fo, fn, e0, e1, e2, e3, e4, e5, e6⟩ := id htw
  refine ACt.intro (own := RX11) (nm := "by") mk_X11_by rfl rfl [some (.ref b), some (.int x), some (.int s)] rfl (Nat.le_of_ble_eq_true rfl) (fun X hX hR => ?_)
  refine A_aload_n (pc := 0) rfl hX dX11_by_0 ?_
  refine A_getf (pc := 1) hX fl_X11_19_11 dX11_by_1 (by repeat (first | assumption | exact aSet_s | exact aNew_s | refine lk_n ?_ (by omega) | refine lk_f (by assumption) ?_ (by omega) | refine lk_w ?_ (by omega))) (by exact rfl) ?_
  refine A_iload_n (pc := 4) rfl hX dX11_by_4 ?_
  refine A_V1p (pc := 5) hX mk_X8_borrowerAt lv_X11_101 dX11_by_5 (by repeat (first | assumption | exact aSet_s | exact aNew_s | refine lk_n ?_ (by omega) | refine lk_f (by assumption) ?_ (by omega) | refine lk_w ?_ (by omega))) (ct_borrowerAt l G htw) rfl (Nat.le_of_ble_eq_true rfl) (Nat.le_of_ble_eq_true rfl) (Nat.le_of_ble_eq_true rfl) (Nat.le_of_ble_eq_true rfl) (Nat.le_of_ble_eq_true rfl) (fun x5 σ5 h5 => ?_)
  obtain ⟨es, hq⟩ := h5
  have es := es.symm
  subst es
  rcases hq with ⟨rfl, z⟩ | ⟨b1, a, hb1, rfl, rfl, ha, hobj⟩
  · have hno : ¬ inN nb x = true := fun q => z (of_decide_eq_true q)
    refine A_ifnonnullN (pc := 8) hX dX11_by_8 ?_
    refine A_bipush (pc := 11) (v := (-101)) (by decide) hX dX11_by_11 ?_
    refine A_iret (pc := 13) hX hR dX11_by_13 rfl rfl ?_
    exact ⟨by rw [an2_1 hno], rfl⟩
  · have hin : inN nb (nI b1) = true := inN_nI (by omega) hb1
    have hobj : σ.2 a = some (oK (B b1).1 (B b1).2.1 (B b1).2.2.1 (B b1).2.2.2) := hobj
    have hk4 := (hok b1 hb1).1
    refine A_ifnonnull (pc := 8) 14 hX dX11_by_8 rfl ?_
    refine A_iload_n (pc := 14) rfl hX dX11_by_14 ?_
    refine A_S1d (pc := 15) hX mk_X11_isState ls_X11_129 dX11_by_15 (ct_isState l G) rfl (Nat.le_of_ble_eq_true rfl) (Nat.le_of_ble_eq_true rfl) (Nat.le_of_ble_eq_true rfl) (Nat.le_of_ble_eq_true rfl) (Nat.le_of_ble_eq_true rfl) ?_
    refine A_if_ne (pc := 18) 24 hX dX11_by_18 rfl (fun c18 => ?_) (fun c18 => ?_)
    · have hc : inN 512 s = true := bI_ne c18
      obtain ⟨c, hc1, rfl⟩ := inN_t (by decide) hc
      refine A_aload_n (pc := 24) rfl hX dX11_by_24 ?_
      refine A_getf (pc := 25) hX fl_X11_19_11 dX11_by_25 (by repeat (first | assumption | exact aSet_s | exact aNew_s | refine lk_n ?_ (by omega) | refine lk_f (by assumption) ?_ (by omega) | refine lk_w ?_ (by omega))) (by exact rfl) ?_
      refine A_iload_n (pc := 28) rfl hX dX11_by_28 ?_
      refine A_iload_n (pc := 29) rfl hX dX11_by_29 ?_
      refine A_V2d (pc := 30) hX mk_X8_after lv_X11_167 dX11_by_30 (by repeat (first | assumption | exact aSet_s | exact aNew_s | refine lk_n ?_ (by omega) | refine lk_f (by assumption) ?_ (by omega) | refine lk_w ?_ (by omega))) (ct_after l G htw hb1 hc1) rfl (Nat.le_of_ble_eq_true rfl) (Nat.le_of_ble_eq_true rfl) (Nat.le_of_ble_eq_true rfl) (Nat.le_of_ble_eq_true rfl) (Nat.le_of_ble_eq_true rfl) ?_
      refine A_iret (pc := 33) hX hR dX11_by_33 rfl rfl ?_
      exact ⟨by rw [an2_in (by omega) (by decide) hb1 hc1], rfl⟩
    · have hc : ¬ inN 512 s = true := bI_f c18
      refine A_bipush (pc := 21) (v := (-102)) (by decide) hX dX11_by_21 ?_
      refine A_iret (pc := 23) hX hR dX11_by_23 rfl rfl ?_
      exact ⟨by rw [an2_2 hin hc], rfl⟩
set_option maxRecDepth 100000 in
set_option maxHeartbeats 1000000 in
theorem ct_count (l : Launch) (G : aG) {b tp sr len nb nt kn tw hn : Nat} {cd : Nat → Nat} {B : BorT} {dy kd : Int32} {V KV : ThT} {hI : Bool} {σ : aS} (hX0 : RX G b tp sr len cd nb B nt dy V hI kn kd KV tw hn σ) (hV : okV nb nt V) {w : Int32} : ACt l G yX11_count cX11_count 2 (some .int) 4 0 0 [.ref b, .int w] σ (dP (some (.int (anCount len nb nt dy V tw hn w))) σ) := by
  obtain ⟨o0, hpg, htw, hth, hkp, hy1, hy2, hsp, hro, htp⟩ := id hX0
  obtain ⟨pf, p0, p1, p2, p3⟩ := id hpg
  obtain ⟨hwt, hnb, hok, bor, fa, fo, fn, e0, e1, e2, e3, e4, e5, e6⟩ := id htw
  obtain ⟨sd, fs, fh, fl, fr, ft, ⟨a0, a1, a2, a3, a4, a5⟩, hnt, hv⟩ := id hth
  refine ACt.intro (own := RX11) (nm := "count") mk_X11_count rfl rfl [some (.ref b), some (.int w)] rfl (Nat.le_of_ble_eq_true rfl) (fun X hX hR => ?_)
  refine A_iload_n (pc := 0) rfl hX dX11_count_0 ?_
  by_cases hc : inN 8 w = true
  · obtain ⟨c, hc1, rfl⟩ := inN_t (by decide) hc
    rcases (by omega : c = 0 ∨ c = 1 ∨ c = 2 ∨ c = 3 ∨ c = 4 ∨ c = 5 ∨ c = 6 ∨ c = 7) with rfl | rfl | rfl | rfl | rfl | rfl | rfl | rfl
    · refine A_tabIn (pc := 1) (off := 47) 48 hX dX11_count_1 (by decide) (by decide) rfl rfl ?_
      refine A_aload_n (pc := 48) rfl hX dX11_count_48 ?_
      refine A_getf (pc := 49) hX fl_X11_19_11 dX11_count_49 (by repeat (first | assumption | exact aSet_s | exact aNew_s | refine lk_n ?_ (by omega) | refine lk_f (by assumption) ?_ (by omega) | refine lk_w ?_ (by omega))) (by exact rfl) ?_
      refine A_getf (pc := 52) hX fl_X11_73_8 dX11_count_52 (by repeat (first | assumption | exact aSet_s | exact aNew_s | refine lk_n ?_ (by omega) | refine lk_f (by assumption) ?_ (by omega) | refine lk_w ?_ (by omega))) (by exact rfl) ?_
      refine A_iret (pc := 55) hX hR dX11_count_55 rfl rfl ?_
      exact ⟨by rw [anCount, if_pos (inN_nI (by decide) hc1), nI_clamp (by decide)]; rfl, rfl⟩
    · refine A_tabIn (pc := 1) (off := 55) 56 hX dX11_count_1 (by decide) (by decide) rfl rfl ?_
      refine A_aload_n (pc := 56) rfl hX dX11_count_56 ?_
      refine A_getf (pc := 57) hX fl_X11_26_11 dX11_count_57 (by repeat (first | assumption | exact aSet_s | exact aNew_s | refine lk_n ?_ (by omega) | refine lk_f (by assumption) ?_ (by omega) | refine lk_w ?_ (by omega))) (by exact rfl) ?_
      refine A_getf (pc := 60) hX fl_X11_133_7 dX11_count_60 (by repeat (first | assumption | exact aSet_s | exact aNew_s | refine lk_n ?_ (by omega) | refine lk_f (by assumption) ?_ (by omega) | refine lk_w ?_ (by omega))) (by exact rfl) ?_
      refine A_iret (pc := 63) hX hR dX11_count_63 rfl rfl ?_
      exact ⟨by rw [anCount, if_pos (inN_nI (by decide) hc1), nI_clamp (by decide)]; rfl, rfl⟩
    · refine A_tabIn (pc := 1) (off := 63) 64 hX dX11_count_1 (by decide) (by decide) rfl rfl ?_
      refine A_aload_n (pc := 64) rfl hX dX11_count_64 ?_
      refine A_getf (pc := 65) hX fl_X11_26_11 dX11_count_65 (by repeat (first | assumption | exact aSet_s | exact aNew_s | refine lk_n ?_ (by omega) | refine lk_f (by assumption) ?_ (by omega) | refine lk_w ?_ (by omega))) (by exact rfl) ?_
      refine A_V0d (pc := 68) hX mk_X7_howManyLent lv_X11_228 dX11_count_68 (by repeat (first | assumption | exact aSet_s | exact aNew_s | refine lk_n ?_ (by omega) | refine lk_f (by assumption) ?_ (by omega) | refine lk_w ?_ (by omega))) (ct_howManyLent l G hth) rfl (Nat.le_of_ble_eq_true rfl) (Nat.le_of_ble_eq_true rfl) (Nat.le_of_ble_eq_true rfl) (Nat.le_of_ble_eq_true rfl) (Nat.le_of_ble_eq_true rfl) ?_
      refine A_iret (pc := 71) hX hR dX11_count_71 rfl rfl ?_
      exact ⟨by rw [anCount, if_pos (inN_nI (by decide) hc1), nI_clamp (by decide)]; rfl, rfl⟩
    · refine A_tabIn (pc := 1) (off := 71) 72 hX dX11_count_1 (by decide) (by decide) rfl rfl ?_
      refine A_aload_n (pc := 72) rfl hX dX11_count_72 ?_
      refine A_getf (pc := 73) hX fl_X11_26_11 dX11_count_73 (by repeat (first | assumption | exact aSet_s | exact aNew_s | refine lk_n ?_ (by omega) | refine lk_f (by assumption) ?_ (by omega) | refine lk_w ?_ (by omega))) (by exact rfl) ?_
      refine A_getf (pc := 76) hX fl_X11_227_7 dX11_count_76 (by repeat (first | assumption | exact aSet_s | exact aNew_s | refine lk_n ?_ (by omega) | refine lk_f (by assumption) ?_ (by omega) | refine lk_w ?_ (by omega))) (by exact rfl) ?_
      refine A_iret (pc := 79) hX hR dX11_count_79 rfl rfl ?_
      exact ⟨by rw [anCount, if_pos (inN_nI (by decide) hc1), nI_clamp (by decide)]; rfl, rfl⟩
    · refine A_tabIn (pc := 1) (off := 79) 80 hX dX11_count_1 (by decide) (by decide) rfl rfl ?_
      refine A_aload_n (pc := 80) rfl hX dX11_count_80 ?_
      refine A_getf (pc := 81) hX fl_X11_26_11 dX11_count_81 (by repeat (first | assumption | exact aSet_s | exact aNew_s | refine lk_n ?_ (by omega) | refine lk_f (by assumption) ?_ (by omega) | refine lk_w ?_ (by omega))) (by exact rfl) ?_
      refine A_V0d (pc := 84) hX mk_X7_traitsTogether lv_X11_231 dX11_count_84 (by repeat (first | assumption | exact aSet_s | exact aNew_s | refine lk_n ?_ (by omega) | refine lk_f (by assumption) ?_ (by omega) | refine lk_w ?_ (by omega))) (ct_traitsTogether l G hth (fun i hi => (hV i hi).1)) rfl (Nat.le_of_ble_eq_true rfl) (Nat.le_of_ble_eq_true rfl) (Nat.le_of_ble_eq_true rfl) (Nat.le_of_ble_eq_true rfl) (Nat.le_of_ble_eq_true rfl) ?_
      refine A_iret (pc := 87) hX hR dX11_count_87 rfl rfl ?_
      exact ⟨by rw [anCount, if_pos (inN_nI (by decide) hc1), nI_clamp (by decide)]; rfl, rfl⟩
    · refine A_tabIn (pc := 1) (off := 87) 88 hX dX11_count_1 (by decide) (by decide) rfl rfl ?_
      refine A_aload_n (pc := 88) rfl hX dX11_count_88 ?_
      refine A_getf (pc := 89) hX fl_X11_10_11 dX11_count_89 (by repeat (first | assumption | exact aSet_s | exact aNew_s | refine lk_n ?_ (by omega) | refine lk_f (by assumption) ?_ (by omega) | refine lk_w ?_ (by omega))) (by exact rfl) ?_
      refine A_getf (pc := 92) hX fl_X11_61_2 dX11_count_92 (by repeat (first | assumption | exact aSet_s | exact aNew_s | refine lk_n ?_ (by omega) | refine lk_f (by assumption) ?_ (by omega) | refine lk_w ?_ (by omega))) (by exact rfl) ?_
      refine A_iret (pc := 95) hX hR dX11_count_95 rfl rfl ?_
      exact ⟨by rw [anCount, if_pos (inN_nI (by decide) hc1), nI_clamp (by decide)]; rfl, rfl⟩
    · refine A_tabIn (pc := 1) (off := 95) 96 hX dX11_count_1 (by decide) (by decide) rfl rfl ?_
      refine A_aload_n (pc := 96) rfl hX dX11_count_96 ?_
      refine A_getf (pc := 97) hX fl_X11_98_11 dX11_count_97 (by repeat (first | assumption | exact aSet_s | exact aNew_s | refine lk_n ?_ (by omega) | refine lk_f (by assumption) ?_ (by omega) | refine lk_w ?_ (by omega))) (by exact rfl) ?_
      refine A_iret (pc := 100) hX hR dX11_count_100 rfl rfl ?_
      exact ⟨by rw [anCount, if_pos (inN_nI (by decide) hc1), nI_clamp (by decide)]; rfl, rfl⟩
    · refine A_tabIn (pc := 1) (off := 100) 101 hX dX11_count_1 (by decide) (by decide) rfl rfl ?_
      refine A_aload_n (pc := 101) rfl hX dX11_count_101 ?_
      refine A_getf (pc := 102) hX fl_X11_197_11 dX11_count_102 (by repeat (first | assumption | exact aSet_s | exact aNew_s | refine lk_n ?_ (by omega) | refine lk_f (by assumption) ?_ (by omega) | refine lk_w ?_ (by omega))) (by exact rfl) ?_
      refine A_iret (pc := 105) hX hR dX11_count_105 rfl rfl ?_
      exact ⟨by rw [anCount, if_pos (inN_nI (by decide) hc1), nI_clamp (by decide)]; rfl, rfl⟩
  · refine A_tabOut (pc := 1) 106 hX dX11_count_1 (by have := inN_f (by decide) hc; omega) rfl ?_
    refine A_bipush (pc := 106) (v := (-102)) (by decide) hX dX11_count_106 ?_
    refine A_iret (pc := 108) hX hR dX11_count_108 rfl rfl ?_
    exact ⟨by rw [anCount, if_neg hc], rfl⟩
set_option maxRecDepth 100000 in
set_option maxHeartbeats 1000000 in
theorem ct_letter (l : Launch) (G : aG) {b tp sr len nb nt kn tw hn : Nat} {cd : Nat → Nat} {B : BorT} {dy kd : Int32} {V KV : ThT} {hI : Bool} {σ : aS} (hX0 : RX G b tp sr len cd nb B nt dy V hI kn kd KV tw hn σ) {c : Int32} : ACt l G yX11_letter cX11_letter 2 (some .int) 2 0 0 [.ref b, .int c] σ (iP (fun x σ' => x = (stLetter len cd c).1 ∧ RX G b tp sr (stLetter len cd c).2.1 (stLetter len cd c).2.2 nb B nt dy V hI kn kd KV tw hn σ' ∧ Fr b (b + 40) σ σ')) := by
  obtain ⟨o0, hpg, htw, hth, hkp, hy1, hy2, hsp, hro, htp⟩ := id hX0
  obtain ⟨pf, p0, p1, p2, p3⟩ := id hpg
  refine ACt.intro (own := RX11) (nm := "letter") mk_X11_letter rfl rfl [some (.ref b), some (.int c)] rfl (Nat.le_of_ble_eq_true rfl) (fun X hX hR => ?_)
  refine A_iload_n (pc := 0) rfl hX dX11_letter_0 ?_
  refine A_bipush (pc := 1) (v := (nI 32)) (by decide) hX dX11_letter_1 ?_
  refine A_icmp_lt (pc := 3) 12 hX dX11_letter_3 rfl (fun c3 => ?_) (fun c3 => ?_)
  · refine A_bipush (pc := 12) (v := (-102)) (by decide) hX dX11_letter_12 ?_
    refine A_iret (pc := 14) hX hR dX11_letter_14 rfl rfl ?_
    rw [show stLetter len cd c = _ from if_neg (inR_lt c3)]
    exact ⟨_, rfl, rfl, hX0, Fr.rf⟩
  · refine A_iload_n (pc := 6) rfl hX dX11_letter_6 ?_
    refine A_bipush (pc := 7) (v := (nI 126)) (by decide) hX dX11_letter_7 ?_
    refine A_icmp_le (pc := 9) 15 hX dX11_letter_9 rfl (fun c9 => ?_) (fun c9 => ?_)
    · have hc := inR_c c3 c9
      obtain ⟨n, hn1, hn2, rfl⟩ := inR_t (by decide) (by decide) hc
      refine A_aload_n (pc := 15) rfl hX dX11_letter_15 ?_
      refine A_getf (pc := 16) hX fl_X11_10_11 dX11_letter_16 (by repeat (first | assumption | exact aSet_s | exact aNew_s | refine lk_n ?_ (by omega) | refine lk_f (by assumption) ?_ (by omega) | refine lk_w ?_ (by omega))) (by exact rfl) ?_
      refine A_getf (pc := 19) hX fl_X11_61_2 dX11_letter_19 (by repeat (first | assumption | exact aSet_s | exact aNew_s | refine lk_n ?_ (by omega) | refine lk_f (by assumption) ?_ (by omega) | refine lk_w ?_ (by omega))) (by exact rfl) ?_
      refine A_bipush (pc := 22) (v := (nI 30)) (by decide) hX dX11_letter_22 ?_
      refine A_icmp_lt (pc := 24) 30 hX dX11_letter_24 rfl (fun c24 => ?_) (fun c24 => ?_)
      · have hl := (nI_ltI (by omega) (by decide)).mp c24
        refine A_aload_n (pc := 30) rfl hX dX11_letter_30 ?_
        refine A_getf (pc := 31) hX fl_X11_10_11 dX11_letter_31 (by repeat (first | assumption | exact aSet_s | exact aNew_s | refine lk_n ?_ (by omega) | refine lk_f (by assumption) ?_ (by omega) | refine lk_w ?_ (by omega))) (by exact rfl) ?_
        refine A_iload_n (pc := 34) rfl hX dX11_letter_34 ?_
        refine A_V1v (pc := 35) hX mk_X2_add lv_X11_65 dX11_letter_35 (by repeat (first | assumption | exact aSet_s | exact aNew_s | refine lk_n ?_ (by omega) | refine lk_f (by assumption) ?_ (by omega) | refine lk_w ?_ (by omega))) (ct_Pg_add l G hpg (by omega) hl) rfl (Nat.le_of_ble_eq_true rfl) (Nat.le_of_ble_eq_true rfl) (Nat.le_of_ble_eq_true rfl) (Nat.le_of_ble_eq_true rfl) (Nat.le_of_ble_eq_true rfl) (fun σ35 h35 => ?_)
        obtain ⟨h35, hf35⟩ := h35
        obtain ⟨qf, q0, q1, q2, q3⟩ := id h35
        refine A_aload_n (pc := 38) rfl hX dX11_letter_38 ?_
        refine A_getf (pc := 39) hX fl_X11_10_11 dX11_letter_39 (by repeat (first | assumption | exact aSet_s | exact aNew_s | refine lk_n ?_ (by omega) | refine lk_f (by assumption) ?_ (by omega) | refine lk_w ?_ (by omega))) (by exact rfl) ?_
        refine A_getf (pc := 42) hX fl_X11_61_2 dX11_letter_42 (by repeat (first | assumption | exact aSet_s | exact aNew_s | refine lk_n ?_ (by omega) | refine lk_f (by assumption) ?_ (by omega) | refine lk_w ?_ (by omega))) (by exact rfl) ?_
        refine A_iret (pc := 45) hX hR dX11_letter_45 rfl rfl ?_
        rw [show stLetter len cd (nI n) = _ from (by rw [stLetter, if_pos hc, if_pos hl, nI_clamp (by omega)])]
        exact ⟨_, rfl, rfl, ⟨lk_f hf35 o0 (by omega), h35, htw.fr hf35 (by omega) (by omega), hth.fr hf35 (by omega), hkp.fr hf35 (by omega), hy1.fr hf35 (by omega), hy2.fr hf35 (by omega), hsp.fr hf35 (by omega), hro.fr hf35 (by omega), htp⟩, (by repeat (first | exact Fr.rf | refine Fr.set ?_ (by omega) (by omega) | refine Fr.tr ?_ (Fr.wd (by assumption) (by omega) (by omega))))⟩
      · refine A_bipush (pc := 27) (v := (-104)) (by decide) hX dX11_letter_27 ?_
        refine A_iret (pc := 29) hX hR dX11_letter_29 rfl rfl ?_
        rw [show stLetter len cd (nI n) = _ from (by rw [stLetter, if_pos hc, if_neg (fun q => c24 (nI_lt q (by decide)))])]
        exact ⟨_, rfl, rfl, hX0, Fr.rf⟩
    · refine A_bipush (pc := 12) (v := (-102)) (by decide) hX dX11_letter_12 ?_
      refine A_iret (pc := 14) hX hR dX11_letter_14 rfl rfl ?_
      rw [show stLetter len cd c = _ from if_neg (inR_gt c9)]
      exact ⟨_, rfl, rfl, hX0, Fr.rf⟩
set_option maxRecDepth 100000 in
set_option maxHeartbeats 1000000 in
theorem ct_blank (l : Launch) (G : aG) {b tp sr len nb nt kn tw hn : Nat} {cd : Nat → Nat} {B : BorT} {dy kd : Int32} {V KV : ThT} {hI : Bool} {σ : aS} (hX0 : RX G b tp sr len cd nb B nt dy V hI kn kd KV tw hn σ) : ACt l G yX11_blank cX11_blank 2 (some .int) 0 0 0 [.ref b] σ (iP (fun x σ' => x = nI len ∧ RX G b tp sr 0 cd nb B nt dy V hI kn kd KV tw hn σ' ∧ Fr b (b + 40) σ σ')) := by
  obtain ⟨o0, hpg, htw, hth, hkp, hy1, hy2, hsp, hro, htp⟩ := id hX0
  obtain ⟨pf, p0, p1, p2, p3⟩ := id hpg
  refine ACt.intro (own := RX11) (nm := "blank") mk_X11_blank rfl rfl [some (.ref b), none] rfl (Nat.le_of_ble_eq_true rfl) (fun X hX hR => ?_)
  refine A_aload_n (pc := 0) rfl hX dX11_blank_0 ?_
  refine A_getf (pc := 1) hX fl_X11_10_11 dX11_blank_1 (by repeat (first | assumption | exact aSet_s | exact aNew_s | refine lk_n ?_ (by omega) | refine lk_f (by assumption) ?_ (by omega) | refine lk_w ?_ (by omega))) (by exact rfl) ?_
  refine A_getf (pc := 4) hX fl_X11_61_2 dX11_blank_4 (by repeat (first | assumption | exact aSet_s | exact aNew_s | refine lk_n ?_ (by omega) | refine lk_f (by assumption) ?_ (by omega) | refine lk_w ?_ (by omega))) (by exact rfl) ?_
  refine A_istore_n (pc := 7) (lv' := [_, _]) hX dX11_blank_7 (Nat.le_of_ble_eq_true rfl) rfl rfl ?_
  refine A_aload_n (pc := 8) rfl hX dX11_blank_8 ?_
  refine A_getf (pc := 9) hX fl_X11_10_11 dX11_blank_9 (by repeat (first | assumption | exact aSet_s | exact aNew_s | refine lk_n ?_ (by omega) | refine lk_f (by assumption) ?_ (by omega) | refine lk_w ?_ (by omega))) (by exact rfl) ?_
  refine A_iconst (pc := 12) (v := (nI 0)) (by decide) hX dX11_blank_12 ?_
  refine A_putf (pc := 13) (fs' := [_, _]) hX pl_X11_61_2 dX11_blank_13 (by repeat (first | assumption | exact aSet_s | exact aNew_s | refine lk_n ?_ (by omega) | refine lk_f (by assumption) ?_ (by omega) | refine lk_w ?_ (by omega))) (by exact Nat.le_of_ble_eq_true rfl) (by exact rfl) rfl rfl ?_
  refine A_iload_n (pc := 16) rfl hX dX11_blank_16 ?_
  refine A_iret (pc := 17) hX hR dX11_blank_17 rfl rfl ?_
  have hfz := (Fr.rf (lo := b + 1) (hi := b + 2) (σ := σ)).set (a := b + 1) (e := aO 2 [.ref (b + 1 + 1), .int (nI 0)]) (by omega) (by omega)
  exact ⟨_, rfl, rfl, ⟨(by repeat (first | assumption | exact aSet_s | exact aNew_s | refine lk_n ?_ (by omega) | refine lk_f (by assumption) ?_ (by omega) | refine lk_w ?_ (by omega))), ⟨pf, aSet_s, (by repeat (first | assumption | exact aSet_s | exact aNew_s | refine lk_n ?_ (by omega) | refine lk_f (by assumption) ?_ (by omega) | refine lk_w ?_ (by omega))), by omega, fun j hj => absurd hj (by omega)⟩, htw.fr hfz (by omega) (by omega), hth.fr hfz (by omega), hkp.fr hfz (by omega), hy1.fr hfz (by omega), hy2.fr hfz (by omega), hsp.fr hfz (by omega), hro.fr hfz (by omega), htp⟩, (by repeat (first | exact Fr.rf | refine Fr.set ?_ (by omega) (by omega) | refine Fr.tr ?_ (Fr.wd (by assumption) (by omega) (by omega))))⟩
set_option maxRecDepth 100000 in
set_option maxHeartbeats 1000000 in
theorem ct_thing (l : Launch) (G : aG) {b tp sr len nb nt kn tw hn : Nat} {cd : Nat → Nat} {B : BorT} {dy kd : Int32} {V KV : ThT} {hI : Bool} {σ : aS} (hX0 : RX G b tp sr len cd nb B nt dy V hI kn kd KV tw hn σ) {s : Int32} : ACt l G yX11_thing cX11_thing 2 (some .int) 2 0 0 [.ref b, .int s] σ (iP (fun x σ' => x = (stThing nb nt V s).1 ∧ RX G b tp sr len cd nb B (stThing nb nt V s).2.1 dy (stThing nb nt V s).2.2 hI kn kd KV tw hn σ' ∧ Fr b (b + 40) σ σ')) := by
  obtain ⟨o0, hpg, htw, hth, hkp, hy1, hy2, hsp, hro, htp⟩ := id hX0
  obtain ⟨hwt, hnb, hok, bor, fa, fo, fn, e0, e1, e2, e3, e4, e5, e6⟩ := id htw
  obtain ⟨sd, fs, fh, fl, fr, ft, ⟨a0, a1, a2, a3, a4, a5⟩, hnt, hv⟩ := id hth
  refine ACt.intro (own := RX11) (nm := "thing") mk_X11_thing rfl rfl [some (.ref b), some (.int s)] rfl (Nat.le_of_ble_eq_true rfl) (fun X hX hR => ?_)
  refine A_iload_n (pc := 0) rfl hX dX11_thing_0 ?_
  refine A_S1d (pc := 1) hX mk_X11_isState ls_X11_129 dX11_thing_1 (ct_isState l G) rfl (Nat.le_of_ble_eq_true rfl) (Nat.le_of_ble_eq_true rfl) (Nat.le_of_ble_eq_true rfl) (Nat.le_of_ble_eq_true rfl) (Nat.le_of_ble_eq_true rfl) ?_
  refine A_if_ne (pc := 4) 10 hX dX11_thing_4 rfl (fun c4 => ?_) (fun c4 => ?_)
  · have hc : inN 512 s = true := bI_ne c4
    obtain ⟨c, hc1, rfl⟩ := inN_t (by decide) hc
    refine A_aload_n (pc := 10) rfl hX dX11_thing_10 ?_
    refine A_getf (pc := 11) hX fl_X11_19_11 dX11_thing_11 (by repeat (first | assumption | exact aSet_s | exact aNew_s | refine lk_n ?_ (by omega) | refine lk_f (by assumption) ?_ (by omega) | refine lk_w ?_ (by omega))) (by exact rfl) ?_
    refine A_getf (pc := 14) hX fl_X11_73_8 dX11_thing_14 (by repeat (first | assumption | exact aSet_s | exact aNew_s | refine lk_n ?_ (by omega) | refine lk_f (by assumption) ?_ (by omega) | refine lk_w ?_ (by omega))) (by exact rfl) ?_
    refine A_if_ne (pc := 17) 23 hX dX11_thing_17 rfl (fun c17 => ?_) (fun c17 => ?_)
    · have hz : ¬ nb = 0 := fun q => c17 (by rw [q]; rfl)
      refine A_aload_n (pc := 23) rfl hX dX11_thing_23 ?_
      refine A_getf (pc := 24) hX fl_X11_26_11 dX11_thing_24 (by repeat (first | assumption | exact aSet_s | exact aNew_s | refine lk_n ?_ (by omega) | refine lk_f (by assumption) ?_ (by omega) | refine lk_w ?_ (by omega))) (by exact rfl) ?_
      refine A_getf (pc := 27) hX fl_X11_133_7 dX11_thing_27 (by repeat (first | assumption | exact aSet_s | exact aNew_s | refine lk_n ?_ (by omega) | refine lk_f (by assumption) ?_ (by omega) | refine lk_w ?_ (by omega))) (by exact rfl) ?_
      refine A_iconst (pc := 30) (v := (nI 4)) (by decide) hX dX11_thing_30 ?_
      refine A_icmp_lt (pc := 31) 37 hX dX11_thing_31 rfl (fun c31 => ?_) (fun c31 => ?_)
      · have hl := (nI_ltI (by omega) (by decide)).mp c31
        refine A_aload_n (pc := 37) rfl hX dX11_thing_37 ?_
        refine A_getf (pc := 38) hX fl_X11_26_11 dX11_thing_38 (by repeat (first | assumption | exact aSet_s | exact aNew_s | refine lk_n ?_ (by omega) | refine lk_f (by assumption) ?_ (by omega) | refine lk_w ?_ (by omega))) (by exact rfl) ?_
        refine A_iload_n (pc := 41) rfl hX dX11_thing_41 ?_
        refine A_V1i (pc := 42) hX mk_X7_add lv_X11_134 dX11_thing_42 (by repeat (first | assumption | exact aSet_s | exact aNew_s | refine lk_n ?_ (by omega) | refine lk_f (by assumption) ?_ (by omega) | refine lk_w ?_ (by omega))) (ct_Th_add l G hth hc1 hl) rfl (Nat.le_of_ble_eq_true rfl) (Nat.le_of_ble_eq_true rfl) (Nat.le_of_ble_eq_true rfl) (Nat.le_of_ble_eq_true rfl) (Nat.le_of_ble_eq_true rfl) (fun x42 σ42 h42 => ?_)
        obtain ⟨rfl, h42, hf42⟩ := h42
        refine A_iret (pc := 45) hX hR dX11_thing_45 rfl rfl ?_
        rw [show stThing nb nt V (nI c) = _ from (by rw [stThing, if_pos hc, if_neg hz, if_pos hl, nI_clamp (by omega)])]
        exact ⟨_, rfl, rfl, ⟨lk_f hf42 o0 (by omega), hpg.fr hf42 (by omega), htw.fr hf42 (by omega) (by omega), h42, hkp.fr hf42 (by omega), hy1.fr hf42 (by omega), hy2.fr hf42 (by omega), hsp.fr hf42 (by omega), hro.fr hf42 (by omega), htp⟩, (by repeat (first | exact Fr.rf | refine Fr.set ?_ (by omega) (by omega) | refine Fr.tr ?_ (Fr.wd (by assumption) (by omega) (by omega))))⟩
      · refine A_bipush (pc := 34) (v := (-104)) (by decide) hX dX11_thing_34 ?_
        refine A_iret (pc := 36) hX hR dX11_thing_36 rfl rfl ?_
        rw [show stThing nb nt V (nI c) = _ from (by rw [stThing, if_pos hc, if_neg hz, if_neg (fun q => c31 (nI_lt q (by decide)))])]
        exact ⟨_, rfl, rfl, hX0, Fr.rf⟩
    · have hz := (nI_eq (b := 0) (by omega) (by decide)).mp c17
      refine A_bipush (pc := 20) (v := (-103)) (by decide) hX dX11_thing_20 ?_
      refine A_iret (pc := 22) hX hR dX11_thing_22 rfl rfl ?_
      rw [show stThing nb nt V (nI c) = _ from (by rw [stThing, if_pos hc, if_pos hz])]
      exact ⟨_, rfl, rfl, hX0, Fr.rf⟩
  · have hc : ¬ inN 512 s = true := bI_f c4
    refine A_bipush (pc := 7) (v := (-102)) (by decide) hX dX11_thing_7 ?_
    refine A_iret (pc := 9) hX hR dX11_thing_9 rfl rfl ?_
    rw [show stThing nb nt V s = _ from if_neg hc]
    exact ⟨_, rfl, rfl, hX0, Fr.rf⟩
set_option maxRecDepth 100000 in
set_option maxHeartbeats 1000000 in
theorem ct_lend (l : Launch) (G : aG) {b tp sr len nb nt kn tw hn : Nat} {cd : Nat → Nat} {B : BorT} {dy kd : Int32} {V KV : ThT} {hI : Bool} {σ : aS} (hX0 : RX G b tp sr len cd nb B nt dy V hI kn kd KV tw hn σ) {x y : Int32} : ACt l G yX11_lend cX11_lend 4 (some .int) 2 0 0 [.ref b, .int x, .int y] σ (iP (fun v σ' => v = (stLend nb B nt V x y).1 ∧ RX G b tp sr len cd nb B nt dy (stLend nb B nt V x y).2 hI kn kd KV tw hn σ' ∧ Fr b (b + 40) σ σ')) := by
  obtain ⟨o0, hpg, htw, hth, hkp, hy1, hy2, hsp, hro, htp⟩ := id hX0
  obtain ⟨hwt, hnb, hok, bor, fa, fo, fn, e0, e1, e2, e3, e4, e5, e6⟩ := id htw
  obtain ⟨sd, fs, fh, fl, fr, ft, ⟨a0, a1, a2, a3, a4, a5⟩, hnt, hv⟩ := id hth
  refine ACt.intro (own := RX11) (nm := "lend") mk_X11_lend rfl rfl [some (.ref b), some (.int x), some (.int y), none] rfl (Nat.le_of_ble_eq_true rfl) (fun X hX hR => ?_)
  refine A_aload_n (pc := 0) rfl hX dX11_lend_0 ?_
  refine A_getf (pc := 1) hX fl_X11_19_11 dX11_lend_1 (by repeat (first | assumption | exact aSet_s | exact aNew_s | refine lk_n ?_ (by omega) | refine lk_f (by assumption) ?_ (by omega) | refine lk_w ?_ (by omega))) (by exact rfl) ?_
  refine A_iload_n (pc := 4) rfl hX dX11_lend_4 ?_
  refine A_V1p (pc := 5) hX mk_X8_borrowerAt lv_X11_101 dX11_lend_5 (by repeat (first | assumption | exact aSet_s | exact aNew_s | refine lk_n ?_ (by omega) | refine lk_f (by assumption) ?_ (by omega) | refine lk_w ?_ (by omega))) (ct_borrowerAt l G htw) rfl (Nat.le_of_ble_eq_true rfl) (Nat.le_of_ble_eq_true rfl) (Nat.le_of_ble_eq_true rfl) (Nat.le_of_ble_eq_true rfl) (Nat.le_of_ble_eq_true rfl) (fun x5 σ5 h5 => ?_)
  obtain ⟨es, hq⟩ := h5
  have es := es.symm
  subst es
  rcases hq with ⟨rfl, z⟩ | ⟨b1, a, hb1, rfl, rfl, ha, hobj⟩
  · have hno : ¬ inN nb y = true := fun q => z (of_decide_eq_true q)
    refine A_astore_nN (pc := 8) (lv' := [_, _, _, _]) hX dX11_lend_8 (Nat.le_of_ble_eq_true rfl) rfl rfl ?_
    refine A_aload_n (pc := 9) rfl hX dX11_lend_9 ?_
    refine A_getf (pc := 10) hX fl_X11_26_11 dX11_lend_10 (by repeat (first | assumption | exact aSet_s | exact aNew_s | refine lk_n ?_ (by omega) | refine lk_f (by assumption) ?_ (by omega) | refine lk_w ?_ (by omega))) (by exact rfl) ?_
    refine A_iload_n (pc := 13) rfl hX dX11_lend_13 ?_
    refine A_V1d (pc := 14) hX mk_X7_has lv_X11_136 dX11_lend_14 (by repeat (first | assumption | exact aSet_s | exact aNew_s | refine lk_n ?_ (by omega) | refine lk_f (by assumption) ?_ (by omega) | refine lk_w ?_ (by omega))) (ct_has l G hth) rfl (Nat.le_of_ble_eq_true rfl) (Nat.le_of_ble_eq_true rfl) (Nat.le_of_ble_eq_true rfl) (Nat.le_of_ble_eq_true rfl) (Nat.le_of_ble_eq_true rfl) ?_
    refine A_if_eq (pc := 17) 24 hX dX11_lend_17 rfl (fun c17 => ?_) (fun c17 => ?_)
    · refine A_bipush (pc := 24) (v := (-101)) (by decide) hX dX11_lend_24 ?_
      refine A_iret (pc := 26) hX hR dX11_lend_26 rfl rfl ?_
      rw [show stLend nb B nt V x y = _ from if_neg (fun q => hno q.2)]
      exact ⟨_, rfl, rfl, hX0, Fr.rf⟩
    · refine A_aload_nN (pc := 20) rfl hX dX11_lend_20 ?_
      refine A_ifnonnullN (pc := 21) hX dX11_lend_21 ?_
      refine A_bipush (pc := 24) (v := (-101)) (by decide) hX dX11_lend_24 ?_
      refine A_iret (pc := 26) hX hR dX11_lend_26 rfl rfl ?_
      rw [show stLend nb B nt V x y = _ from if_neg (fun q => hno q.2)]
      exact ⟨_, rfl, rfl, hX0, Fr.rf⟩
  · have hin : inN nb (nI b1) = true := inN_nI (by omega) hb1
    have hobj : σ.2 a = some (oK (B b1).1 (B b1).2.1 (B b1).2.2.1 (B b1).2.2.2) := hobj
    have hk4 := (hok b1 hb1).1
    refine A_astore_n (pc := 8) (lv' := [_, _, _, _]) hX dX11_lend_8 (Nat.le_of_ble_eq_true rfl) rfl rfl ?_
    refine A_aload_n (pc := 9) rfl hX dX11_lend_9 ?_
    refine A_getf (pc := 10) hX fl_X11_26_11 dX11_lend_10 (by repeat (first | assumption | exact aSet_s | exact aNew_s | refine lk_n ?_ (by omega) | refine lk_f (by assumption) ?_ (by omega) | refine lk_w ?_ (by omega))) (by exact rfl) ?_
    refine A_iload_n (pc := 13) rfl hX dX11_lend_13 ?_
    refine A_V1d (pc := 14) hX mk_X7_has lv_X11_136 dX11_lend_14 (by repeat (first | assumption | exact aSet_s | exact aNew_s | refine lk_n ?_ (by omega) | refine lk_f (by assumption) ?_ (by omega) | refine lk_w ?_ (by omega))) (ct_has l G hth) rfl (Nat.le_of_ble_eq_true rfl) (Nat.le_of_ble_eq_true rfl) (Nat.le_of_ble_eq_true rfl) (Nat.le_of_ble_eq_true rfl) (Nat.le_of_ble_eq_true rfl) ?_
    refine A_if_eq (pc := 17) 24 hX dX11_lend_17 rfl (fun c17 => ?_) (fun c17 => ?_)
    · have hno := bI_f c17
      refine A_bipush (pc := 24) (v := (-101)) (by decide) hX dX11_lend_24 ?_
      refine A_iret (pc := 26) hX hR dX11_lend_26 rfl rfl ?_
      rw [show stLend nb B nt V x (nI b1) = _ from if_neg (fun q => hno q.1)]
      exact ⟨_, rfl, rfl, hX0, Fr.rf⟩
    · have hin2 := bI_ne c17
      obtain ⟨i, hi, rfl⟩ := inN_t (by omega) hin2
      refine A_aload_n (pc := 20) rfl hX dX11_lend_20 ?_
      refine A_ifnonnull (pc := 21) 27 hX dX11_lend_21 rfl ?_
      refine A_aload_n (pc := 27) rfl hX dX11_lend_27 ?_
      refine A_getf (pc := 28) hX fl_X11_26_11 dX11_lend_28 (by repeat (first | assumption | exact aSet_s | exact aNew_s | refine lk_n ?_ (by omega) | refine lk_f (by assumption) ?_ (by omega) | refine lk_w ?_ (by omega))) (by exact rfl) ?_
      refine A_iload_n (pc := 31) rfl hX dX11_lend_31 ?_
      refine A_V1d (pc := 32) hX mk_X7_isLent lv_X11_156 dX11_lend_32 (by repeat (first | assumption | exact aSet_s | exact aNew_s | refine lk_n ?_ (by omega) | refine lk_f (by assumption) ?_ (by omega) | refine lk_w ?_ (by omega))) (ct_isLent l G hth hi) rfl (Nat.le_of_ble_eq_true rfl) (Nat.le_of_ble_eq_true rfl) (Nat.le_of_ble_eq_true rfl) (Nat.le_of_ble_eq_true rfl) (Nat.le_of_ble_eq_true rfl) ?_
      refine A_if_ne (pc := 35) 50 hX dX11_lend_35 rfl (fun c35 => ?_) (fun c35 => ?_)
      · have hl := of_decide_eq_true (bI_ne c35)
        refine A_bipush (pc := 50) (v := (-103)) (by decide) hX dX11_lend_50 ?_
        refine A_iret (pc := 52) hX hR dX11_lend_52 rfl rfl ?_
        rw [show stLend nb B nt V (nI i) (nI b1) = _ from (by rw [stLend, if_pos ⟨hin2, hin⟩, nI_clamp (by omega), if_neg (fun q => hl q.1)])]
        exact ⟨_, rfl, rfl, hX0, Fr.rf⟩
      · have hl : (V i).2.1 = -1 := Decidable.byContradiction fun q => absurd (decide_eq_true q) (bI_f c35)
        refine A_aload_n (pc := 38) rfl hX dX11_lend_38 ?_
        refine A_getf (pc := 39) hX fl_X11_26_11 dX11_lend_39 (by repeat (first | assumption | exact aSet_s | exact aNew_s | refine lk_n ?_ (by omega) | refine lk_f (by assumption) ?_ (by omega) | refine lk_w ?_ (by omega))) (by exact rfl) ?_
        refine A_iload_n (pc := 42) rfl hX dX11_lend_42 ?_
        refine A_V1d (pc := 43) hX mk_X7_numberHeldBy lv_X11_119 dX11_lend_43 (by repeat (first | assumption | exact aSet_s | exact aNew_s | refine lk_n ?_ (by omega) | refine lk_f (by assumption) ?_ (by omega) | refine lk_w ?_ (by omega))) (ct_numberHeldBy l G hth) rfl (Nat.le_of_ble_eq_true rfl) (Nat.le_of_ble_eq_true rfl) (Nat.le_of_ble_eq_true rfl) (Nat.le_of_ble_eq_true rfl) (Nat.le_of_ble_eq_true rfl) ?_
        refine A_iconst (pc := 46) (v := (-1)) (by decide) hX dX11_lend_46 ?_
        refine A_icmp_eq (pc := 47) 53 hX dX11_lend_47 rfl (fun c47 => ?_) (fun c47 => ?_)
        · refine A_aload_n (pc := 53) rfl hX dX11_lend_53 ?_
          refine A_getf (pc := 54) hX fl_X11_26_11 dX11_lend_54 (by repeat (first | assumption | exact aSet_s | exact aNew_s | refine lk_n ?_ (by omega) | refine lk_f (by assumption) ?_ (by omega) | refine lk_w ?_ (by omega))) (by exact rfl) ?_
          refine A_iload_n (pc := 57) rfl hX dX11_lend_57 ?_
          refine A_iload_n (pc := 58) rfl hX dX11_lend_58 ?_
          refine A_aload_n (pc := 59) rfl hX dX11_lend_59 ?_
          refine A_getK (pc := 60) hX fl_X11_116_0 fl_X11_116_4 fl_X11_116_9 fl_X11_116_6 fl_X11_116_1 dX11_lend_60 hk4 hobj rfl ?_
          refine A_V3v (pc := 63) hX mk_X7_give lv_X11_159 dX11_lend_63 (by repeat (first | assumption | exact aSet_s | exact aNew_s | refine lk_n ?_ (by omega) | refine lk_f (by assumption) ?_ (by omega) | refine lk_w ?_ (by omega))) (ct_Th_give l G hth hi) rfl (Nat.le_of_ble_eq_true rfl) (Nat.le_of_ble_eq_true rfl) (Nat.le_of_ble_eq_true rfl) (Nat.le_of_ble_eq_true rfl) (Nat.le_of_ble_eq_true rfl) (fun σ63 h63 => ?_)
          obtain ⟨h63, hf63⟩ := h63
          have hobj63 := lk_f hf63 hobj (by omega)
          refine A_aload_n (pc := 66) rfl hX dX11_lend_66 ?_
          refine A_getK (pc := 67) hX fl_X11_116_0 fl_X11_116_4 fl_X11_116_9 fl_X11_116_6 fl_X11_116_1 dX11_lend_67 hk4 hobj63 rfl ?_
          refine A_iret (pc := 70) hX hR dX11_lend_70 rfl rfl ?_
          rw [show stLend nb B nt V (nI i) (nI b1) = _ from (by rw [stLend, if_pos ⟨hin2, hin⟩, nI_clamp (by omega), if_pos ⟨hl, c47⟩, nI_clamp (by omega)])]
          exact ⟨_, rfl, rfl, ⟨lk_f hf63 o0 (by omega), hpg.fr hf63 (by omega), htw.fr hf63 (by omega) (by omega), h63, hkp.fr hf63 (by omega), hy1.fr hf63 (by omega), hy2.fr hf63 (by omega), hsp.fr hf63 (by omega), hro.fr hf63 (by omega), htp⟩, (by repeat (first | exact Fr.rf | refine Fr.set ?_ (by omega) (by omega) | refine Fr.tr ?_ (Fr.wd (by assumption) (by omega) (by omega))))⟩
        · refine A_bipush (pc := 50) (v := (-103)) (by decide) hX dX11_lend_50 ?_
          refine A_iret (pc := 52) hX hR dX11_lend_52 rfl rfl ?_
          rw [show stLend nb B nt V (nI i) (nI b1) = _ from (by rw [stLend, if_pos ⟨hin2, hin⟩, nI_clamp (by omega), if_neg (fun q => c47 q.2)])]
          exact ⟨_, rfl, rfl, hX0, Fr.rf⟩
set_option maxRecDepth 100000 in
set_option maxHeartbeats 1000000 in
theorem ct_day (l : Launch) (G : aG) {b tp sr len nb nt kn tw hn : Nat} {cd : Nat → Nat} {B : BorT} {dy kd : Int32} {V KV : ThT} {hI : Bool} {σ : aS} (hX0 : RX G b tp sr len cd nb B nt dy V hI kn kd KV tw hn σ) (hV : okV nb nt V) : ACt l G yX11_day cX11_day 1 (some .int) 5 0 0 [.ref b] σ (iP (fun x σ' => x = (stDay nb B nt dy V).1 ∧ RX G b tp sr len cd nb B nt (stDay nb B nt dy V).2.1 (stDay nb B nt dy V).2.2 hI kn kd KV tw hn σ' ∧ Fr b (b + 40) σ σ')) := by
  obtain ⟨o0, hpg, htw, hth, hkp, hy1, hy2, hsp, hro, htp⟩ := id hX0
  obtain ⟨hwt, hnb, hok, bor, fa, fo, fn, e0, e1, e2, e3, e4, e5, e6⟩ := id htw
  obtain ⟨sd, fs, fh, fl, fr, ft, ⟨a0, a1, a2, a3, a4, a5⟩, hnt, hv⟩ := id hth
  refine ACt.intro (own := RX11) (nm := "day") mk_X11_day rfl rfl [some (.ref b)] rfl (Nat.le_of_ble_eq_true rfl) (fun X hX hR => ?_)
  refine A_aload_n (pc := 0) rfl hX dX11_day_0 ?_
  refine A_getf (pc := 1) hX fl_X11_19_11 dX11_day_1 (by repeat (first | assumption | exact aSet_s | exact aNew_s | refine lk_n ?_ (by omega) | refine lk_f (by assumption) ?_ (by omega) | refine lk_w ?_ (by omega))) (by exact rfl) ?_
  refine A_getf (pc := 4) hX fl_X11_73_8 dX11_day_4 (by repeat (first | assumption | exact aSet_s | exact aNew_s | refine lk_n ?_ (by omega) | refine lk_f (by assumption) ?_ (by omega) | refine lk_w ?_ (by omega))) (by exact rfl) ?_
  refine A_if_ne (pc := 7) 13 hX dX11_day_7 rfl (fun c7 => ?_) (fun c7 => ?_)
  · have hz : ¬ nb = 0 := fun q => c7 (by rw [q]; rfl)
    refine A_aload_n (pc := 13) rfl hX dX11_day_13 ?_
    refine A_getf (pc := 14) hX fl_X11_26_11 dX11_day_14 (by repeat (first | assumption | exact aSet_s | exact aNew_s | refine lk_n ?_ (by omega) | refine lk_f (by assumption) ?_ (by omega) | refine lk_w ?_ (by omega))) (by exact rfl) ?_
    refine A_aload_n (pc := 17) rfl hX dX11_day_17 ?_
    refine A_getf (pc := 18) hX fl_X11_19_11 dX11_day_18 (by repeat (first | assumption | exact aSet_s | exact aNew_s | refine lk_n ?_ (by omega) | refine lk_f (by assumption) ?_ (by omega) | refine lk_w ?_ (by omega))) (by exact rfl) ?_
    refine A_V1i (pc := 21) hX mk_X7_passDay lv_X11_163 dX11_day_21 (by repeat (first | assumption | exact aSet_s | exact aNew_s | refine lk_n ?_ (by omega) | refine lk_f (by assumption) ?_ (by omega) | refine lk_w ?_ (by omega))) (ct_passDay l G hth htw hV (by omega) (by omega)) rfl (Nat.le_of_ble_eq_true rfl) (Nat.le_of_ble_eq_true rfl) (Nat.le_of_ble_eq_true rfl) (Nat.le_of_ble_eq_true rfl) (Nat.le_of_ble_eq_true rfl) (fun x21 σ21 h21 => ?_)
    obtain ⟨rfl, h21, hf21⟩ := h21
    refine A_iret (pc := 24) hX hR dX11_day_24 rfl rfl ?_
    rw [show stDay nb B nt dy V = _ from if_neg hz]
    exact ⟨_, rfl, rfl, ⟨lk_f hf21 o0 (by omega), hpg.fr hf21 (by omega), htw.fr hf21 (by omega) (by omega), h21, hkp.fr hf21 (by omega), hy1.fr hf21 (by omega), hy2.fr hf21 (by omega), hsp.fr hf21 (by omega), hro.fr hf21 (by omega), htp⟩, (by repeat (first | exact Fr.rf | refine Fr.set ?_ (by omega) (by omega) | refine Fr.tr ?_ (Fr.wd (by assumption) (by omega) (by omega))))⟩
  · have hz := (nI_eq (b := 0) (by omega) (by decide)).mp c7
    refine A_bipush (pc := 10) (v := (-103)) (by decide) hX dX11_day_10 ?_
    refine A_iret (pc := 12) hX hR dX11_day_12 rfl rfl ?_
    rw [show stDay nb B nt dy V = _ from if_pos hz]
    exact ⟨_, rfl, rfl, hX0, Fr.rf⟩
set_option maxRecDepth 100000 in
set_option maxHeartbeats 1000000 in
theorem ct_image (l : Launch) (G : aG) {b tp sr len nb nt kn tw hn : Nat} {cd : Nat → Nat} {B : BorT} {dy kd : Int32} {V KV : ThT} {hI : Bool} {σ : aS} (hX0 : RX G b tp sr len cd nb B nt dy V hI kn kd KV tw hn σ) : ACt l G yX11_image cX11_image 1 (some .int) 2 0 0 [.ref b] σ (iP (fun x σ' => x = (stImage nb nt dy V hI kn kd KV).1 ∧ RX G b tp sr len cd nb B nt dy V (stImage nb nt dy V hI kn kd KV).2.1 (stImage nb nt dy V hI kn kd KV).2.2.1 (stImage nb nt dy V hI kn kd KV).2.2.2.1 (stImage nb nt dy V hI kn kd KV).2.2.2.2 tw hn σ' ∧ Fr b (b + 40) σ σ')) := by
  obtain ⟨o0, hpg, htw, hth, hkp, hy1, hy2, hsp, hro, htp⟩ := id hX0
  obtain ⟨hwt, hnb, hok, bor, fa, fo, fn, e0, e1, e2, e3, e4, e5, e6⟩ := id htw
  obtain ⟨sd, fs, fh, fl, fr, ft, ⟨a0, a1, a2, a3, a4, a5⟩, hnt, hv⟩ := id hth
  obtain ⟨ksd, kfs, kfh, kfl, kfr, kft, ⟨k0, k1, k2, k3, k4, k5⟩, hkn, hkv⟩ := id hkp
  refine ACt.intro (own := RX11) (nm := "image") mk_X11_image rfl rfl [some (.ref b)] rfl (Nat.le_of_ble_eq_true rfl) (fun X hX hR => ?_)
  refine A_aload_n (pc := 0) rfl hX dX11_image_0 ?_
  refine A_getf (pc := 1) hX fl_X11_19_11 dX11_image_1 (by repeat (first | assumption | exact aSet_s | exact aNew_s | refine lk_n ?_ (by omega) | refine lk_f (by assumption) ?_ (by omega) | refine lk_w ?_ (by omega))) (by exact rfl) ?_
  refine A_getf (pc := 4) hX fl_X11_73_8 dX11_image_4 (by repeat (first | assumption | exact aSet_s | exact aNew_s | refine lk_n ?_ (by omega) | refine lk_f (by assumption) ?_ (by omega) | refine lk_w ?_ (by omega))) (by exact rfl) ?_
  refine A_if_ne (pc := 7) 13 hX dX11_image_7 rfl (fun c7 => ?_) (fun c7 => ?_)
  · have hz : ¬ nb = 0 := fun q => c7 (by rw [q]; rfl)
    refine A_aload_n (pc := 13) rfl hX dX11_image_13 ?_
    refine A_getf (pc := 14) hX fl_X11_30_11 dX11_image_14 (by repeat (first | assumption | exact aSet_s | exact aNew_s | refine lk_n ?_ (by omega) | refine lk_f (by assumption) ?_ (by omega) | refine lk_w ?_ (by omega))) (by exact rfl) ?_
    refine A_aload_n (pc := 17) rfl hX dX11_image_17 ?_
    refine A_getf (pc := 18) hX fl_X11_26_11 dX11_image_18 (by repeat (first | assumption | exact aSet_s | exact aNew_s | refine lk_n ?_ (by omega) | refine lk_f (by assumption) ?_ (by omega) | refine lk_w ?_ (by omega))) (by exact rfl) ?_
    refine A_V1v (pc := 21) hX mk_X7_copyFrom lv_X11_223 dX11_image_21 (by repeat (first | assumption | exact aSet_s | exact aNew_s | refine lk_n ?_ (by omega) | refine lk_f (by assumption) ?_ (by omega) | refine lk_w ?_ (by omega))) (ct_copyFrom l G hkp hth (by omega)) rfl (Nat.le_of_ble_eq_true rfl) (Nat.le_of_ble_eq_true rfl) (Nat.le_of_ble_eq_true rfl) (Nat.le_of_ble_eq_true rfl) (Nat.le_of_ble_eq_true rfl) (fun σ21 h21 => ?_)
    obtain ⟨h21, hf21⟩ := h21
    refine A_aload_n (pc := 24) rfl hX dX11_image_24 ?_
    refine A_iconst (pc := 25) (v := (nI 1)) (by decide) hX dX11_image_25 ?_
    refine A_putf (pc := 26) (fs' := [_, _, _, _, _, _, _, _, _, _, _]) hX pl_X11_94_11 dX11_image_26 (by repeat (first | assumption | exact aSet_s | exact aNew_s | refine lk_n ?_ (by omega) | refine lk_f (by assumption) ?_ (by omega) | refine lk_w ?_ (by omega))) (by exact Nat.le_of_ble_eq_true rfl) (by exact rfl) (bI_z true) (bI_fit true) ?_
    refine A_aload_n (pc := 29) rfl hX dX11_image_29 ?_
    refine A_getf (pc := 30) hX fl_X11_26_11 dX11_image_30 (by repeat (first | assumption | exact aSet_s | exact aNew_s | refine lk_n ?_ (by omega) | refine lk_f (by assumption) ?_ (by omega) | refine lk_w ?_ (by omega))) (by exact rfl) ?_
    refine A_getf (pc := 33) hX fl_X11_227_7 dX11_image_33 (by repeat (first | assumption | exact aSet_s | exact aNew_s | refine lk_n ?_ (by omega) | refine lk_f (by assumption) ?_ (by omega) | refine lk_w ?_ (by omega))) (by exact rfl) ?_
    refine A_iret (pc := 36) hX hR dX11_image_36 rfl rfl ?_
    have hX1 : RX G b tp sr len cd nb B nt dy V hI nt dy V tw hn σ21 := ⟨lk_f hf21 o0 (by omega), hpg.fr hf21 (by omega), htw.fr hf21 (by omega) (by omega), hth.fr hf21 (by omega), h21, hy1.fr hf21 (by omega), hy2.fr hf21 (by omega), hsp.fr hf21 (by omega), hro.fr hf21 (by omega), htp⟩
    rw [show stImage nb nt dy V hI kn kd KV = _ from if_neg hz]
    exact ⟨_, rfl, rfl, hX1.setO true tw hn rfl, (by repeat (first | exact Fr.rf | refine Fr.set ?_ (by omega) (by omega) | refine Fr.tr ?_ (Fr.wd (by assumption) (by omega) (by omega))))⟩
  · have hz := (nI_eq (b := 0) (by omega) (by decide)).mp c7
    refine A_bipush (pc := 10) (v := (-103)) (by decide) hX dX11_image_10 ?_
    refine A_iret (pc := 12) hX hR dX11_image_12 rfl rfl ?_
    rw [show stImage nb nt dy V hI kn kd KV = _ from if_pos hz]
    exact ⟨_, rfl, rfl, hX0, Fr.rf⟩
set_option maxRecDepth 100000 in
set_option maxHeartbeats 1000000 in
theorem ct_restore (l : Launch) (G : aG) {b tp sr len nb nt kn tw hn : Nat} {cd : Nat → Nat} {B : BorT} {dy kd : Int32} {V KV : ThT} {hI : Bool} {σ : aS} (hX0 : RX G b tp sr len cd nb B nt dy V hI kn kd KV tw hn σ) : ACt l G yX11_restore cX11_restore 1 (some .int) 2 0 0 [.ref b] σ (iP (fun x σ' => x = (stRestore nt dy V hI kn kd KV).1 ∧ RX G b tp sr len cd nb B (stRestore nt dy V hI kn kd KV).2.1 (stRestore nt dy V hI kn kd KV).2.2.1 (stRestore nt dy V hI kn kd KV).2.2.2 hI kn kd KV tw hn σ' ∧ Fr b (b + 40) σ σ')) := by
  obtain ⟨o0, hpg, htw, hth, hkp, hy1, hy2, hsp, hro, htp⟩ := id hX0
  obtain ⟨sd, fs, fh, fl, fr, ft, ⟨a0, a1, a2, a3, a4, a5⟩, hnt, hv⟩ := id hth
  obtain ⟨ksd, kfs, kfh, kfl, kfr, kft, ⟨k0, k1, k2, k3, k4, k5⟩, hkn, hkv⟩ := id hkp
  refine ACt.intro (own := RX11) (nm := "restore") mk_X11_restore rfl rfl [some (.ref b)] rfl (Nat.le_of_ble_eq_true rfl) (fun X hX hR => ?_)
  refine A_aload_n (pc := 0) rfl hX dX11_restore_0 ?_
  refine A_getf (pc := 1) hX fl_X11_94_11 dX11_restore_1 (by repeat (first | assumption | exact aSet_s | exact aNew_s | refine lk_n ?_ (by omega) | refine lk_f (by assumption) ?_ (by omega) | refine lk_w ?_ (by omega))) (by exact rfl) ?_
  refine A_if_ne (pc := 4) 10 hX dX11_restore_4 rfl (fun c4 => ?_) (fun c4 => ?_)
  · refine A_aload_n (pc := 10) rfl hX dX11_restore_10 ?_
    refine A_getf (pc := 11) hX fl_X11_26_11 dX11_restore_11 (by repeat (first | assumption | exact aSet_s | exact aNew_s | refine lk_n ?_ (by omega) | refine lk_f (by assumption) ?_ (by omega) | refine lk_w ?_ (by omega))) (by exact rfl) ?_
    refine A_aload_n (pc := 14) rfl hX dX11_restore_14 ?_
    refine A_getf (pc := 15) hX fl_X11_30_11 dX11_restore_15 (by repeat (first | assumption | exact aSet_s | exact aNew_s | refine lk_n ?_ (by omega) | refine lk_f (by assumption) ?_ (by omega) | refine lk_w ?_ (by omega))) (by exact rfl) ?_
    refine A_V1v (pc := 18) hX mk_X7_copyFrom lv_X11_223 dX11_restore_18 (by repeat (first | assumption | exact aSet_s | exact aNew_s | refine lk_n ?_ (by omega) | refine lk_f (by assumption) ?_ (by omega) | refine lk_w ?_ (by omega))) (ct_copyFrom l G hth hkp (by omega)) rfl (Nat.le_of_ble_eq_true rfl) (Nat.le_of_ble_eq_true rfl) (Nat.le_of_ble_eq_true rfl) (Nat.le_of_ble_eq_true rfl) (Nat.le_of_ble_eq_true rfl) (fun σ18 h18 => ?_)
    obtain ⟨h18, hf18⟩ := h18
    obtain ⟨sd2, fs2, fh2, fl2, fr2, ft2, ⟨b0, b1, b2, b3, b4, b5⟩, hnt2, hv2⟩ := id h18
    refine A_aload_n (pc := 21) rfl hX dX11_restore_21 ?_
    refine A_getf (pc := 22) hX fl_X11_26_11 dX11_restore_22 (by repeat (first | assumption | exact aSet_s | exact aNew_s | refine lk_n ?_ (by omega) | refine lk_f (by assumption) ?_ (by omega) | refine lk_w ?_ (by omega))) (by exact rfl) ?_
    refine A_getf (pc := 25) hX fl_X11_227_7 dX11_restore_25 (by repeat (first | assumption | exact aSet_s | exact aNew_s | refine lk_n ?_ (by omega) | refine lk_f (by assumption) ?_ (by omega) | refine lk_w ?_ (by omega))) (by exact rfl) ?_
    refine A_iret (pc := 28) hX hR dX11_restore_28 rfl rfl ?_
    rw [show stRestore nt dy V hI kn kd KV = _ from if_pos (bI_ne c4)]
    exact ⟨_, rfl, rfl, ⟨lk_f hf18 o0 (by omega), hpg.fr hf18 (by omega), htw.fr hf18 (by omega) (by omega), h18, hkp.fr hf18 (by omega), hy1.fr hf18 (by omega), hy2.fr hf18 (by omega), hsp.fr hf18 (by omega), hro.fr hf18 (by omega), htp⟩, (by repeat (first | exact Fr.rf | refine Fr.set ?_ (by omega) (by omega) | refine Fr.tr ?_ (Fr.wd (by assumption) (by omega) (by omega))))⟩
  · refine A_bipush (pc := 7) (v := (-103)) (by decide) hX dX11_restore_7 ?_
    refine A_iret (pc := 9) hX hR dX11_restore_9 rfl rfl ?_
    rw [show stRestore nt dy V hI kn kd KV = _ from if_neg (bI_f c4)]
    exact ⟨_, rfl, rfl, hX0, Fr.rf⟩
def stHands (nb : Nat) (B : BorT) (hn : Nat) (x y k w : Int32) : Int32 × Nat := if inN 512 x = true ∧ inN 512 y = true ∧ inN 7 k = true ∧ inN 2 w = true then if nb = 0 ∨ 60 ≤ hn then (-103, hn) else (if w.toNatClampNeg = 0 then nI (rN nb (mkB B) x.toNatClampNeg 7 k.toNatClampNeg y.toNatClampNeg) else inV nb (mkB B) x.toNatClampNeg k.toNatClampNeg y.toNatClampNeg, hn + 1) else (-102, hn)
def yeN (nt : Nat) (Y : (Nat → Nat) × Nat) (c : Nat) : Int32 := match c with
  | 0 => nI (Y.1 0)
  | 1 => nI (sumN (fun i => trS (Y.1 i)) nt)
  | _ => nI Y.2
def anYears (nb : Nat) (B : BorT) (nt : Nat) (V : ThT) (k s w : Int32) : Int32 := if inR 1 90 k = true ∧ ¬ s < 0 ∧ inN 3 w = true then if nt = 0 then -103 else yeN nt (yrs B nt nb k.toNatClampNeg (fun i => homeV B (V i)) s.toNatClampNeg) w.toNatClampNeg else -102
def anRound (len : Nat) (cd : Nat → Nat) (nb : Nat) (B : BorT) (s w : Int32) : Int32 := if inN 512 s = true ∧ inN 2 w = true then if isRnB nb cd len = true then if w.toNatClampNeg = 0 then backOf (fun s => endF B cd len 0 s) else nI (endF B cd len 0 s.toNatClampNeg) else -103 else -102
noncomputable def wiN (nb : Nat) (B : BorT) (h s c : Nat) : Int32 := match c with
  | 0 => wC nb B false h s
  | 1 => wF nb B false h s
  | 2 => wC nb B true h s
  | _ => wF nb B true h s
noncomputable def anWished (nb : Nat) (B : BorT) (nt : Nat) (V : ThT) (x s w : Int32) : Int32 := if inN nt x = true then if inN 512 s = true ∧ inN 4 w = true then wiN nb B (homeV B (V x.toNatClampNeg)) s.toNatClampNeg w.toNatClampNeg else -102 else -101
noncomputable def anReach (nb : Nat) (B : BorT) (nt : Nat) (V : ThT) (x : Int32) : Int32 := if inN nt x = true then wR nb B (homeV B (V x.toNatClampNeg)) else -101
noncomputable def anSpoil (nb : Nat) (B : BorT) (nt : Nat) (V : ThT) (x t s : Int32) : Int32 := if inN nt x = true then if inN 3 t = true ∧ inR 1 7 s = true then spV nb B (homeV B (V x.toNatClampNeg)) t.toNatClampNeg s.toNatClampNeg else -102 else -101
def stTown (len : Nat) (cd : Nat → Nat) (nb : Nat) (B : BorT) (nt : Nat) (dy : Int32) (hI : Bool) (tw : Nat) : Int32 × Nat × Nat × BorT × Nat × Int32 × Bool × Nat := if isTwB cd len = true then (nI ((len + 1) / 5), 0, (len + 1) / 5, borC cd, 0, 0, false, tw + 1) else (-103, len, nb, B, nt, dy, hI, tw)
set_option maxRecDepth 100000 in
set_option maxHeartbeats 1000000 in
theorem ct_hands (l : Launch) (G : aG) {b tp sr len nb nt kn tw hn : Nat} {cd : Nat → Nat} {B : BorT} {dy kd : Int32} {V KV : ThT} {hI : Bool} {σ : aS} (hX0 : RX G b tp sr len cd nb B nt dy V hI kn kd KV tw hn σ) (hh : hn ≤ 60) {x y k w : Int32} : ACt l G yX11_hands cX11_hands 5 (some .int) 3 0 0 [.ref b, .int x, .int y, .int k, .int w] σ (iP (fun v σ' => v = (stHands nb B hn x y k w).1 ∧ RX G b tp sr len cd nb B nt dy V hI kn kd KV tw (stHands nb B hn x y k w).2 σ' ∧ Fr b (b + 40) σ σ')) := by
  obtain ⟨o0, hpg, htw, hth, hkp, hy1, hy2, hsp, hro, htp⟩ := id hX0
  obtain ⟨hwt, hnb, hok, bor, fa, fo, fn, e0, e1, e2, e3, e4, e5, e6⟩ := id htw
  refine ACt.intro (own := RX11) (nm := "hands") mk_X11_hands rfl rfl [some (.ref b), some (.int x), some (.int y), some (.int k), some (.int w)] rfl (Nat.le_of_ble_eq_true rfl) (fun X hX hR => ?_)
  refine A_iload_n (pc := 0) rfl hX dX11_hands_0 ?_
  refine A_S1d (pc := 1) hX mk_X11_isState ls_X11_129 dX11_hands_1 (ct_isState l G) rfl (Nat.le_of_ble_eq_true rfl) (Nat.le_of_ble_eq_true rfl) (Nat.le_of_ble_eq_true rfl) (Nat.le_of_ble_eq_true rfl) (Nat.le_of_ble_eq_true rfl) ?_
  refine A_if_eq (pc := 4) 35 hX dX11_hands_4 rfl (fun c4 => ?_) (fun c4 => ?_)
  · have hx : ¬ inN 512 x = true := bI_f c4
    refine A_bipush (pc := 35) (v := (-102)) (by decide) hX dX11_hands_35 ?_
    refine A_iret (pc := 37) hX hR dX11_hands_37 rfl rfl ?_
    rw [show stHands nb B hn x y k w = _ from if_neg (fun q => hx q.1)]
    exact ⟨_, rfl, rfl, hX0, Fr.rf⟩
  · have hx : inN 512 x = true := bI_ne c4
    refine A_iload_n (pc := 7) rfl hX dX11_hands_7 ?_
    refine A_S1d (pc := 8) hX mk_X11_isState ls_X11_129 dX11_hands_8 (ct_isState l G) rfl (Nat.le_of_ble_eq_true rfl) (Nat.le_of_ble_eq_true rfl) (Nat.le_of_ble_eq_true rfl) (Nat.le_of_ble_eq_true rfl) (Nat.le_of_ble_eq_true rfl) ?_
    refine A_if_eq (pc := 11) 35 hX dX11_hands_11 rfl (fun c11 => ?_) (fun c11 => ?_)
    · have hy : ¬ inN 512 y = true := bI_f c11
      refine A_bipush (pc := 35) (v := (-102)) (by decide) hX dX11_hands_35 ?_
      refine A_iret (pc := 37) hX hR dX11_hands_37 rfl rfl ?_
      rw [show stHands nb B hn x y k w = _ from if_neg (fun q => hy q.2.1)]
      exact ⟨_, rfl, rfl, hX0, Fr.rf⟩
    · have hy : inN 512 y = true := bI_ne c11
      refine A_iload_n (pc := 14) rfl hX dX11_hands_14 ?_
      refine A_if_lt (pc := 15) 35 hX dX11_hands_15 rfl (fun c15 => ?_) (fun c15 => ?_)
      · refine A_bipush (pc := 35) (v := (-102)) (by decide) hX dX11_hands_35 ?_
        refine A_iret (pc := 37) hX hR dX11_hands_37 rfl rfl ?_
        rw [show stHands nb B hn x y k w = _ from if_neg (fun q => inN_lt c15 q.2.2.1)]
        exact ⟨_, rfl, rfl, hX0, Fr.rf⟩
      · refine A_iload_n (pc := 18) rfl hX dX11_hands_18 ?_
        refine A_bipush (pc := 19) (v := (nI 6)) (by decide) hX dX11_hands_19 ?_
        refine A_icmp_gt (pc := 21) 35 hX dX11_hands_21 rfl (fun c21 => ?_) (fun c21 => ?_)
        · refine A_bipush (pc := 35) (v := (-102)) (by decide) hX dX11_hands_35 ?_
          refine A_iret (pc := 37) hX hR dX11_hands_37 rfl rfl ?_
          rw [show stHands nb B hn x y k w = _ from if_neg (fun q => inN_gt (by decide) (i_nle.mpr c21) q.2.2.1)]
          exact ⟨_, rfl, rfl, hX0, Fr.rf⟩
        · refine A_iload (pc := 24) rfl hX dX11_hands_24 ?_
          refine A_if_lt (pc := 26) 35 hX dX11_hands_26 rfl (fun c26 => ?_) (fun c26 => ?_)
          · refine A_bipush (pc := 35) (v := (-102)) (by decide) hX dX11_hands_35 ?_
            refine A_iret (pc := 37) hX hR dX11_hands_37 rfl rfl ?_
            rw [show stHands nb B hn x y k w = _ from if_neg (fun q => inN_lt c26 q.2.2.2)]
            exact ⟨_, rfl, rfl, hX0, Fr.rf⟩
          · refine A_iload (pc := 29) rfl hX dX11_hands_29 ?_
            refine A_iconst (pc := 31) (v := (nI 1)) (by decide) hX dX11_hands_31 ?_
            refine A_icmp_le (pc := 32) 38 hX dX11_hands_32 rfl (fun c32 => ?_) (fun c32 => ?_)
            · have hk := inN_c (m := 6) (by decide) c15 (i_nlt.mp c21)
              have hw := inN_c (m := 1) (by decide) c26 c32
              have hall := And.intro hx (And.intro hy (And.intro hk hw))
              obtain ⟨x, hx1, rfl⟩ := inN_t (by decide) hx
              obtain ⟨y, hyy, rfl⟩ := inN_t (by decide) hy
              obtain ⟨k, hk1, rfl⟩ := inN_t (by decide) hk
              obtain ⟨w, hw1, rfl⟩ := inN_t (by decide) hw
              refine A_aload_n (pc := 38) rfl hX dX11_hands_38 ?_
              refine A_getf (pc := 39) hX fl_X11_19_11 dX11_hands_39 (by repeat (first | assumption | exact aSet_s | exact aNew_s | refine lk_n ?_ (by omega) | refine lk_f (by assumption) ?_ (by omega) | refine lk_w ?_ (by omega))) (by exact rfl) ?_
              refine A_getf (pc := 42) hX fl_X11_73_8 dX11_hands_42 (by repeat (first | assumption | exact aSet_s | exact aNew_s | refine lk_n ?_ (by omega) | refine lk_f (by assumption) ?_ (by omega) | refine lk_w ?_ (by omega))) (by exact rfl) ?_
              refine A_if_eq (pc := 45) 57 hX dX11_hands_45 rfl (fun c45 => ?_) (fun c45 => ?_)
              · have hz := (nI_eq (b := 0) (by omega) (by decide)).mp c45
                refine A_bipush (pc := 57) (v := (-103)) (by decide) hX dX11_hands_57 ?_
                refine A_iret (pc := 59) hX hR dX11_hands_59 rfl rfl ?_
                rw [show stHands nb B hn (nI x) (nI y) (nI k) (nI w) = _ from (by rw [stHands, if_pos hall, if_pos (.inl hz)])]
                exact ⟨_, rfl, rfl, hX0, Fr.rf⟩
              · have hz : ¬ nb = 0 := fun q => c45 (by rw [q]; rfl)
                refine A_aload_n (pc := 48) rfl hX dX11_hands_48 ?_
                refine A_getf (pc := 49) hX fl_X11_197_11 dX11_hands_49 (by repeat (first | assumption | exact aSet_s | exact aNew_s | refine lk_n ?_ (by omega) | refine lk_f (by assumption) ?_ (by omega) | refine lk_w ?_ (by omega))) (by exact rfl) ?_
                refine A_bipush (pc := 52) (v := (nI 60)) (by decide) hX dX11_hands_52 ?_
                refine A_icmp_lt (pc := 54) 60 hX dX11_hands_54 rfl (fun c54 => ?_) (fun c54 => ?_)
                · have hl := (nI_ltI (by omega) (by decide)).mp c54
                  have hno : ¬ (nb = 0 ∨ 60 ≤ hn) := by omega
                  refine A_aload_n (pc := 60) rfl hX dX11_hands_60 ?_
                  refine A_dup (pc := 61) rfl hX dX11_hands_61 ?_
                  refine A_getf (pc := 62) hX fl_X11_197_11 dX11_hands_62 (by repeat (first | assumption | exact aSet_s | exact aNew_s | refine lk_n ?_ (by omega) | refine lk_f (by assumption) ?_ (by omega) | refine lk_w ?_ (by omega))) (by exact rfl) ?_
                  refine A_iconst (pc := 65) (v := (nI 1)) (by decide) hX dX11_hands_65 ?_
                  refine A_iadd (pc := 66) hX dX11_hands_66 ?_
                  refine A_top (y := nI (hn + 1)) (nI_add _ _) ?_
                  refine A_putf (pc := 67) (fs' := [_, _, _, _, _, _, _, _, _, _, _]) hX pl_X11_197_11 dX11_hands_67 (by repeat (first | assumption | exact aSet_s | exact aNew_s | refine lk_n ?_ (by omega) | refine lk_f (by assumption) ?_ (by omega) | refine lk_w ?_ (by omega))) (by exact Nat.le_of_ble_eq_true rfl) (by exact rfl) rfl rfl ?_
                  refine A_gen (fun z => RX G b tp sr len cd nb B nt dy V hI kn kd KV tw (hn + 1) z ∧ Fr b (b + 1) σ z) ⟨hX0.setO hI tw (hn + 1) rfl, Fr.rf.set (Nat.le_refl _) (Nat.lt_succ_self _)⟩ (fun σ7 hg => ?_)
                  obtain ⟨hX7, hf7⟩ := hg
                  obtain ⟨o0, hpg, htw, hth, hkp, hy1, hy2, hsp, hro, htp⟩ := id hX7
                  obtain ⟨rm, ri, rn, rj, rgm, rgi, rgn, rgj, rhd, r0, r1, r2, r3, r4⟩ := id hro
                  refine A_aload_n (pc := 70) rfl hX dX11_hands_70 ?_
                  refine A_getf (pc := 71) hX fl_X11_57_11 dX11_hands_71 (by repeat (first | assumption | exact aSet_s | exact aNew_s | refine lk_n ?_ (by omega) | refine lk_f (by assumption) ?_ (by omega) | refine lk_w ?_ (by omega))) (by exact rfl) ?_
                  refine A_iload_n (pc := 74) rfl hX dX11_hands_74 ?_
                  refine A_iload_n (pc := 75) rfl hX dX11_hands_75 ?_
                  refine A_V2v (pc := 76) hX mk_X3_follow lv_X11_200 dX11_hands_76 (by repeat (first | assumption | exact aSet_s | exact aNew_s | refine lk_n ?_ (by omega) | refine lk_f (by assumption) ?_ (by omega) | refine lk_w ?_ (by omega))) (ct_follow l G htw hro (by omega) (by omega) hx1 (by omega)) rfl (Nat.le_of_ble_eq_true rfl) (Nat.le_of_ble_eq_true rfl) (Nat.le_of_ble_eq_true rfl) (Nat.le_of_ble_eq_true rfl) (Nat.le_of_ble_eq_true rfl) (fun σ76 h76 => ?_)
                  obtain ⟨h76, hf76⟩ := h76
                  obtain ⟨m2, i2, n2, j2, _, _, _, _, _, q0, _⟩ := id h76
                  refine A_iload (pc := 79) rfl hX dX11_hands_79 ?_
                  refine A_if_ne (pc := 81) 95 hX dX11_hands_81 rfl (fun c81 => ?_) (fun c81 => ?_)
                  · refine A_aload_n (pc := 95) rfl hX dX11_hands_95 ?_
                    refine A_getf (pc := 96) hX fl_X11_57_11 dX11_hands_96 (by repeat (first | assumption | exact aSet_s | exact aNew_s | refine lk_n ?_ (by omega) | refine lk_f (by assumption) ?_ (by omega) | refine lk_w ?_ (by omega))) (by exact rfl) ?_
                    refine A_iload_n (pc := 99) rfl hX dX11_hands_99 ?_
                    refine A_V1d (pc := 100) hX mk_X3_inEachTo lv_X11_207 dX11_hands_100 (by repeat (first | assumption | exact aSet_s | exact aNew_s | refine lk_n ?_ (by omega) | refine lk_f (by assumption) ?_ (by omega) | refine lk_w ?_ (by omega))) (ct_inEachTo l G h76 hyy hnb (by omega)) rfl (Nat.le_of_ble_eq_true rfl) (Nat.le_of_ble_eq_true rfl) (Nat.le_of_ble_eq_true rfl) (Nat.le_of_ble_eq_true rfl) (Nat.le_of_ble_eq_true rfl) ?_
                    refine A_iret (pc := 103) hX hR dX11_hands_103 rfl rfl ?_
                    rw [show stHands nb B hn (nI x) (nI y) (nI k) (nI w) = _ from (by rw [stHands, if_pos hall, if_neg hno, nI_clamp (by omega), nI_clamp (by omega), nI_clamp (by omega), nI_clamp (by omega), if_neg (show ¬ w = 0 from fun q => c81 (by rw [q]; rfl))])]
                    exact ⟨_, rfl, rfl, ⟨lk_f hf76 o0 (by omega), hpg.fr hf76 (by omega), htw.fr hf76 (by omega) (by omega), hth.fr hf76 (by omega), hkp.fr hf76 (by omega), hy1.fr hf76 (by omega), hy2.fr hf76 (by omega), hsp.fr hf76 (by omega), h76.o, htp⟩, (by repeat (first | exact Fr.rf | refine Fr.set ?_ (by omega) (by omega) | refine Fr.tr ?_ (Fr.wd (by assumption) (by omega) (by omega))))⟩
                  · refine A_aload_n (pc := 84) rfl hX dX11_hands_84 ?_
                    refine A_getf (pc := 85) hX fl_X11_57_11 dX11_hands_85 (by repeat (first | assumption | exact aSet_s | exact aNew_s | refine lk_n ?_ (by omega) | refine lk_f (by assumption) ?_ (by omega) | refine lk_w ?_ (by omega))) (by exact rfl) ?_
                    refine A_iload_n (pc := 88) rfl hX dX11_hands_88 ?_
                    refine A_V1d (pc := 89) hX mk_X3_howManyTo lv_X11_204 dX11_hands_89 (by repeat (first | assumption | exact aSet_s | exact aNew_s | refine lk_n ?_ (by omega) | refine lk_f (by assumption) ?_ (by omega) | refine lk_w ?_ (by omega))) (ct_howManyTo l G h76 hyy) rfl (Nat.le_of_ble_eq_true rfl) (Nat.le_of_ble_eq_true rfl) (Nat.le_of_ble_eq_true rfl) (Nat.le_of_ble_eq_true rfl) (Nat.le_of_ble_eq_true rfl) ?_
                    refine A_goto (pc := 92) 103 hX dX11_hands_92 rfl ?_
                    refine A_iret (pc := 103) hX hR dX11_hands_103 rfl rfl ?_
                    rw [show stHands nb B hn (nI x) (nI y) (nI k) (nI w) = _ from (by rw [stHands, if_pos hall, if_neg hno, nI_clamp (by omega), nI_clamp (by omega), nI_clamp (by omega), nI_clamp (by omega), if_pos ((nI_eq (b := 0) (by omega) (by decide)).mp c81)])]
                    exact ⟨_, rfl, rfl, ⟨lk_f hf76 o0 (by omega), hpg.fr hf76 (by omega), htw.fr hf76 (by omega) (by omega), hth.fr hf76 (by omega), hkp.fr hf76 (by omega), hy1.fr hf76 (by omega), hy2.fr hf76 (by omega), hsp.fr hf76 (by omega), h76.o, htp⟩, (by repeat (first | exact Fr.rf | refine Fr.set ?_ (by omega) (by omega) | refine Fr.tr ?_ (Fr.wd (by assumption) (by omega) (by omega))))⟩
                · refine A_bipush (pc := 57) (v := (-103)) (by decide) hX dX11_hands_57 ?_
                  refine A_iret (pc := 59) hX hR dX11_hands_59 rfl rfl ?_
                  rw [show stHands nb B hn (nI x) (nI y) (nI k) (nI w) = _ from (by rw [stHands, if_pos hall, if_pos (.inr (Nat.le_of_not_lt (fun q => c54 (nI_lt q (by decide)))))])]
                  exact ⟨_, rfl, rfl, hX0, Fr.rf⟩
            · refine A_bipush (pc := 35) (v := (-102)) (by decide) hX dX11_hands_35 ?_
              refine A_iret (pc := 37) hX hR dX11_hands_37 rfl rfl ?_
              rw [show stHands nb B hn x y k w = _ from if_neg (fun q => inN_gt (by decide) c32 q.2.2.2)]
              exact ⟨_, rfl, rfl, hX0, Fr.rf⟩
set_option maxRecDepth 100000 in
set_option maxHeartbeats 1000000 in
theorem ct_years (l : Launch) (G : aG) {b tp sr len nb nt kn tw hn : Nat} {cd : Nat → Nat} {B : BorT} {dy kd : Int32} {V KV : ThT} {hI : Bool} {σ : aS} (hX0 : RX G b tp sr len cd nb B nt dy V hI kn kd KV tw hn σ) (hV : okV nb nt V) (hz0 : 0 < nt → 0 < nb) {k s w : Int32} : ACt l G yX11_years cX11_years 4 (some .int) 4 0 0 [.ref b, .int k, .int s, .int w] σ (iP (fun v σ' => v = anYears nb B nt V k s w ∧ RX G b tp sr len cd nb B nt dy V hI kn kd KV tw hn σ' ∧ Fr b (b + 40) σ σ')) := by
  obtain ⟨o0, hpg, htw, hth, hkp, hy1, hy2, hsp, hro, htp⟩ := id hX0
  obtain ⟨hwt, hnb, hok, bor, fa, fo, fn, e0, e1, e2, e3, e4, e5, e6⟩ := id htw
  obtain ⟨sd, fs, fh, fl, fr, ft, ⟨a0, a1, a2, a3, a4, a5⟩, hnt, hv⟩ := id hth
  refine ACt.intro (own := RX11) (nm := "years") mk_X11_years rfl rfl [some (.ref b), some (.int k), some (.int s), some (.int w)] rfl (Nat.le_of_ble_eq_true rfl) (fun X hX hR => ?_)
  refine A_iload_n (pc := 0) rfl hX dX11_years_0 ?_
  refine A_iconst (pc := 1) (v := (nI 1)) (by decide) hX dX11_years_1 ?_
  refine A_icmp_lt (pc := 2) 24 hX dX11_years_2 rfl (fun c2 => ?_) (fun c2 => ?_)
  · refine A_bipush (pc := 24) (v := (-102)) (by decide) hX dX11_years_24 ?_
    refine A_iret (pc := 26) hX hR dX11_years_26 rfl rfl ?_
    rw [show anYears nb B nt V k s w = _ from if_neg (fun q => inR_lt c2 q.1)]
    exact ⟨_, rfl, rfl, hX0, Fr.rf⟩
  · refine A_iload_n (pc := 5) rfl hX dX11_years_5 ?_
    refine A_bipush (pc := 6) (v := (nI 90)) (by decide) hX dX11_years_6 ?_
    refine A_icmp_gt (pc := 8) 24 hX dX11_years_8 rfl (fun c8 => ?_) (fun c8 => ?_)
    · refine A_bipush (pc := 24) (v := (-102)) (by decide) hX dX11_years_24 ?_
      refine A_iret (pc := 26) hX hR dX11_years_26 rfl rfl ?_
      rw [show anYears nb B nt V k s w = _ from if_neg (fun q => inR_gt (i_nle.mpr c8) q.1)]
      exact ⟨_, rfl, rfl, hX0, Fr.rf⟩
    · refine A_iload_n (pc := 11) rfl hX dX11_years_11 ?_
      refine A_if_lt (pc := 12) 24 hX dX11_years_12 rfl (fun c12 => ?_) (fun c12 => ?_)
      · refine A_bipush (pc := 24) (v := (-102)) (by decide) hX dX11_years_24 ?_
        refine A_iret (pc := 26) hX hR dX11_years_26 rfl rfl ?_
        rw [show anYears nb B nt V k s w = _ from if_neg (fun q => q.2.1 c12)]
        exact ⟨_, rfl, rfl, hX0, Fr.rf⟩
      · refine A_iload_n (pc := 15) rfl hX dX11_years_15 ?_
        refine A_if_lt (pc := 16) 24 hX dX11_years_16 rfl (fun c16 => ?_) (fun c16 => ?_)
        · refine A_bipush (pc := 24) (v := (-102)) (by decide) hX dX11_years_24 ?_
          refine A_iret (pc := 26) hX hR dX11_years_26 rfl rfl ?_
          rw [show anYears nb B nt V k s w = _ from if_neg (fun q => inN_lt c16 q.2.2)]
          exact ⟨_, rfl, rfl, hX0, Fr.rf⟩
        · refine A_iload_n (pc := 19) rfl hX dX11_years_19 ?_
          refine A_iconst (pc := 20) (v := (nI 2)) (by decide) hX dX11_years_20 ?_
          refine A_icmp_le (pc := 21) 27 hX dX11_years_21 rfl (fun c21 => ?_) (fun c21 => ?_)
          · have hw := inN_c (m := 2) (by decide) c16 c21
            have hk := inR_c (lo := 1) (hi := 90) c2 (i_nlt.mp c8)
            have hall := And.intro hk (And.intro c12 hw)
            obtain ⟨k, hk1, hk2, rfl⟩ := inR_t (by decide) (by decide) hk
            obtain ⟨s, hs1, rfl⟩ := nI_of c12
            obtain ⟨w, hw1, rfl⟩ := inN_t (by decide) hw
            refine A_aload_n (pc := 27) rfl hX dX11_years_27 ?_
            refine A_getf (pc := 28) hX fl_X11_26_11 dX11_years_28 (by repeat (first | assumption | exact aSet_s | exact aNew_s | refine lk_n ?_ (by omega) | refine lk_f (by assumption) ?_ (by omega) | refine lk_w ?_ (by omega))) (by exact rfl) ?_
            refine A_getf (pc := 31) hX fl_X11_133_7 dX11_years_31 (by repeat (first | assumption | exact aSet_s | exact aNew_s | refine lk_n ?_ (by omega) | refine lk_f (by assumption) ?_ (by omega) | refine lk_w ?_ (by omega))) (by exact rfl) ?_
            refine A_if_ne (pc := 34) 40 hX dX11_years_34 rfl (fun c34 => ?_) (fun c34 => ?_)
            · have hz : ¬ nt = 0 := fun q => c34 (by rw [q]; rfl)
              have hany : anYears nb B nt V (nI k) (nI s) (nI w) = yeN nt (yrs B nt nb k (fun i => homeV B (V i)) s) w := by rw [anYears, if_pos hall, if_neg hz, nI_clamp (by omega), nI_clamp (by omega), nI_clamp (by omega)]
              refine A_aload_n (pc := 40) rfl hX dX11_years_40 ?_
              refine A_getf (pc := 41) hX fl_X11_26_11 dX11_years_41 (by repeat (first | assumption | exact aSet_s | exact aNew_s | refine lk_n ?_ (by omega) | refine lk_f (by assumption) ?_ (by omega) | refine lk_w ?_ (by omega))) (by exact rfl) ?_
              refine A_aload_n (pc := 44) rfl hX dX11_years_44 ?_
              refine A_getf (pc := 45) hX fl_X11_19_11 dX11_years_45 (by repeat (first | assumption | exact aSet_s | exact aNew_s | refine lk_n ?_ (by omega) | refine lk_f (by assumption) ?_ (by omega) | refine lk_w ?_ (by omega))) (by exact rfl) ?_
              refine A_iload_n (pc := 48) rfl hX dX11_years_48 ?_
              refine A_iload_n (pc := 49) rfl hX dX11_years_49 ?_
              refine A_V3v (pc := 50) hX mk_X7_dreamYears lv_X11_210 dX11_years_50 (by repeat (first | assumption | exact aSet_s | exact aNew_s | refine lk_n ?_ (by omega) | refine lk_f (by assumption) ?_ (by omega) | refine lk_w ?_ (by omega))) (ct_dreamYears l G hth htw hV (by omega) (by omega) (by omega) (hz0 (by omega)) (by omega) (by omega)) rfl (Nat.le_of_ble_eq_true rfl) (Nat.le_of_ble_eq_true rfl) (Nat.le_of_ble_eq_true rfl) (Nat.le_of_ble_eq_true rfl) (Nat.le_of_ble_eq_true rfl) (fun σ50 h50 => ?_)
              obtain ⟨h50, hf50⟩ := h50
              obtain ⟨fs2, fh2, fl2, fr2, ft2, ⟨b0, b1, b2, b3, b4, b5⟩, hlk2, hY2⟩ := id h50
              refine A_iload_n (pc := 53) rfl hX dX11_years_53 ?_
              rcases (by omega : w = 0 ∨ w = 1 ∨ w = 2) with rfl | rfl | rfl
              · refine A_lookup (pc := 54) (off := 26) 80 hX dX11_years_54 (by decide) (by decide) rfl ?_
                refine A_aload_n (pc := 80) rfl hX dX11_years_80 ?_
                refine A_getf (pc := 81) hX fl_X11_26_11 dX11_years_81 (by repeat (first | assumption | exact aSet_s | exact aNew_s | refine lk_n ?_ (by omega) | refine lk_f (by assumption) ?_ (by omega) | refine lk_w ?_ (by omega))) (by exact rfl) ?_
                refine A_V0d (pc := 84) hX mk_X7_stateOfFirstThen lv_X11_214 dX11_years_84 (by repeat (first | assumption | exact aSet_s | exact aNew_s | refine lk_n ?_ (by omega) | refine lk_f (by assumption) ?_ (by omega) | refine lk_w ?_ (by omega))) (ct_stateOfFirstThen l G h50 (by omega)) rfl (Nat.le_of_ble_eq_true rfl) (Nat.le_of_ble_eq_true rfl) (Nat.le_of_ble_eq_true rfl) (Nat.le_of_ble_eq_true rfl) (Nat.le_of_ble_eq_true rfl) ?_
                refine A_iret (pc := 87) hX hR dX11_years_87 rfl rfl ?_
                rw [hany]
                exact ⟨_, rfl, rfl, ⟨lk_f hf50 o0 (by omega), hpg.fr hf50 (by omega), htw.fr hf50 (by omega) (by omega), h50.th, hkp.fr hf50 (by omega), hy1.fr hf50 (by omega), hy2.fr hf50 (by omega), hsp.fr hf50 (by omega), hro.fr hf50 (by omega), htp⟩, (by repeat (first | exact Fr.rf | refine Fr.set ?_ (by omega) (by omega) | refine Fr.tr ?_ (Fr.wd (by assumption) (by omega) (by omega))))⟩
              · refine A_lookup (pc := 54) (off := 34) 88 hX dX11_years_54 (by decide) (by decide) rfl ?_
                refine A_aload_n (pc := 88) rfl hX dX11_years_88 ?_
                refine A_getf (pc := 89) hX fl_X11_26_11 dX11_years_89 (by repeat (first | assumption | exact aSet_s | exact aNew_s | refine lk_n ?_ (by omega) | refine lk_f (by assumption) ?_ (by omega) | refine lk_w ?_ (by omega))) (by exact rfl) ?_
                refine A_V0d (pc := 92) hX mk_X7_traitsTogetherThen lv_X11_217 dX11_years_92 (by repeat (first | assumption | exact aSet_s | exact aNew_s | refine lk_n ?_ (by omega) | refine lk_f (by assumption) ?_ (by omega) | refine lk_w ?_ (by omega))) (ct_traitsTogetherThen l G h50) rfl (Nat.le_of_ble_eq_true rfl) (Nat.le_of_ble_eq_true rfl) (Nat.le_of_ble_eq_true rfl) (Nat.le_of_ble_eq_true rfl) (Nat.le_of_ble_eq_true rfl) ?_
                refine A_iret (pc := 95) hX hR dX11_years_95 rfl rfl ?_
                rw [hany]
                exact ⟨_, rfl, rfl, ⟨lk_f hf50 o0 (by omega), hpg.fr hf50 (by omega), htw.fr hf50 (by omega) (by omega), h50.th, hkp.fr hf50 (by omega), hy1.fr hf50 (by omega), hy2.fr hf50 (by omega), hsp.fr hf50 (by omega), hro.fr hf50 (by omega), htp⟩, (by repeat (first | exact Fr.rf | refine Fr.set ?_ (by omega) (by omega) | refine Fr.tr ?_ (Fr.wd (by assumption) (by omega) (by omega))))⟩
              · refine A_lookup (pc := 54) (off := 42) 96 hX dX11_years_54 (by decide) (by decide) rfl ?_
                refine A_aload_n (pc := 96) rfl hX dX11_years_96 ?_
                refine A_getf (pc := 97) hX fl_X11_26_11 dX11_years_97 (by repeat (first | assumption | exact aSet_s | exact aNew_s | refine lk_n ?_ (by omega) | refine lk_f (by assumption) ?_ (by omega) | refine lk_w ?_ (by omega))) (by exact rfl) ?_
                refine A_getf (pc := 100) hX fl_X11_220_7 dX11_years_100 (by repeat (first | assumption | exact aSet_s | exact aNew_s | refine lk_n ?_ (by omega) | refine lk_f (by assumption) ?_ (by omega) | refine lk_w ?_ (by omega))) (by exact rfl) ?_
                refine A_iret (pc := 103) hX hR dX11_years_103 rfl rfl ?_
                rw [hany]
                exact ⟨_, rfl, rfl, ⟨lk_f hf50 o0 (by omega), hpg.fr hf50 (by omega), htw.fr hf50 (by omega) (by omega), h50.th, hkp.fr hf50 (by omega), hy1.fr hf50 (by omega), hy2.fr hf50 (by omega), hsp.fr hf50 (by omega), hro.fr hf50 (by omega), htp⟩, (by repeat (first | exact Fr.rf | refine Fr.set ?_ (by omega) (by omega) | refine Fr.tr ?_ (Fr.wd (by assumption) (by omega) (by omega))))⟩
            · have hz := (nI_eq (b := 0) (by omega) (by decide)).mp c34
              refine A_bipush (pc := 37) (v := (-103)) (by decide) hX dX11_years_37 ?_
              refine A_iret (pc := 39) hX hR dX11_years_39 rfl rfl ?_
              rw [show anYears nb B nt V (nI k) (nI s) (nI w) = _ from (by rw [anYears, if_pos hall, if_pos hz])]
              exact ⟨_, rfl, rfl, hX0, Fr.rf⟩
          · refine A_bipush (pc := 24) (v := (-102)) (by decide) hX dX11_years_24 ?_
            refine A_iret (pc := 26) hX hR dX11_years_26 rfl rfl ?_
            rw [show anYears nb B nt V k s w = _ from if_neg (fun q => inN_gt (by decide) c21 q.2.2)]
            exact ⟨_, rfl, rfl, hX0, Fr.rf⟩
set_option maxRecDepth 100000 in
set_option maxHeartbeats 1000000 in
theorem ct_round (l : Launch) (G : aG) {b tp sr len nb nt kn tw hn : Nat} {cd : Nat → Nat} {B : BorT} {dy kd : Int32} {V KV : ThT} {hI : Bool} {σ : aS} (hX0 : RX G b tp sr len cd nb B nt dy V hI kn kd KV tw hn σ) {s w : Int32} : ACt l G yX11_round cX11_round 3 (some .int) 4 0 0 [.ref b, .int s, .int w] σ (iP (fun v σ' => v = anRound len cd nb B s w ∧ RX G b tp sr len cd nb B nt dy V hI kn kd KV tw hn σ' ∧ Fr b (b + 40) σ σ')) := by
  obtain ⟨o0, hpg, htw, hth, hkp, hy1, hy2, hsp, hro, htp⟩ := id hX0
  obtain ⟨pf, p0, p1, p2, p3⟩ := id hpg
  obtain ⟨hwt, hnb, hok, bor, fa, fo, fn, e0, e1, e2, e3, e4, e5, e6⟩ := id htw
  refine ACt.intro (own := RX11) (nm := "round") mk_X11_round rfl rfl [some (.ref b), some (.int s), some (.int w)] rfl (Nat.le_of_ble_eq_true rfl) (fun X hX hR => ?_)
  refine A_iload_n (pc := 0) rfl hX dX11_round_0 ?_
  refine A_S1d (pc := 1) hX mk_X11_isState ls_X11_129 dX11_round_1 (ct_isState l G) rfl (Nat.le_of_ble_eq_true rfl) (Nat.le_of_ble_eq_true rfl) (Nat.le_of_ble_eq_true rfl) (Nat.le_of_ble_eq_true rfl) (Nat.le_of_ble_eq_true rfl) ?_
  refine A_if_eq (pc := 4) 16 hX dX11_round_4 rfl (fun c4 => ?_) (fun c4 => ?_)
  · have hx : ¬ inN 512 s = true := bI_f c4
    refine A_bipush (pc := 16) (v := (-102)) (by decide) hX dX11_round_16 ?_
    refine A_iret (pc := 18) hX hR dX11_round_18 rfl rfl ?_
    rw [show anRound len cd nb B s w = _ from if_neg (fun q => hx q.1)]
    exact ⟨_, rfl, rfl, hX0, Fr.rf⟩
  · have hx : inN 512 s = true := bI_ne c4
    refine A_iload_n (pc := 7) rfl hX dX11_round_7 ?_
    refine A_if_lt (pc := 8) 16 hX dX11_round_8 rfl (fun c8 => ?_) (fun c8 => ?_)
    · refine A_bipush (pc := 16) (v := (-102)) (by decide) hX dX11_round_16 ?_
      refine A_iret (pc := 18) hX hR dX11_round_18 rfl rfl ?_
      rw [show anRound len cd nb B s w = _ from if_neg (fun q => inN_lt c8 q.2)]
      exact ⟨_, rfl, rfl, hX0, Fr.rf⟩
    · refine A_iload_n (pc := 11) rfl hX dX11_round_11 ?_
      refine A_iconst (pc := 12) (v := (nI 1)) (by decide) hX dX11_round_12 ?_
      refine A_icmp_le (pc := 13) 19 hX dX11_round_13 rfl (fun c13 => ?_) (fun c13 => ?_)
      · have hw := inN_c (m := 1) (by decide) c8 c13
        have hall := And.intro hx hw
        obtain ⟨s, hs1, rfl⟩ := inN_t (by decide) hx
        obtain ⟨w, hw1, rfl⟩ := inN_t (by decide) hw
        refine A_aload_n (pc := 19) rfl hX dX11_round_19 ?_
        refine A_getf (pc := 20) hX fl_X11_10_11 dX11_round_20 (by repeat (first | assumption | exact aSet_s | exact aNew_s | refine lk_n ?_ (by omega) | refine lk_f (by assumption) ?_ (by omega) | refine lk_w ?_ (by omega))) (by exact rfl) ?_
        refine A_aload_n (pc := 23) rfl hX dX11_round_23 ?_
        refine A_getf (pc := 24) hX fl_X11_19_11 dX11_round_24 (by repeat (first | assumption | exact aSet_s | exact aNew_s | refine lk_n ?_ (by omega) | refine lk_f (by assumption) ?_ (by omega) | refine lk_w ?_ (by omega))) (by exact rfl) ?_
        refine A_getf (pc := 27) hX fl_X11_73_8 dX11_round_27 (by repeat (first | assumption | exact aSet_s | exact aNew_s | refine lk_n ?_ (by omega) | refine lk_f (by assumption) ?_ (by omega) | refine lk_w ?_ (by omega))) (by exact rfl) ?_
        refine A_V1d (pc := 30) hX mk_X2_isRound lv_X11_186 dX11_round_30 (by repeat (first | assumption | exact aSet_s | exact aNew_s | refine lk_n ?_ (by omega) | refine lk_f (by assumption) ?_ (by omega) | refine lk_w ?_ (by omega))) (ct_isRound l G hpg hnb) rfl (Nat.le_of_ble_eq_true rfl) (Nat.le_of_ble_eq_true rfl) (Nat.le_of_ble_eq_true rfl) (Nat.le_of_ble_eq_true rfl) (Nat.le_of_ble_eq_true rfl) ?_
        refine A_if_ne (pc := 33) 39 hX dX11_round_33 rfl (fun c33 => ?_) (fun c33 => ?_)
        · have hr := bI_ne c33
          have hrok := isRnB_ok hr
          refine A_iload_n (pc := 39) rfl hX dX11_round_39 ?_
          refine A_if_ne (pc := 40) 57 hX dX11_round_40 rfl (fun c40 => ?_) (fun c40 => ?_)
          · have hw0 : ¬ w = 0 := fun q => c40 (by rw [q]; rfl)
            refine A_aload_n (pc := 57) rfl hX dX11_round_57 ?_
            refine A_getf (pc := 58) hX fl_X11_19_11 dX11_round_58 (by repeat (first | assumption | exact aSet_s | exact aNew_s | refine lk_n ?_ (by omega) | refine lk_f (by assumption) ?_ (by omega) | refine lk_w ?_ (by omega))) (by exact rfl) ?_
            refine A_aload_n (pc := 61) rfl hX dX11_round_61 ?_
            refine A_getf (pc := 62) hX fl_X11_10_11 dX11_round_62 (by repeat (first | assumption | exact aSet_s | exact aNew_s | refine lk_n ?_ (by omega) | refine lk_f (by assumption) ?_ (by omega) | refine lk_w ?_ (by omega))) (by exact rfl) ?_
            refine A_iload_n (pc := 65) rfl hX dX11_round_65 ?_
            refine A_V2d (pc := 66) hX mk_X8_endOf lv_X11_193 dX11_round_66 (by repeat (first | assumption | exact aSet_s | exact aNew_s | refine lk_n ?_ (by omega) | refine lk_f (by assumption) ?_ (by omega) | refine lk_w ?_ (by omega))) (ct_endOf l G htw hpg hrok hs1) rfl (Nat.le_of_ble_eq_true rfl) (Nat.le_of_ble_eq_true rfl) (Nat.le_of_ble_eq_true rfl) (Nat.le_of_ble_eq_true rfl) (Nat.le_of_ble_eq_true rfl) ?_
            refine A_iret (pc := 69) hX hR dX11_round_69 rfl rfl ?_
            rw [show anRound len cd nb B (nI s) (nI w) = _ from (by rw [anRound, if_pos hall, if_pos hr, nI_clamp (by omega), if_neg hw0, nI_clamp (by omega)])]
            exact ⟨_, rfl, rfl, hX0, Fr.rf⟩
          · have hw0 := (nI_eq (b := 0) (by omega) (by decide)).mp c40
            refine A_aload_n (pc := 43) rfl hX dX11_round_43 ?_
            refine A_getf (pc := 44) hX fl_X11_19_11 dX11_round_44 (by repeat (first | assumption | exact aSet_s | exact aNew_s | refine lk_n ?_ (by omega) | refine lk_f (by assumption) ?_ (by omega) | refine lk_w ?_ (by omega))) (by exact rfl) ?_
            refine A_aload_n (pc := 47) rfl hX dX11_round_47 ?_
            refine A_getf (pc := 48) hX fl_X11_10_11 dX11_round_48 (by repeat (first | assumption | exact aSet_s | exact aNew_s | refine lk_n ?_ (by omega) | refine lk_f (by assumption) ?_ (by omega) | refine lk_w ?_ (by omega))) (by exact rfl) ?_
            refine A_V1i (pc := 51) hX mk_X8_timesUntilBack lv_X11_189 dX11_round_51 (by repeat (first | assumption | exact aSet_s | exact aNew_s | refine lk_n ?_ (by omega) | refine lk_f (by assumption) ?_ (by omega) | refine lk_w ?_ (by omega))) (ct_timesUntilBack l G htw hpg hrok (by omega)) rfl (Nat.le_of_ble_eq_true rfl) (Nat.le_of_ble_eq_true rfl) (Nat.le_of_ble_eq_true rfl) (Nat.le_of_ble_eq_true rfl) (Nat.le_of_ble_eq_true rfl) (fun x51 σ51 h51 => ?_)
            obtain ⟨rfl, hf51, h51⟩ := h51
            refine A_goto (pc := 54) 69 hX dX11_round_54 rfl ?_
            refine A_iret (pc := 69) hX hR dX11_round_69 rfl rfl ?_
            rw [show anRound len cd nb B (nI s) (nI w) = _ from (by rw [anRound, if_pos hall, if_pos hr, nI_clamp (by omega), if_pos hw0])]
            exact ⟨_, rfl, rfl, ⟨lk_f hf51 o0 (by omega), hpg.fr hf51 (by omega), h51, hth.fr hf51 (by omega), hkp.fr hf51 (by omega), hy1.fr hf51 (by omega), hy2.fr hf51 (by omega), hsp.fr hf51 (by omega), hro.fr hf51 (by omega), htp⟩, (by repeat (first | exact Fr.rf | refine Fr.set ?_ (by omega) (by omega) | refine Fr.tr ?_ (Fr.wd (by assumption) (by omega) (by omega))))⟩
        · have hr := bI_f c33
          refine A_bipush (pc := 36) (v := (-103)) (by decide) hX dX11_round_36 ?_
          refine A_iret (pc := 38) hX hR dX11_round_38 rfl rfl ?_
          rw [show anRound len cd nb B (nI s) (nI w) = _ from (by rw [anRound, if_pos hall, if_neg hr])]
          exact ⟨_, rfl, rfl, hX0, Fr.rf⟩
      · refine A_bipush (pc := 16) (v := (-102)) (by decide) hX dX11_round_16 ?_
        refine A_iret (pc := 18) hX hR dX11_round_18 rfl rfl ?_
        rw [show anRound len cd nb B s w = _ from if_neg (fun q => inN_gt (by decide) c13 q.2)]
        exact ⟨_, rfl, rfl, hX0, Fr.rf⟩
set_option maxRecDepth 100000 in
set_option maxHeartbeats 1000000 in
theorem ct_wished (l : Launch) (G : aG) {b tp sr len nb nt kn tw hn : Nat} {cd : Nat → Nat} {B : BorT} {dy kd : Int32} {V KV : ThT} {hI : Bool} {σ : aS} (hX0 : RX G b tp sr len cd nb B nt dy V hI kn kd KV tw hn σ) (hV : okV nb nt V) {x s w : Int32} : ACt l G yX11_wished cX11_wished 5 (some .int) 4 0 0 [.ref b, .int x, .int s, .int w] σ (iP (fun v σ' => v = anWished nb B nt V x s w ∧ RX G b tp sr len cd nb B nt dy V hI kn kd KV tw hn σ' ∧ Fr b (b + 40) σ σ')) := by
  obtain ⟨o0, hpg, htw, hth, hkp, hy1, hy2, hsp, hro, htp⟩ := id hX0
  obtain ⟨hwt, hnb, hok, bor, fa, fo, fn, e0, e1, e2, e3, e4, e5, e6⟩ := id htw
  obtain ⟨sd, fs, fh, fl, fr, ft, ⟨a0, a1, a2, a3, a4, a5⟩, hnt, hv⟩ := id hth
  obtain ⟨yf1, y10⟩ := hy1.cell
  obtain ⟨yf2, y20⟩ := hy2.cell
  refine ACt.intro (own := RX11) (nm := "wished") mk_X11_wished rfl rfl [some (.ref b), some (.int x), some (.int s), some (.int w), none] rfl (Nat.le_of_ble_eq_true rfl) (fun X hX hR => ?_)
  refine A_aload_n (pc := 0) rfl hX dX11_wished_0 ?_
  refine A_getf (pc := 1) hX fl_X11_26_11 dX11_wished_1 (by repeat (first | assumption | exact aSet_s | exact aNew_s | refine lk_n ?_ (by omega) | refine lk_f (by assumption) ?_ (by omega) | refine lk_w ?_ (by omega))) (by exact rfl) ?_
  refine A_iload_n (pc := 4) rfl hX dX11_wished_4 ?_
  refine A_V1d (pc := 5) hX mk_X7_has lv_X11_136 dX11_wished_5 (by repeat (first | assumption | exact aSet_s | exact aNew_s | refine lk_n ?_ (by omega) | refine lk_f (by assumption) ?_ (by omega) | refine lk_w ?_ (by omega))) (ct_has l G hth) rfl (Nat.le_of_ble_eq_true rfl) (Nat.le_of_ble_eq_true rfl) (Nat.le_of_ble_eq_true rfl) (Nat.le_of_ble_eq_true rfl) (Nat.le_of_ble_eq_true rfl) ?_
  refine A_if_ne (pc := 8) 14 hX dX11_wished_8 rfl (fun c8 => ?_) (fun c8 => ?_)
  · have hin := bI_ne c8
    obtain ⟨i, hi, rfl⟩ := inN_t (by omega) hin
    have hho := homeV_lt hok hnb hV hi
    have hic := nI_clamp (n := i) (by omega)
    refine A_iload_n (pc := 14) rfl hX dX11_wished_14 ?_
    refine A_S1d (pc := 15) hX mk_X11_isState ls_X11_129 dX11_wished_15 (ct_isState l G) rfl (Nat.le_of_ble_eq_true rfl) (Nat.le_of_ble_eq_true rfl) (Nat.le_of_ble_eq_true rfl) (Nat.le_of_ble_eq_true rfl) (Nat.le_of_ble_eq_true rfl) ?_
    refine A_if_eq (pc := 18) 30 hX dX11_wished_18 rfl (fun c18 => ?_) (fun c18 => ?_)
    · have hs : ¬ inN 512 s = true := bI_f c18
      refine A_bipush (pc := 30) (v := (-102)) (by decide) hX dX11_wished_30 ?_
      refine A_iret (pc := 32) hX hR dX11_wished_32 rfl rfl ?_
      rw [show anWished nb B nt V (nI i) s w = _ from (by rw [anWished, if_pos hin, if_neg (fun q => hs q.1)])]
      exact ⟨_, rfl, rfl, hX0, Fr.rf⟩
    · have hs : inN 512 s = true := bI_ne c18
      refine A_iload_n (pc := 21) rfl hX dX11_wished_21 ?_
      refine A_if_lt (pc := 22) 30 hX dX11_wished_22 rfl (fun c22 => ?_) (fun c22 => ?_)
      · refine A_bipush (pc := 30) (v := (-102)) (by decide) hX dX11_wished_30 ?_
        refine A_iret (pc := 32) hX hR dX11_wished_32 rfl rfl ?_
        rw [show anWished nb B nt V (nI i) s w = _ from (by rw [anWished, if_pos hin, if_neg (fun q => inN_lt c22 q.2)])]
        exact ⟨_, rfl, rfl, hX0, Fr.rf⟩
      · refine A_iload_n (pc := 25) rfl hX dX11_wished_25 ?_
        refine A_iconst (pc := 26) (v := (nI 3)) (by decide) hX dX11_wished_26 ?_
        refine A_icmp_le (pc := 27) 33 hX dX11_wished_27 rfl (fun c27 => ?_) (fun c27 => ?_)
        · have hw := inN_c (m := 3) (by decide) c22 c27
          have hall := And.intro hs hw
          obtain ⟨s, hs1, rfl⟩ := inN_t (by decide) hs
          obtain ⟨c, hc1, rfl⟩ := inN_t (by decide) hw
          have hwi : anWished nb B nt V (nI i) (nI s) (nI c) = wiN nb B (homeV B (V i)) s c := by rw [anWished, if_pos hin, if_pos hall, nI_clamp (by omega), nI_clamp (by omega), nI_clamp (by omega)]
          rcases (by omega : c = 0 ∨ c = 1 ∨ c = 2 ∨ c = 3) with rfl | rfl | rfl | rfl
          · skip
            refine A_iload_n (pc := 33) rfl hX dX11_wished_33 ?_
            refine A_iconst (pc := 34) (v := (nI 2)) (by decide) hX dX11_wished_34 ?_
            refine A_icmp_ge (pc := 35) 45 hX dX11_wished_35 rfl (fun c35 => ?_) (fun c35 => ?_)
            · exact absurd c35 (by decide)
            · refine A_aload_n (pc := 38) rfl hX dX11_wished_38 ?_
              refine A_getf (pc := 39) hX fl_X11_38_11 dX11_wished_39 (by repeat (first | assumption | exact aSet_s | exact aNew_s | refine lk_n ?_ (by omega) | refine lk_f (by assumption) ?_ (by omega) | refine lk_w ?_ (by omega))) (by exact rfl) ?_
              refine A_goto (pc := 42) 49 hX dX11_wished_42 rfl ?_
              refine A_astore (pc := 49) (lv' := [_, _, _, _, _]) hX dX11_wished_49 (Nat.le_of_ble_eq_true rfl) rfl rfl ?_
              refine A_aload (pc := 51) rfl hX dX11_wished_51 ?_
              refine A_aload_n (pc := 53) rfl hX dX11_wished_53 ?_
              refine A_getf (pc := 54) hX fl_X11_26_11 dX11_wished_54 (by repeat (first | assumption | exact aSet_s | exact aNew_s | refine lk_n ?_ (by omega) | refine lk_f (by assumption) ?_ (by omega) | refine lk_w ?_ (by omega))) (by exact rfl) ?_
              refine A_iload_n (pc := 57) rfl hX dX11_wished_57 ?_
              refine A_aload_n (pc := 58) rfl hX dX11_wished_58 ?_
              refine A_getf (pc := 59) hX fl_X11_19_11 dX11_wished_59 (by repeat (first | assumption | exact aSet_s | exact aNew_s | refine lk_n ?_ (by omega) | refine lk_f (by assumption) ?_ (by omega) | refine lk_w ?_ (by omega))) (by exact rfl) ?_
              refine A_V2d (pc := 62) hX mk_X7_stateAtHome lv_X11_152 dX11_wished_62 (by repeat (first | assumption | exact aSet_s | exact aNew_s | refine lk_n ?_ (by omega) | refine lk_f (by assumption) ?_ (by omega) | refine lk_w ?_ (by omega))) (ct_stateAtHome l G hth htw hV hi) rfl (Nat.le_of_ble_eq_true rfl) (Nat.le_of_ble_eq_true rfl) (Nat.le_of_ble_eq_true rfl) (Nat.le_of_ble_eq_true rfl) (Nat.le_of_ble_eq_true rfl) ?_
              refine A_V1v (pc := 65) hX mk_X10_searchFrom lv_X11_170 dX11_wished_65 (by repeat (first | assumption | exact aSet_s | exact aNew_s | refine lk_n ?_ (by omega) | refine lk_f (by assumption) ?_ (by omega) | refine lk_w ?_ (by omega))) (ct_searchFrom l G htw hy1 (by omega) (by omega) hho) rfl (Nat.le_of_ble_eq_true rfl) (Nat.le_of_ble_eq_true rfl) (Nat.le_of_ble_eq_true rfl) (Nat.le_of_ble_eq_true rfl) (Nat.le_of_ble_eq_true rfl) (fun σ65 h65 => ?_)
              obtain ⟨h65, hf65⟩ := h65
              have hy65 := RWs.cell (.inr ⟨_, h65⟩)
              obtain ⟨yf3, y30⟩ := hy65
              refine A_iload_n (pc := 68) rfl hX dX11_wished_68 ?_
              refine A_iconst (pc := 69) (v := (nI 2)) (by decide) hX dX11_wished_69 ?_
              refine A_irem (pc := 70) (by decide) hX dX11_wished_70 ?_
              refine A_top (y := nI 0) (by decide) ?_
              refine A_if_ne (pc := 71) 83 hX dX11_wished_71 rfl (fun c71 => ?_) (fun c71 => ?_)
              · exact absurd rfl c71
              · refine A_aload (pc := 74) rfl hX dX11_wished_74 ?_
                refine A_iload_n (pc := 76) rfl hX dX11_wished_76 ?_
                refine A_V1d (pc := 77) hX mk_X10_costOf lv_X11_173 dX11_wished_77 (by repeat (first | assumption | exact aSet_s | exact aNew_s | refine lk_n ?_ (by omega) | refine lk_f (by assumption) ?_ (by omega) | refine lk_w ?_ (by omega))) (ct_costOf l G h65 hok hs1) rfl (Nat.le_of_ble_eq_true rfl) (Nat.le_of_ble_eq_true rfl) (Nat.le_of_ble_eq_true rfl) (Nat.le_of_ble_eq_true rfl) (Nat.le_of_ble_eq_true rfl) ?_
                refine A_goto (pc := 80) 89 hX dX11_wished_80 rfl ?_
                refine A_iret (pc := 89) hX hR dX11_wished_89 rfl rfl ?_
                rw [hwi]
                exact ⟨_, rfl, rfl, ⟨lk_f hf65 o0 (by omega), hpg.fr hf65 (by omega), htw.fr hf65 (by omega) (by omega), hth.fr hf65 (by omega), hkp.fr hf65 (by omega), .inr ⟨_, h65⟩, hy2.fr hf65 (by omega), hsp.fr hf65 (by omega), hro.fr hf65 (by omega), htp⟩, (by repeat (first | exact Fr.rf | refine Fr.set ?_ (by omega) (by omega) | refine Fr.tr ?_ (Fr.wd (by assumption) (by omega) (by omega))))⟩
          · skip
            refine A_iload_n (pc := 33) rfl hX dX11_wished_33 ?_
            refine A_iconst (pc := 34) (v := (nI 2)) (by decide) hX dX11_wished_34 ?_
            refine A_icmp_ge (pc := 35) 45 hX dX11_wished_35 rfl (fun c35 => ?_) (fun c35 => ?_)
            · exact absurd c35 (by decide)
            · refine A_aload_n (pc := 38) rfl hX dX11_wished_38 ?_
              refine A_getf (pc := 39) hX fl_X11_38_11 dX11_wished_39 (by repeat (first | assumption | exact aSet_s | exact aNew_s | refine lk_n ?_ (by omega) | refine lk_f (by assumption) ?_ (by omega) | refine lk_w ?_ (by omega))) (by exact rfl) ?_
              refine A_goto (pc := 42) 49 hX dX11_wished_42 rfl ?_
              refine A_astore (pc := 49) (lv' := [_, _, _, _, _]) hX dX11_wished_49 (Nat.le_of_ble_eq_true rfl) rfl rfl ?_
              refine A_aload (pc := 51) rfl hX dX11_wished_51 ?_
              refine A_aload_n (pc := 53) rfl hX dX11_wished_53 ?_
              refine A_getf (pc := 54) hX fl_X11_26_11 dX11_wished_54 (by repeat (first | assumption | exact aSet_s | exact aNew_s | refine lk_n ?_ (by omega) | refine lk_f (by assumption) ?_ (by omega) | refine lk_w ?_ (by omega))) (by exact rfl) ?_
              refine A_iload_n (pc := 57) rfl hX dX11_wished_57 ?_
              refine A_aload_n (pc := 58) rfl hX dX11_wished_58 ?_
              refine A_getf (pc := 59) hX fl_X11_19_11 dX11_wished_59 (by repeat (first | assumption | exact aSet_s | exact aNew_s | refine lk_n ?_ (by omega) | refine lk_f (by assumption) ?_ (by omega) | refine lk_w ?_ (by omega))) (by exact rfl) ?_
              refine A_V2d (pc := 62) hX mk_X7_stateAtHome lv_X11_152 dX11_wished_62 (by repeat (first | assumption | exact aSet_s | exact aNew_s | refine lk_n ?_ (by omega) | refine lk_f (by assumption) ?_ (by omega) | refine lk_w ?_ (by omega))) (ct_stateAtHome l G hth htw hV hi) rfl (Nat.le_of_ble_eq_true rfl) (Nat.le_of_ble_eq_true rfl) (Nat.le_of_ble_eq_true rfl) (Nat.le_of_ble_eq_true rfl) (Nat.le_of_ble_eq_true rfl) ?_
              refine A_V1v (pc := 65) hX mk_X10_searchFrom lv_X11_170 dX11_wished_65 (by repeat (first | assumption | exact aSet_s | exact aNew_s | refine lk_n ?_ (by omega) | refine lk_f (by assumption) ?_ (by omega) | refine lk_w ?_ (by omega))) (ct_searchFrom l G htw hy1 (by omega) (by omega) hho) rfl (Nat.le_of_ble_eq_true rfl) (Nat.le_of_ble_eq_true rfl) (Nat.le_of_ble_eq_true rfl) (Nat.le_of_ble_eq_true rfl) (Nat.le_of_ble_eq_true rfl) (fun σ65 h65 => ?_)
              obtain ⟨h65, hf65⟩ := h65
              have hy65 := RWs.cell (.inr ⟨_, h65⟩)
              obtain ⟨yf3, y30⟩ := hy65
              refine A_iload_n (pc := 68) rfl hX dX11_wished_68 ?_
              refine A_iconst (pc := 69) (v := (nI 2)) (by decide) hX dX11_wished_69 ?_
              refine A_irem (pc := 70) (by decide) hX dX11_wished_70 ?_
              refine A_top (y := nI 1) (by decide) ?_
              refine A_if_ne (pc := 71) 83 hX dX11_wished_71 rfl (fun c71 => ?_) (fun c71 => ?_)
              · refine A_aload (pc := 83) rfl hX dX11_wished_83 ?_
                refine A_iload_n (pc := 85) rfl hX dX11_wished_85 ?_
                refine A_V1d (pc := 86) hX mk_X10_firstTo lv_X11_176 dX11_wished_86 (by repeat (first | assumption | exact aSet_s | exact aNew_s | refine lk_n ?_ (by omega) | refine lk_f (by assumption) ?_ (by omega) | refine lk_w ?_ (by omega))) (ct_firstTo l G h65 hok hs1) rfl (Nat.le_of_ble_eq_true rfl) (Nat.le_of_ble_eq_true rfl) (Nat.le_of_ble_eq_true rfl) (Nat.le_of_ble_eq_true rfl) (Nat.le_of_ble_eq_true rfl) ?_
                refine A_iret (pc := 89) hX hR dX11_wished_89 rfl rfl ?_
                rw [hwi]
                exact ⟨_, rfl, rfl, ⟨lk_f hf65 o0 (by omega), hpg.fr hf65 (by omega), htw.fr hf65 (by omega) (by omega), hth.fr hf65 (by omega), hkp.fr hf65 (by omega), .inr ⟨_, h65⟩, hy2.fr hf65 (by omega), hsp.fr hf65 (by omega), hro.fr hf65 (by omega), htp⟩, (by repeat (first | exact Fr.rf | refine Fr.set ?_ (by omega) (by omega) | refine Fr.tr ?_ (Fr.wd (by assumption) (by omega) (by omega))))⟩
              · exact absurd c71 (by decide)
          · skip
            refine A_iload_n (pc := 33) rfl hX dX11_wished_33 ?_
            refine A_iconst (pc := 34) (v := (nI 2)) (by decide) hX dX11_wished_34 ?_
            refine A_icmp_ge (pc := 35) 45 hX dX11_wished_35 rfl (fun c35 => ?_) (fun c35 => ?_)
            · refine A_aload_n (pc := 45) rfl hX dX11_wished_45 ?_
              refine A_getf (pc := 46) hX fl_X11_42_11 dX11_wished_46 (by repeat (first | assumption | exact aSet_s | exact aNew_s | refine lk_n ?_ (by omega) | refine lk_f (by assumption) ?_ (by omega) | refine lk_w ?_ (by omega))) (by exact rfl) ?_
              refine A_astore (pc := 49) (lv' := [_, _, _, _, _]) hX dX11_wished_49 (Nat.le_of_ble_eq_true rfl) rfl rfl ?_
              refine A_aload (pc := 51) rfl hX dX11_wished_51 ?_
              refine A_aload_n (pc := 53) rfl hX dX11_wished_53 ?_
              refine A_getf (pc := 54) hX fl_X11_26_11 dX11_wished_54 (by repeat (first | assumption | exact aSet_s | exact aNew_s | refine lk_n ?_ (by omega) | refine lk_f (by assumption) ?_ (by omega) | refine lk_w ?_ (by omega))) (by exact rfl) ?_
              refine A_iload_n (pc := 57) rfl hX dX11_wished_57 ?_
              refine A_aload_n (pc := 58) rfl hX dX11_wished_58 ?_
              refine A_getf (pc := 59) hX fl_X11_19_11 dX11_wished_59 (by repeat (first | assumption | exact aSet_s | exact aNew_s | refine lk_n ?_ (by omega) | refine lk_f (by assumption) ?_ (by omega) | refine lk_w ?_ (by omega))) (by exact rfl) ?_
              refine A_V2d (pc := 62) hX mk_X7_stateAtHome lv_X11_152 dX11_wished_62 (by repeat (first | assumption | exact aSet_s | exact aNew_s | refine lk_n ?_ (by omega) | refine lk_f (by assumption) ?_ (by omega) | refine lk_w ?_ (by omega))) (ct_stateAtHome l G hth htw hV hi) rfl (Nat.le_of_ble_eq_true rfl) (Nat.le_of_ble_eq_true rfl) (Nat.le_of_ble_eq_true rfl) (Nat.le_of_ble_eq_true rfl) (Nat.le_of_ble_eq_true rfl) ?_
              refine A_V1v (pc := 65) hX mk_X10_searchFrom lv_X11_170 dX11_wished_65 (by repeat (first | assumption | exact aSet_s | exact aNew_s | refine lk_n ?_ (by omega) | refine lk_f (by assumption) ?_ (by omega) | refine lk_w ?_ (by omega))) (ct_searchFrom l G htw hy2 (by omega) (by omega) hho) rfl (Nat.le_of_ble_eq_true rfl) (Nat.le_of_ble_eq_true rfl) (Nat.le_of_ble_eq_true rfl) (Nat.le_of_ble_eq_true rfl) (Nat.le_of_ble_eq_true rfl) (fun σ65 h65 => ?_)
              obtain ⟨h65, hf65⟩ := h65
              have hy65 := RWs.cell (.inr ⟨_, h65⟩)
              obtain ⟨yf3, y30⟩ := hy65
              refine A_iload_n (pc := 68) rfl hX dX11_wished_68 ?_
              refine A_iconst (pc := 69) (v := (nI 2)) (by decide) hX dX11_wished_69 ?_
              refine A_irem (pc := 70) (by decide) hX dX11_wished_70 ?_
              refine A_top (y := nI 0) (by decide) ?_
              refine A_if_ne (pc := 71) 83 hX dX11_wished_71 rfl (fun c71 => ?_) (fun c71 => ?_)
              · exact absurd rfl c71
              · refine A_aload (pc := 74) rfl hX dX11_wished_74 ?_
                refine A_iload_n (pc := 76) rfl hX dX11_wished_76 ?_
                refine A_V1d (pc := 77) hX mk_X10_costOf lv_X11_173 dX11_wished_77 (by repeat (first | assumption | exact aSet_s | exact aNew_s | refine lk_n ?_ (by omega) | refine lk_f (by assumption) ?_ (by omega) | refine lk_w ?_ (by omega))) (ct_costOf l G h65 hok hs1) rfl (Nat.le_of_ble_eq_true rfl) (Nat.le_of_ble_eq_true rfl) (Nat.le_of_ble_eq_true rfl) (Nat.le_of_ble_eq_true rfl) (Nat.le_of_ble_eq_true rfl) ?_
                refine A_goto (pc := 80) 89 hX dX11_wished_80 rfl ?_
                refine A_iret (pc := 89) hX hR dX11_wished_89 rfl rfl ?_
                rw [hwi]
                exact ⟨_, rfl, rfl, ⟨lk_f hf65 o0 (by omega), hpg.fr hf65 (by omega), htw.fr hf65 (by omega) (by omega), hth.fr hf65 (by omega), hkp.fr hf65 (by omega), hy1.fr hf65 (by omega), .inr ⟨_, h65⟩, hsp.fr hf65 (by omega), hro.fr hf65 (by omega), htp⟩, (by repeat (first | exact Fr.rf | refine Fr.set ?_ (by omega) (by omega) | refine Fr.tr ?_ (Fr.wd (by assumption) (by omega) (by omega))))⟩
            · exact absurd (by decide) c35
          · skip
            refine A_iload_n (pc := 33) rfl hX dX11_wished_33 ?_
            refine A_iconst (pc := 34) (v := (nI 2)) (by decide) hX dX11_wished_34 ?_
            refine A_icmp_ge (pc := 35) 45 hX dX11_wished_35 rfl (fun c35 => ?_) (fun c35 => ?_)
            · refine A_aload_n (pc := 45) rfl hX dX11_wished_45 ?_
              refine A_getf (pc := 46) hX fl_X11_42_11 dX11_wished_46 (by repeat (first | assumption | exact aSet_s | exact aNew_s | refine lk_n ?_ (by omega) | refine lk_f (by assumption) ?_ (by omega) | refine lk_w ?_ (by omega))) (by exact rfl) ?_
              refine A_astore (pc := 49) (lv' := [_, _, _, _, _]) hX dX11_wished_49 (Nat.le_of_ble_eq_true rfl) rfl rfl ?_
              refine A_aload (pc := 51) rfl hX dX11_wished_51 ?_
              refine A_aload_n (pc := 53) rfl hX dX11_wished_53 ?_
              refine A_getf (pc := 54) hX fl_X11_26_11 dX11_wished_54 (by repeat (first | assumption | exact aSet_s | exact aNew_s | refine lk_n ?_ (by omega) | refine lk_f (by assumption) ?_ (by omega) | refine lk_w ?_ (by omega))) (by exact rfl) ?_
              refine A_iload_n (pc := 57) rfl hX dX11_wished_57 ?_
              refine A_aload_n (pc := 58) rfl hX dX11_wished_58 ?_
              refine A_getf (pc := 59) hX fl_X11_19_11 dX11_wished_59 (by repeat (first | assumption | exact aSet_s | exact aNew_s | refine lk_n ?_ (by omega) | refine lk_f (by assumption) ?_ (by omega) | refine lk_w ?_ (by omega))) (by exact rfl) ?_
              refine A_V2d (pc := 62) hX mk_X7_stateAtHome lv_X11_152 dX11_wished_62 (by repeat (first | assumption | exact aSet_s | exact aNew_s | refine lk_n ?_ (by omega) | refine lk_f (by assumption) ?_ (by omega) | refine lk_w ?_ (by omega))) (ct_stateAtHome l G hth htw hV hi) rfl (Nat.le_of_ble_eq_true rfl) (Nat.le_of_ble_eq_true rfl) (Nat.le_of_ble_eq_true rfl) (Nat.le_of_ble_eq_true rfl) (Nat.le_of_ble_eq_true rfl) ?_
              refine A_V1v (pc := 65) hX mk_X10_searchFrom lv_X11_170 dX11_wished_65 (by repeat (first | assumption | exact aSet_s | exact aNew_s | refine lk_n ?_ (by omega) | refine lk_f (by assumption) ?_ (by omega) | refine lk_w ?_ (by omega))) (ct_searchFrom l G htw hy2 (by omega) (by omega) hho) rfl (Nat.le_of_ble_eq_true rfl) (Nat.le_of_ble_eq_true rfl) (Nat.le_of_ble_eq_true rfl) (Nat.le_of_ble_eq_true rfl) (Nat.le_of_ble_eq_true rfl) (fun σ65 h65 => ?_)
              obtain ⟨h65, hf65⟩ := h65
              have hy65 := RWs.cell (.inr ⟨_, h65⟩)
              obtain ⟨yf3, y30⟩ := hy65
              refine A_iload_n (pc := 68) rfl hX dX11_wished_68 ?_
              refine A_iconst (pc := 69) (v := (nI 2)) (by decide) hX dX11_wished_69 ?_
              refine A_irem (pc := 70) (by decide) hX dX11_wished_70 ?_
              refine A_top (y := nI 1) (by decide) ?_
              refine A_if_ne (pc := 71) 83 hX dX11_wished_71 rfl (fun c71 => ?_) (fun c71 => ?_)
              · refine A_aload (pc := 83) rfl hX dX11_wished_83 ?_
                refine A_iload_n (pc := 85) rfl hX dX11_wished_85 ?_
                refine A_V1d (pc := 86) hX mk_X10_firstTo lv_X11_176 dX11_wished_86 (by repeat (first | assumption | exact aSet_s | exact aNew_s | refine lk_n ?_ (by omega) | refine lk_f (by assumption) ?_ (by omega) | refine lk_w ?_ (by omega))) (ct_firstTo l G h65 hok hs1) rfl (Nat.le_of_ble_eq_true rfl) (Nat.le_of_ble_eq_true rfl) (Nat.le_of_ble_eq_true rfl) (Nat.le_of_ble_eq_true rfl) (Nat.le_of_ble_eq_true rfl) ?_
                refine A_iret (pc := 89) hX hR dX11_wished_89 rfl rfl ?_
                rw [hwi]
                exact ⟨_, rfl, rfl, ⟨lk_f hf65 o0 (by omega), hpg.fr hf65 (by omega), htw.fr hf65 (by omega) (by omega), hth.fr hf65 (by omega), hkp.fr hf65 (by omega), hy1.fr hf65 (by omega), .inr ⟨_, h65⟩, hsp.fr hf65 (by omega), hro.fr hf65 (by omega), htp⟩, (by repeat (first | exact Fr.rf | refine Fr.set ?_ (by omega) (by omega) | refine Fr.tr ?_ (Fr.wd (by assumption) (by omega) (by omega))))⟩
              · exact absurd c71 (by decide)
            · exact absurd (by decide) c35
        · refine A_bipush (pc := 30) (v := (-102)) (by decide) hX dX11_wished_30 ?_
          refine A_iret (pc := 32) hX hR dX11_wished_32 rfl rfl ?_
          rw [show anWished nb B nt V (nI i) s w = _ from (by rw [anWished, if_pos hin, if_neg (fun q => inN_gt (by decide) c27 q.2)])]
          exact ⟨_, rfl, rfl, hX0, Fr.rf⟩
  · have hno := bI_f c8
    refine A_bipush (pc := 11) (v := (-101)) (by decide) hX dX11_wished_11 ?_
    refine A_iret (pc := 13) hX hR dX11_wished_13 rfl rfl ?_
    rw [show anWished nb B nt V x s w = _ from if_neg hno]
    exact ⟨_, rfl, rfl, hX0, Fr.rf⟩
set_option maxRecDepth 100000 in
set_option maxHeartbeats 1000000 in
theorem ct_reach (l : Launch) (G : aG) {b tp sr len nb nt kn tw hn : Nat} {cd : Nat → Nat} {B : BorT} {dy kd : Int32} {V KV : ThT} {hI : Bool} {σ : aS} (hX0 : RX G b tp sr len cd nb B nt dy V hI kn kd KV tw hn σ) (hV : okV nb nt V) {x : Int32} : ACt l G yX11_reach cX11_reach 2 (some .int) 4 0 0 [.ref b, .int x] σ (iP (fun v σ' => v = anReach nb B nt V x ∧ RX G b tp sr len cd nb B nt dy V hI kn kd KV tw hn σ' ∧ Fr b (b + 40) σ σ')) := by
  obtain ⟨o0, hpg, htw, hth, hkp, hy1, hy2, hsp, hro, htp⟩ := id hX0
  obtain ⟨hwt, hnb, hok, bor, fa, fo, fn, e0, e1, e2, e3, e4, e5, e6⟩ := id htw
  obtain ⟨sd, fs, fh, fl, fr, ft, ⟨a0, a1, a2, a3, a4, a5⟩, hnt, hv⟩ := id hth
  obtain ⟨yf1, y10⟩ := hy1.cell
  refine ACt.intro (own := RX11) (nm := "reach") mk_X11_reach rfl rfl [some (.ref b), some (.int x)] rfl (Nat.le_of_ble_eq_true rfl) (fun X hX hR => ?_)
  refine A_aload_n (pc := 0) rfl hX dX11_reach_0 ?_
  refine A_getf (pc := 1) hX fl_X11_26_11 dX11_reach_1 (by repeat (first | assumption | exact aSet_s | exact aNew_s | refine lk_n ?_ (by omega) | refine lk_f (by assumption) ?_ (by omega) | refine lk_w ?_ (by omega))) (by exact rfl) ?_
  refine A_iload_n (pc := 4) rfl hX dX11_reach_4 ?_
  refine A_V1d (pc := 5) hX mk_X7_has lv_X11_136 dX11_reach_5 (by repeat (first | assumption | exact aSet_s | exact aNew_s | refine lk_n ?_ (by omega) | refine lk_f (by assumption) ?_ (by omega) | refine lk_w ?_ (by omega))) (ct_has l G hth) rfl (Nat.le_of_ble_eq_true rfl) (Nat.le_of_ble_eq_true rfl) (Nat.le_of_ble_eq_true rfl) (Nat.le_of_ble_eq_true rfl) (Nat.le_of_ble_eq_true rfl) ?_
  refine A_if_ne (pc := 8) 14 hX dX11_reach_8 rfl (fun c8 => ?_) (fun c8 => ?_)
  · have hin := bI_ne c8
    obtain ⟨i, hi, rfl⟩ := inN_t (by omega) hin
    have hho := homeV_lt hok hnb hV hi
    have hic := nI_clamp (n := i) (by omega)
    refine A_aload_n (pc := 14) rfl hX dX11_reach_14 ?_
    refine A_getf (pc := 15) hX fl_X11_38_11 dX11_reach_15 (by repeat (first | assumption | exact aSet_s | exact aNew_s | refine lk_n ?_ (by omega) | refine lk_f (by assumption) ?_ (by omega) | refine lk_w ?_ (by omega))) (by exact rfl) ?_
    refine A_aload_n (pc := 18) rfl hX dX11_reach_18 ?_
    refine A_getf (pc := 19) hX fl_X11_26_11 dX11_reach_19 (by repeat (first | assumption | exact aSet_s | exact aNew_s | refine lk_n ?_ (by omega) | refine lk_f (by assumption) ?_ (by omega) | refine lk_w ?_ (by omega))) (by exact rfl) ?_
    refine A_iload_n (pc := 22) rfl hX dX11_reach_22 ?_
    refine A_aload_n (pc := 23) rfl hX dX11_reach_23 ?_
    refine A_getf (pc := 24) hX fl_X11_19_11 dX11_reach_24 (by repeat (first | assumption | exact aSet_s | exact aNew_s | refine lk_n ?_ (by omega) | refine lk_f (by assumption) ?_ (by omega) | refine lk_w ?_ (by omega))) (by exact rfl) ?_
    refine A_V2d (pc := 27) hX mk_X7_stateAtHome lv_X11_152 dX11_reach_27 (by repeat (first | assumption | exact aSet_s | exact aNew_s | refine lk_n ?_ (by omega) | refine lk_f (by assumption) ?_ (by omega) | refine lk_w ?_ (by omega))) (ct_stateAtHome l G hth htw hV hi) rfl (Nat.le_of_ble_eq_true rfl) (Nat.le_of_ble_eq_true rfl) (Nat.le_of_ble_eq_true rfl) (Nat.le_of_ble_eq_true rfl) (Nat.le_of_ble_eq_true rfl) ?_
    refine A_V1v (pc := 30) hX mk_X10_searchFrom lv_X11_170 dX11_reach_30 (by repeat (first | assumption | exact aSet_s | exact aNew_s | refine lk_n ?_ (by omega) | refine lk_f (by assumption) ?_ (by omega) | refine lk_w ?_ (by omega))) (ct_searchFrom l G htw hy1 (by omega) (by omega) hho) rfl (Nat.le_of_ble_eq_true rfl) (Nat.le_of_ble_eq_true rfl) (Nat.le_of_ble_eq_true rfl) (Nat.le_of_ble_eq_true rfl) (Nat.le_of_ble_eq_true rfl) (fun σ30 h30 => ?_)
    obtain ⟨h30, hf30⟩ := h30
    obtain ⟨fd, D, F, od, gb, ge, hY, hSp, hfd⟩ := id h30
    have y30 := hY.1
    refine A_aload_n (pc := 33) rfl hX dX11_reach_33 ?_
    refine A_getf (pc := 34) hX fl_X11_38_11 dX11_reach_34 (by repeat (first | assumption | exact aSet_s | exact aNew_s | refine lk_n ?_ (by omega) | refine lk_f (by assumption) ?_ (by omega) | refine lk_w ?_ (by omega))) (by exact rfl) ?_
    refine A_getf (pc := 37) hX fl_X11_179_10 dX11_reach_37 (by repeat (first | assumption | exact aSet_s | exact aNew_s | refine lk_n ?_ (by omega) | refine lk_f (by assumption) ?_ (by omega) | refine lk_w ?_ (by omega))) (by exact rfl) ?_
    refine A_iret (pc := 40) hX hR dX11_reach_40 rfl rfl ?_
    rw [show anReach nb B nt V (nI i) = nI fd from (by rw [anReach, if_pos hin, hic, hfd, SpF.nameR hok hSp])]
    exact ⟨_, rfl, rfl, ⟨lk_f hf30 o0 (by omega), hpg.fr hf30 (by omega), htw.fr hf30 (by omega) (by omega), hth.fr hf30 (by omega), hkp.fr hf30 (by omega), .inr ⟨_, h30⟩, hy2.fr hf30 (by omega), hsp.fr hf30 (by omega), hro.fr hf30 (by omega), htp⟩, (by repeat (first | exact Fr.rf | refine Fr.set ?_ (by omega) (by omega) | refine Fr.tr ?_ (Fr.wd (by assumption) (by omega) (by omega))))⟩
  · have hno := bI_f c8
    refine A_bipush (pc := 11) (v := (-101)) (by decide) hX dX11_reach_11 ?_
    refine A_iret (pc := 13) hX hR dX11_reach_13 rfl rfl ?_
    rw [show anReach nb B nt V x = _ from if_neg hno]
    exact ⟨_, rfl, rfl, hX0, Fr.rf⟩
set_option maxRecDepth 100000 in
set_option maxHeartbeats 1000000 in
theorem ct_spoilers (l : Launch) (G : aG) {b tp sr len nb nt kn tw hn : Nat} {cd : Nat → Nat} {B : BorT} {dy kd : Int32} {V KV : ThT} {hI : Bool} {σ : aS} (hX0 : RX G b tp sr len cd nb B nt dy V hI kn kd KV tw hn σ) (hV : okV nb nt V) (hsr : sr < 2 ^ 29) {x t s : Int32} : ACt l G yX11_spoilers cX11_spoilers 4 (some .int) 3 0 0 [.ref b, .int x, .int t, .int s] σ (iP (fun v σ' => v = anSpoil nb B nt V x t s ∧ (∃ k, k ≤ sr + 448 ∧ RX G b tp k len cd nb B nt dy V hI kn kd KV tw hn σ') ∧ Fr b (b + 40) σ σ')) := by
  obtain ⟨o0, hpg, htw, hth, hkp, hy1, hy2, hsp, hro, htp⟩ := id hX0
  obtain ⟨hwt, hnb, hok, bor, fa, fo, fn, e0, e1, e2, e3, e4, e5, e6⟩ := id htw
  obtain ⟨sd, fs, fh, fl, fr, ft, ⟨a0, a1, a2, a3, a4, a5⟩, hnt, hv⟩ := id hth
  obtain ⟨zgq, zgs, z0, z1, z2, zse⟩ := id hsp
  refine ACt.intro (own := RX11) (nm := "spoilers") mk_X11_spoilers rfl rfl [some (.ref b), some (.int x), some (.int t), some (.int s)] rfl (Nat.le_of_ble_eq_true rfl) (fun X hX hR => ?_)
  refine A_aload_n (pc := 0) rfl hX dX11_spoilers_0 ?_
  refine A_getf (pc := 1) hX fl_X11_26_11 dX11_spoilers_1 (by repeat (first | assumption | exact aSet_s | exact aNew_s | refine lk_n ?_ (by omega) | refine lk_f (by assumption) ?_ (by omega) | refine lk_w ?_ (by omega))) (by exact rfl) ?_
  refine A_iload_n (pc := 4) rfl hX dX11_spoilers_4 ?_
  refine A_V1d (pc := 5) hX mk_X7_has lv_X11_136 dX11_spoilers_5 (by repeat (first | assumption | exact aSet_s | exact aNew_s | refine lk_n ?_ (by omega) | refine lk_f (by assumption) ?_ (by omega) | refine lk_w ?_ (by omega))) (ct_has l G hth) rfl (Nat.le_of_ble_eq_true rfl) (Nat.le_of_ble_eq_true rfl) (Nat.le_of_ble_eq_true rfl) (Nat.le_of_ble_eq_true rfl) (Nat.le_of_ble_eq_true rfl) ?_
  refine A_if_ne (pc := 8) 14 hX dX11_spoilers_8 rfl (fun c8 => ?_) (fun c8 => ?_)
  · have hin := bI_ne c8
    obtain ⟨i, hi, rfl⟩ := inN_t (by omega) hin
    have hho := homeV_lt hok hnb hV hi
    have hic := nI_clamp (n := i) (by omega)
    refine A_iload_n (pc := 14) rfl hX dX11_spoilers_14 ?_
    refine A_if_lt (pc := 15) 34 hX dX11_spoilers_15 rfl (fun c15 => ?_) (fun c15 => ?_)
    · refine A_bipush (pc := 34) (v := (-102)) (by decide) hX dX11_spoilers_34 ?_
      refine A_iret (pc := 36) hX hR dX11_spoilers_36 rfl rfl ?_
      rw [show anSpoil nb B nt V (nI i) t s = _ from (by rw [anSpoil, if_pos hin, if_neg (fun q => inN_lt c15 q.1)])]
      exact ⟨_, rfl, rfl, ⟨sr, by omega, hX0⟩, Fr.rf⟩
    · refine A_iload_n (pc := 18) rfl hX dX11_spoilers_18 ?_
      refine A_iconst (pc := 19) (v := (nI 3)) (by decide) hX dX11_spoilers_19 ?_
      refine A_icmp_ge (pc := 20) 34 hX dX11_spoilers_20 rfl (fun c20 => ?_) (fun c20 => ?_)
      · refine A_bipush (pc := 34) (v := (-102)) (by decide) hX dX11_spoilers_34 ?_
        refine A_iret (pc := 36) hX hR dX11_spoilers_36 rfl rfl ?_
        rw [show anSpoil nb B nt V (nI i) t s = _ from (by rw [anSpoil, if_pos hin, if_neg (fun q => inN_ge (by decide) c20 q.1)])]
        exact ⟨_, rfl, rfl, ⟨sr, by omega, hX0⟩, Fr.rf⟩
      · refine A_iload_n (pc := 23) rfl hX dX11_spoilers_23 ?_
        refine A_iconst (pc := 24) (v := (nI 1)) (by decide) hX dX11_spoilers_24 ?_
        refine A_icmp_lt (pc := 25) 34 hX dX11_spoilers_25 rfl (fun c25 => ?_) (fun c25 => ?_)
        · refine A_bipush (pc := 34) (v := (-102)) (by decide) hX dX11_spoilers_34 ?_
          refine A_iret (pc := 36) hX hR dX11_spoilers_36 rfl rfl ?_
          rw [show anSpoil nb B nt V (nI i) t s = _ from (by rw [anSpoil, if_pos hin, if_neg (fun q => inR_lt c25 q.2)])]
          exact ⟨_, rfl, rfl, ⟨sr, by omega, hX0⟩, Fr.rf⟩
        · refine A_iload_n (pc := 28) rfl hX dX11_spoilers_28 ?_
          refine A_bipush (pc := 29) (v := (nI 7)) (by decide) hX dX11_spoilers_29 ?_
          refine A_icmp_le (pc := 31) 37 hX dX11_spoilers_31 rfl (fun c31 => ?_) (fun c31 => ?_)
          · have ht := inN_cl (n := 3) c15 c20
            have hs := inR_c (lo := 1) (hi := 7) c25 c31
            have hall := And.intro ht hs
            obtain ⟨t, ht1, rfl⟩ := inN_t (by decide) ht
            obtain ⟨s, hs1, hs2, rfl⟩ := inR_t (by decide) (by decide) hs
            refine A_aload_n (pc := 37) rfl hX dX11_spoilers_37 ?_
            refine A_getf (pc := 38) hX fl_X11_50_11 dX11_spoilers_38 (by repeat (first | assumption | exact aSet_s | exact aNew_s | refine lk_n ?_ (by omega) | refine lk_f (by assumption) ?_ (by omega) | refine lk_w ?_ (by omega))) (by exact rfl) ?_
            refine A_aload_n (pc := 41) rfl hX dX11_spoilers_41 ?_
            refine A_getf (pc := 42) hX fl_X11_26_11 dX11_spoilers_42 (by repeat (first | assumption | exact aSet_s | exact aNew_s | refine lk_n ?_ (by omega) | refine lk_f (by assumption) ?_ (by omega) | refine lk_w ?_ (by omega))) (by exact rfl) ?_
            refine A_iload_n (pc := 45) rfl hX dX11_spoilers_45 ?_
            refine A_aload_n (pc := 46) rfl hX dX11_spoilers_46 ?_
            refine A_getf (pc := 47) hX fl_X11_19_11 dX11_spoilers_47 (by repeat (first | assumption | exact aSet_s | exact aNew_s | refine lk_n ?_ (by omega) | refine lk_f (by assumption) ?_ (by omega) | refine lk_w ?_ (by omega))) (by exact rfl) ?_
            refine A_V2d (pc := 50) hX mk_X7_stateAtHome lv_X11_152 dX11_spoilers_50 (by repeat (first | assumption | exact aSet_s | exact aNew_s | refine lk_n ?_ (by omega) | refine lk_f (by assumption) ?_ (by omega) | refine lk_w ?_ (by omega))) (ct_stateAtHome l G hth htw hV hi) rfl (Nat.le_of_ble_eq_true rfl) (Nat.le_of_ble_eq_true rfl) (Nat.le_of_ble_eq_true rfl) (Nat.le_of_ble_eq_true rfl) (Nat.le_of_ble_eq_true rfl) ?_
            refine A_iload_n (pc := 53) rfl hX dX11_spoilers_53 ?_
            refine A_iload_n (pc := 54) rfl hX dX11_spoilers_54 ?_
            refine A_V3i (pc := 55) hX mk_X5_fewest lv_X11_182 dX11_spoilers_55 (by repeat (first | assumption | exact aSet_s | exact aNew_s | refine lk_n ?_ (by omega) | refine lk_f (by assumption) ?_ (by omega) | refine lk_w ?_ (by omega))) (ct_fewest l G htw hsp (by omega) (by omega) hho ht1 (by omega) hsr) rfl (Nat.le_of_ble_eq_true rfl) (Nat.le_of_ble_eq_true rfl) (Nat.le_of_ble_eq_true rfl) (Nat.le_of_ble_eq_true rfl) (Nat.le_of_ble_eq_true rfl) (fun x55 σ55 h55 => ?_)
            obtain ⟨rfl, ⟨k, hk1, hk2⟩, hf55⟩ := h55
            refine A_iret (pc := 58) hX hR dX11_spoilers_58 rfl rfl ?_
            rw [show anSpoil nb B nt V (nI i) (nI t) (nI s) = _ from (by rw [anSpoil, if_pos hin, if_pos hall, hic, nI_clamp (by omega), nI_clamp (by omega)])]
            exact ⟨_, rfl, rfl, ⟨k, hk1, ⟨lk_f hf55 o0 (by omega), hpg.fr hf55 (by omega), htw.fr hf55 (by omega) (by omega), hth.fr hf55 (by omega), hkp.fr hf55 (by omega), hy1.fr hf55 (by omega), hy2.fr hf55 (by omega), hk2, hro.fr hf55 (by omega), htp⟩⟩, (by repeat (first | exact Fr.rf | refine Fr.set ?_ (by omega) (by omega) | refine Fr.tr ?_ (Fr.wd (by assumption) (by omega) (by omega))))⟩
          · refine A_bipush (pc := 34) (v := (-102)) (by decide) hX dX11_spoilers_34 ?_
            refine A_iret (pc := 36) hX hR dX11_spoilers_36 rfl rfl ?_
            rw [show anSpoil nb B nt V (nI i) t s = _ from (by rw [anSpoil, if_pos hin, if_neg (fun q => inR_gt c31 q.2)])]
            exact ⟨_, rfl, rfl, ⟨sr, by omega, hX0⟩, Fr.rf⟩
  · have hno := bI_f c8
    refine A_bipush (pc := 11) (v := (-101)) (by decide) hX dX11_spoilers_11 ?_
    refine A_iret (pc := 13) hX hR dX11_spoilers_13 rfl rfl ?_
    rw [show anSpoil nb B nt V x t s = _ from if_neg hno]
    exact ⟨_, rfl, rfl, ⟨sr, by omega, hX0⟩, Fr.rf⟩
/-- what a digest mixes in -/
def mixN (f : Nat → Int32) : Nat → Int64 → Int64
  | 0, h => h
  | n + 1, h => 31 * mixN f n h + (f n).toInt64
noncomputable def mixT (nb : Nat) (B : BorT) (V : ThT) (h : Int64) (i : Nat) : Int64 := mixN (fun c => wiN nb B (homeV B (V i)) 0 c) 4 (31 * mixN (fun c => thN B V i c) 7 h + (wR nb B (homeV B (V i))).toInt64)
def digB (B : BorT) (nt : Nat) (V : ThT) (h : Int64) : Nat → Int64
  | 0 => h
  | n + 1 => mixN (fun c => abN B nt V n c) 6 (digB B nt V h n)
noncomputable def digT (nb : Nat) (B : BorT) (V : ThT) (h : Int64) : Nat → Int64
  | 0 => h
  | n + 1 => mixT nb B V (digT nb B V h n) n
noncomputable def anDigest (len : Nat) (cd : Nat → Nat) (nb : Nat) (B : BorT) (nt : Nat) (dy : Int32) (V : ThT) (tw hn : Nat) : Int64 := mixN (fun c => ctN len nb nt dy V tw hn c) 8 (mixN (fun j => nI (cd j)) len (digT nb B V (digB B nt V 797 nb) nt))
set_option maxRecDepth 100000 in
set_option maxHeartbeats 1000000 in
theorem ct_mixedThing (l : Launch) (G : aG) {b tp sr len nb nt kn tw hn : Nat} {cd : Nat → Nat} {B : BorT} {dy kd : Int32} {V KV : ThT} {hI : Bool} {σ : aS} (hX0 : RX G b tp sr len cd nb B nt dy V hI kn kd KV tw hn σ) (hV : okV nb nt V) {h : Int64} {q : Nat} (hq : q < nt) : ACt l G yX11_mixedThing cX11_mixedThing 7 (some (.long)) 5 0 0 [.ref b, .long h, .int (nI q)] σ (jP (fun v σ' => v = mixT nb B V h q ∧ RX G b tp sr len cd nb B nt dy V hI kn kd KV tw hn σ' ∧ Fr b (b + 40) σ σ')) := by
  obtain ⟨o0, hpg, htw, hth, hkp, hy1, hy2, hsp, hro, htp⟩ := id hX0
  obtain ⟨sd, fs, fh, fl, fr, ft, ⟨a0, a1, a2, a3, a4, a5⟩, hnt, hv⟩ := id hth
  refine ACt.intro (own := RX11) (nm := "mixedThing") mk_X11_mixedThing rfl rfl [some (.ref b), some (.long h), none, some (.int (nI q)), none, none, none] rfl (Nat.le_of_ble_eq_true rfl) (fun X hX hR => ?_)
  refine A_lload_n (pc := 0) rfl hX dX11_mixedThing_0 ?_
  refine A_lstore (pc := 1) (lv' := [_, _, _, _, _, _, _]) hX dX11_mixedThing_1 (Nat.le_of_ble_eq_true rfl) rfl rfl ?_
  refine A_iconst (pc := 3) (v := (nI 0)) (by decide) hX dX11_mixedThing_3 ?_
  refine A_istore (pc := 4) (lv' := [_, _, _, _, _, _, _]) hX dX11_mixedThing_4 (Nat.le_of_ble_eq_true rfl) rfl rfl ?_
  suffices hl : ∀ (m i : Nat) (σ1 : aS), i ≤ 7 → 7 - i = m → RX G b tp sr len cd nb B nt dy V hI kn kd KV tw hn σ1 → Fr b (b + 40) σ σ1 → AA G X 0 0 6 [some (.ref b), some (.long h), none, some (.int (nI q)), some (.long (mixN (fun c => thN B V q c) i h)), none, some (.int (nI i))] [] σ1 from hl 7 0 σ (Nat.zero_le _) rfl hX0 Fr.rf
  intro m
  induction m with
  | zero =>
    intro i σ1 hi hm hX1 hF1
    have e : i = 7 := by omega
    subst e
    refine A_iload (pc := 6) rfl hX dX11_mixedThing_6 ?_
    refine A_bipush (pc := 8) (v := (nI 6)) (by decide) hX dX11_mixedThing_8 ?_
    refine A_icmp_gt (pc := 10) 36 hX dX11_mixedThing_10 rfl (fun c10 => ?_) (fun c10 => ?_)
    · refine A_ldc2 (pc := 36) k_X11_236 hX dX11_mixedThing_36 ?_
      refine A_lload (pc := 39) rfl hX dX11_mixedThing_39 ?_
      refine A_lmul (pc := 41) hX dX11_mixedThing_41 ?_
      refine A_aload_n (pc := 42) rfl hX dX11_mixedThing_42 ?_
      refine A_iload_n (pc := 43) rfl hX dX11_mixedThing_43 ?_
      have o1 := hX1.1
      refine A_V1i (pc := 44) hX mk_X11_reach lv_X11_254 dX11_mixedThing_44 (by repeat (first | assumption | exact aSet_s | exact aNew_s | refine lk_n ?_ (by omega) | refine lk_f (by assumption) ?_ (by omega) | refine lk_w ?_ (by omega))) (ct_reach l G hX1 hV) rfl (Nat.le_of_ble_eq_true rfl) (Nat.le_of_ble_eq_true rfl) (Nat.le_of_ble_eq_true rfl) (Nat.le_of_ble_eq_true rfl) (Nat.le_of_ble_eq_true rfl) (fun x44 σ44 h44 => ?_)
      obtain ⟨rfl, hX44, hf44⟩ := h44
      refine A_top (y := wR nb B (homeV B (V q))) (by rw [anReach, if_pos (inN_nI (by omega) hq), nI_clamp (by omega)]) ?_
      refine A_i2l (pc := 47) hX dX11_mixedThing_47 ?_
      refine A_ladd (pc := 48) hX dX11_mixedThing_48 ?_
      refine A_lstore (pc := 49) (lv' := [_, _, _, _, _, _, _]) hX dX11_mixedThing_49 (Nat.le_of_ble_eq_true rfl) rfl rfl ?_
      refine A_iconst (pc := 51) (v := (nI 0)) (by decide) hX dX11_mixedThing_51 ?_
      refine A_istore (pc := 52) (lv' := [_, _, _, _, _, _, _]) hX dX11_mixedThing_52 (Nat.le_of_ble_eq_true rfl) rfl rfl ?_
      suffices hl2 : ∀ (m i : Nat) (σ1 : aS), i ≤ 4 → 4 - i = m → RX G b tp sr len cd nb B nt dy V hI kn kd KV tw hn σ1 → Fr b (b + 40) σ σ1 → AA G X 0 0 54 [some (.ref b), some (.long h), none, some (.int (nI q)), some (.long (mixN (fun c => wiN nb B (homeV B (V q)) 0 c) i (31 * mixN (fun c => thN B V q c) 7 h + (wR nb B (homeV B (V q))).toInt64))), none, some (.int (nI i))] [] σ1 from hl2 4 0 _ (Nat.zero_le _) rfl hX44 (hF1.tr hf44)
      intro m
      induction m with
      | zero =>
        intro i σ1 hi hm hX1 hF1
        have e : i = 4 := by omega
        subst e
        refine A_iload (pc := 54) rfl hX dX11_mixedThing_54 ?_
        refine A_iconst (pc := 56) (v := (nI 3)) (by decide) hX dX11_mixedThing_56 ?_
        refine A_icmp_gt (pc := 57) 84 hX dX11_mixedThing_57 rfl (fun c57 => ?_) (fun c57 => ?_)
        · refine A_lload (pc := 84) rfl hX dX11_mixedThing_84 ?_
          refine A_lret (pc := 86) hX hR dX11_mixedThing_86 ?_
          exact ⟨_, rfl, rfl, hX1, hF1⟩
        · exact absurd (by decide) c57
      | succ m ih2 =>
        intro i σ1 hi hm hX1 hF1
        have hil : i < 4 := by omega
        have o1 := hX1.1
        have c57 : ¬ nI 3 < nI i := nI_nlt (by omega) (by decide)
        refine A_iload (pc := 54) rfl hX dX11_mixedThing_54 ?_
        refine A_iconst (pc := 56) (v := (nI 3)) (by decide) hX dX11_mixedThing_56 ?_
        refine A_icmp_gt (pc := 57) 84 hX dX11_mixedThing_57 rfl (fun c57 => ?_) (fun c57 => ?_)
        · exact absurd c57 (nI_nlt (by omega) (by decide))
        · refine A_ldc2 (pc := 60) k_X11_236 hX dX11_mixedThing_60 ?_
          refine A_lload (pc := 63) rfl hX dX11_mixedThing_63 ?_
          refine A_lmul (pc := 65) hX dX11_mixedThing_65 ?_
          refine A_aload_n (pc := 66) rfl hX dX11_mixedThing_66 ?_
          refine A_iload_n (pc := 67) rfl hX dX11_mixedThing_67 ?_
          refine A_iconst (pc := 68) (v := (nI 0)) (by decide) hX dX11_mixedThing_68 ?_
          refine A_iload (pc := 69) rfl hX dX11_mixedThing_69 ?_
          refine A_V3i (pc := 71) hX mk_X11_wished lv_X11_257 dX11_mixedThing_71 (by repeat (first | assumption | exact aSet_s | exact aNew_s | refine lk_n ?_ (by omega) | refine lk_f (by assumption) ?_ (by omega) | refine lk_w ?_ (by omega))) (ct_wished l G hX1 hV) rfl (Nat.le_of_ble_eq_true rfl) (Nat.le_of_ble_eq_true rfl) (Nat.le_of_ble_eq_true rfl) (Nat.le_of_ble_eq_true rfl) (Nat.le_of_ble_eq_true rfl) (fun x71 σ71 h71 => ?_)
          obtain ⟨rfl, hX71, hf71⟩ := h71
          refine A_top (y := wiN nb B (homeV B (V q)) 0 i) (by rw [anWished, if_pos (inN_nI (by omega) hq), if_pos ⟨inN_nI (by decide) (by decide), inN_nI (by decide) hil⟩, nI_clamp (by omega), nI_clamp (by omega), nI_clamp (by omega)]) ?_
          refine A_i2l (pc := 74) hX dX11_mixedThing_74 ?_
          refine A_ladd (pc := 75) hX dX11_mixedThing_75 ?_
          refine A_lstore (pc := 76) (lv' := [_, _, _, _, _, _, _]) hX dX11_mixedThing_76 (Nat.le_of_ble_eq_true rfl) rfl rfl ?_
          refine A_iinc (pc := 78) (v := (nI (i + 1))) (lv' := [_, _, _, _, _, _, _]) hX dX11_mixedThing_78 rfl (nI_succ i).symm rfl rfl ?_
          refine A_goto (pc := 81) 54 hX dX11_mixedThing_81 rfl ?_
          exact ih2 (i + 1) σ71 (by omega) (by omega) hX71 (hF1.tr hf71)
    · exact absurd (by decide) c10
  | succ m ih =>
    intro i σ1 hi hm hX1 hF1
    have hil : i < 7 := by omega
    have o1 := hX1.1
    refine A_iload (pc := 6) rfl hX dX11_mixedThing_6 ?_
    refine A_bipush (pc := 8) (v := (nI 6)) (by decide) hX dX11_mixedThing_8 ?_
    refine A_icmp_gt (pc := 10) 36 hX dX11_mixedThing_10 rfl (fun c10 => ?_) (fun c10 => ?_)
    · exact absurd c10 (nI_nlt (by omega) (by decide))
    · refine A_ldc2 (pc := 13) k_X11_236 hX dX11_mixedThing_13 ?_
      refine A_lload (pc := 16) rfl hX dX11_mixedThing_16 ?_
      refine A_lmul (pc := 18) hX dX11_mixedThing_18 ?_
      refine A_aload_n (pc := 19) rfl hX dX11_mixedThing_19 ?_
      refine A_iload_n (pc := 20) rfl hX dX11_mixedThing_20 ?_
      refine A_iload (pc := 21) rfl hX dX11_mixedThing_21 ?_
      refine A_V2d (pc := 23) hX mk_X11_thingOf lv_X11_251 dX11_mixedThing_23 (by repeat (first | assumption | exact aSet_s | exact aNew_s | refine lk_n ?_ (by omega) | refine lk_f (by assumption) ?_ (by omega) | refine lk_w ?_ (by omega))) (ct_thingOf l G hX1 hV) rfl (Nat.le_of_ble_eq_true rfl) (Nat.le_of_ble_eq_true rfl) (Nat.le_of_ble_eq_true rfl) (Nat.le_of_ble_eq_true rfl) (Nat.le_of_ble_eq_true rfl) ?_
      refine A_top (y := thN B V q i) (an2_in (by omega) (by decide) hq hil) ?_
      refine A_i2l (pc := 26) hX dX11_mixedThing_26 ?_
      refine A_ladd (pc := 27) hX dX11_mixedThing_27 ?_
      refine A_lstore (pc := 28) (lv' := [_, _, _, _, _, _, _]) hX dX11_mixedThing_28 (Nat.le_of_ble_eq_true rfl) rfl rfl ?_
      refine A_iinc (pc := 30) (v := (nI (i + 1))) (lv' := [_, _, _, _, _, _, _]) hX dX11_mixedThing_30 rfl (nI_succ i).symm rfl rfl ?_
      refine A_goto (pc := 33) 6 hX dX11_mixedThing_33 rfl ?_
      exact ih (i + 1) σ1 (by omega) (by omega) hX1 hF1
set_option maxRecDepth 100000 in
set_option maxHeartbeats 1000000 in
theorem ct_town (l : Launch) (G : aG) {b tp sr len nb nt kn tw hn : Nat} {cd : Nat → Nat} {B : BorT} {dy kd : Int32} {V KV : ThT} {hI : Bool} {σ : aS} (hX0 : RX G b tp sr len cd nb B nt dy V hI kn kd KV tw hn σ) (htz : tp ≤ σ.1) : ACt l G yX11_town cX11_town 1 (some .int) 6 6 18 [.ref b] σ (iP (fun v σ' => v = (stTown len cd nb B nt dy hI tw).1 ∧ RX G b tp sr (stTown len cd nb B nt dy hI tw).2.1 cd (stTown len cd nb B nt dy hI tw).2.2.1 (stTown len cd nb B nt dy hI tw).2.2.2.1 (stTown len cd nb B nt dy hI tw).2.2.2.2.1 (stTown len cd nb B nt dy hI tw).2.2.2.2.2.1 V (stTown len cd nb B nt dy hI tw).2.2.2.2.2.2.1 kn kd KV (stTown len cd nb B nt dy hI tw).2.2.2.2.2.2.2 hn σ' ∧ σ.1 ≤ σ'.1 ∧ σ'.1 ≤ σ.1 + 6 ∧ ∀ a, a < σ.1 → (a < b ∨ b + 40 ≤ a) → σ'.2 a = σ.2 a)) := by
  obtain ⟨o0, hpg, htw, hth, hkp, hy1, hy2, hsp, hro, htp⟩ := id hX0
  obtain ⟨pf, p0, p1, p2, p3⟩ := id hpg
  obtain ⟨hwt, hnb, hok, bor, fa, fo, fn, e0, e1, e2, e3, e4, e5, e6⟩ := id htw
  refine ACt.intro (own := RX11) (nm := "town") mk_X11_town rfl rfl [some (.ref b)] rfl (Nat.le_of_ble_eq_true rfl) (fun X hX hR => ?_)
  refine A_aload_n (pc := 0) rfl hX dX11_town_0 ?_
  refine A_getf (pc := 1) hX fl_X11_10_11 dX11_town_1 (by repeat (first | assumption | exact aSet_s | exact aNew_s | refine lk_n ?_ (by omega) | refine lk_f (by assumption) ?_ (by omega) | refine lk_w ?_ (by omega))) (by exact rfl) ?_
  refine A_V0d (pc := 4) hX mk_X2_isTown lv_X11_80 dX11_town_4 (by repeat (first | assumption | exact aSet_s | exact aNew_s | refine lk_n ?_ (by omega) | refine lk_f (by assumption) ?_ (by omega) | refine lk_w ?_ (by omega))) (ct_isTown l G hpg) rfl (Nat.le_of_ble_eq_true rfl) (Nat.le_of_ble_eq_true rfl) (Nat.le_of_ble_eq_true rfl) (Nat.le_of_ble_eq_true rfl) (Nat.le_of_ble_eq_true rfl) ?_
  refine A_if_ne (pc := 7) 13 hX dX11_town_7 rfl (fun c7 => ?_) (fun c7 => ?_)
  · have ht := bI_ne c7
    refine A_aload_n (pc := 13) rfl hX dX11_town_13 ?_
    refine A_getf (pc := 14) hX fl_X11_19_11 dX11_town_14 (by repeat (first | assumption | exact aSet_s | exact aNew_s | refine lk_n ?_ (by omega) | refine lk_f (by assumption) ?_ (by omega) | refine lk_w ?_ (by omega))) (by exact rfl) ?_
    refine A_aload_n (pc := 17) rfl hX dX11_town_17 ?_
    refine A_getf (pc := 18) hX fl_X11_10_11 dX11_town_18 (by repeat (first | assumption | exact aSet_s | exact aNew_s | refine lk_n ?_ (by omega) | refine lk_f (by assumption) ?_ (by omega) | refine lk_w ?_ (by omega))) (by exact rfl) ?_
    refine A_V1 (pc := 21) hX mk_X8_read lv_X11_84 dX11_town_21 (by repeat (first | assumption | exact aSet_s | exact aNew_s | refine lk_n ?_ (by omega) | refine lk_f (by assumption) ?_ (by omega) | refine lk_w ?_ (by omega))) (ct_read l G htw hpg ht (by omega) htz) rfl (Nat.le_of_ble_eq_true rfl) (Nat.le_of_ble_eq_true rfl) (Nat.le_of_ble_eq_true rfl) (Nat.le_of_ble_eq_true rfl) (Nat.le_of_ble_eq_true rfl) (fun x21 σ21 h21 => ?_)
    obtain ⟨rfl, h21, hz21, hl21⟩ := h21
    have hq : ∀ a, b + 8 ≤ a → a < b + 40 → σ21.2 a = σ.2 a := fun a h1 h2 => hl21 a (by omega) (by omega)
    have o1 := (hl21 b (by omega) (by omega)).trans o0
    have hpg1 := hpg.kept (fun a h1 h2 => hl21 a (by omega) (by omega))
    have hth1 := hth.kept (fun a h1 h2 => hq a (by omega) (by omega))
    have hkp1 := hkp.kept (fun a h1 h2 => hq a (by omega) (by omega))
    have hy11 := hy1.kept (fun a h1 h2 => hq a (by omega) (by omega))
    have hy21 := hy2.kept (fun a h1 h2 => hq a (by omega) (by omega))
    have hsp1 := hsp.kept (fun a h1 h2 => hq a (by omega) (by omega))
    have hro1 := hro.kept (fun a h1 h2 => hq a (by omega) (by omega))
    obtain ⟨pf1, p01, p11, p21, p31⟩ := id hpg1
    obtain ⟨_, _, _, bor1, fa1, fo1, fn1, e01, e11, e21, e31, e41, e51, e61⟩ := id h21
    obtain ⟨sd1, fs1, fh1, fl1, fr1, ft1, ⟨a01, a11, a21, a31, a41, a51⟩, hnt1, hv1⟩ := id hth1
    obtain ⟨yf1, y10⟩ := hy11.cell
    obtain ⟨yf2, y20⟩ := hy21.cell
    have h5 : (len + 1) / 5 ≤ 6 := by obtain ⟨_, q, _⟩ := id h21; exact q
    refine A_aload_n (pc := 24) rfl hX dX11_town_24 ?_
    refine A_getf (pc := 25) hX fl_X11_10_11 dX11_town_25 (by repeat (first | assumption | exact aSet_s | exact aNew_s | refine lk_n ?_ (by omega) | refine lk_f (by assumption) ?_ (by omega) | refine lk_w ?_ (by omega))) (by exact rfl) ?_
    refine A_iconst (pc := 28) (v := (nI 0)) (by decide) hX dX11_town_28 ?_
    refine A_putf (pc := 29) (fs' := [_, _]) hX pl_X11_61_2 dX11_town_29 (by repeat (first | assumption | exact aSet_s | exact aNew_s | refine lk_n ?_ (by omega) | refine lk_f (by assumption) ?_ (by omega) | refine lk_w ?_ (by omega))) (by exact Nat.le_of_ble_eq_true rfl) (by exact rfl) rfl rfl ?_
    refine A_gen (fun z => RPg G (b + 1) 0 cd z ∧ Fr (b + 1) (b + 2) σ21 z) ⟨⟨pf1, aSet_s, lk_n p11 (by omega), by omega, fun j hj => absurd hj (by omega)⟩, Fr.rf.set (by omega) (by omega)⟩ (fun σ29 hg => ?_)
    obtain ⟨h29, hf29⟩ := hg
    refine A_aload_n (pc := 32) rfl hX dX11_town_32 ?_
    refine A_getf (pc := 33) hX fl_X11_26_11 dX11_town_33 (by repeat (first | assumption | exact aSet_s | exact aNew_s | refine lk_n ?_ (by omega) | refine lk_f (by assumption) ?_ (by omega) | refine lk_w ?_ (by omega))) (by exact rfl) ?_
    refine A_V0v (pc := 36) hX mk_X7_empty lv_X11_88 dX11_town_36 (by repeat (first | assumption | exact aSet_s | exact aNew_s | refine lk_n ?_ (by omega) | refine lk_f (by assumption) ?_ (by omega) | refine lk_w ?_ (by omega))) (ct_Th_empty l G (hth1.fr hf29 (by omega))) rfl (Nat.le_of_ble_eq_true rfl) (Nat.le_of_ble_eq_true rfl) (Nat.le_of_ble_eq_true rfl) (Nat.le_of_ble_eq_true rfl) (Nat.le_of_ble_eq_true rfl) (fun σ36 h36 => ?_)
    obtain ⟨h36, hf36⟩ := h36
    refine A_aload_n (pc := 39) rfl hX dX11_town_39 ?_
    refine A_getf (pc := 40) hX fl_X11_38_11 dX11_town_40 (by repeat (first | assumption | exact aSet_s | exact aNew_s | refine lk_n ?_ (by omega) | refine lk_f (by assumption) ?_ (by omega) | refine lk_w ?_ (by omega))) (by exact rfl) ?_
    refine A_V0v (pc := 43) hX mk_X10_forget lv_X11_91 dX11_town_43 (by repeat (first | assumption | exact aSet_s | exact aNew_s | refine lk_n ?_ (by omega) | refine lk_f (by assumption) ?_ (by omega) | refine lk_w ?_ (by omega))) (ct_Wy_forget l G ((hy11.fr hf29 (by omega)).fr hf36 (by omega))) rfl (Nat.le_of_ble_eq_true rfl) (Nat.le_of_ble_eq_true rfl) (Nat.le_of_ble_eq_true rfl) (Nat.le_of_ble_eq_true rfl) (Nat.le_of_ble_eq_true rfl) (fun σ43 h43 => ?_)
    obtain ⟨h43, hf43⟩ := h43
    refine A_aload_n (pc := 46) rfl hX dX11_town_46 ?_
    refine A_getf (pc := 47) hX fl_X11_42_11 dX11_town_47 (by repeat (first | assumption | exact aSet_s | exact aNew_s | refine lk_n ?_ (by omega) | refine lk_f (by assumption) ?_ (by omega) | refine lk_w ?_ (by omega))) (by exact rfl) ?_
    refine A_V0v (pc := 50) hX mk_X10_forget lv_X11_91 dX11_town_50 (by repeat (first | assumption | exact aSet_s | exact aNew_s | refine lk_n ?_ (by omega) | refine lk_f (by assumption) ?_ (by omega) | refine lk_w ?_ (by omega))) (ct_Wy_forget l G (((hy21.fr hf29 (by omega)).fr hf36 (by omega)).fr hf43 (by omega))) rfl (Nat.le_of_ble_eq_true rfl) (Nat.le_of_ble_eq_true rfl) (Nat.le_of_ble_eq_true rfl) (Nat.le_of_ble_eq_true rfl) (Nat.le_of_ble_eq_true rfl) (fun σ50 h50 => ?_)
    obtain ⟨h50, hf50⟩ := h50
    refine A_aload_n (pc := 53) rfl hX dX11_town_53 ?_
    refine A_iconst (pc := 54) (v := (nI 0)) (by decide) hX dX11_town_54 ?_
    refine A_putf (pc := 55) (fs' := [_, _, _, _, _, _, _, _, _, _, _]) hX pl_X11_94_11 dX11_town_55 (by repeat (first | assumption | exact aSet_s | exact aNew_s | refine lk_n ?_ (by omega) | refine lk_f (by assumption) ?_ (by omega) | refine lk_w ?_ (by omega))) (by exact Nat.le_of_ble_eq_true rfl) (by exact rfl) (bI_z false) (bI_fit false) ?_
    refine A_aload_n (pc := 58) rfl hX dX11_town_58 ?_
    refine A_dup (pc := 59) rfl hX dX11_town_59 ?_
    refine A_getf (pc := 60) hX fl_X11_98_11 dX11_town_60 (by repeat (first | assumption | exact aSet_s | exact aNew_s | refine lk_n ?_ (by omega) | refine lk_f (by assumption) ?_ (by omega) | refine lk_w ?_ (by omega))) (by exact rfl) ?_
    refine A_iconst (pc := 63) (v := (nI 1)) (by decide) hX dX11_town_63 ?_
    refine A_iadd (pc := 64) hX dX11_town_64 ?_
    refine A_top (y := nI (tw + 1)) (nI_add _ _) ?_
    refine A_putf (pc := 65) (fs' := [_, _, _, _, _, _, _, _, _, _, _]) hX pl_X11_98_11 dX11_town_65 (by repeat (first | assumption | exact aSet_s | exact aNew_s | refine lk_n ?_ (by omega) | refine lk_f (by assumption) ?_ (by omega) | refine lk_w ?_ (by omega))) (by exact Nat.le_of_ble_eq_true rfl) (by exact rfl) rfl rfl ?_
    refine A_gen (fun z => z.2 b = some (aO 11 [.ref (b + 1), .ref (b + 3), .ref (b + 8), .ref (b + 14), .ref (b + 20), .ref (b + 26), .ref (b + 32), .ref (b + 35), .int (bI false), .int (nI (tw + 1)), .int (nI hn)]) ∧ Fr b (b + 1) σ50 z) ⟨aSet_s, (Fr.rf.set (by omega) (by omega)).set (by omega) (by omega)⟩ (fun σ68 hg => ?_)
    obtain ⟨o68, hf68⟩ := hg
    refine A_aload_n (pc := 68) rfl hX dX11_town_68 ?_
    refine A_getf (pc := 69) hX fl_X11_19_11 dX11_town_69 (by repeat (first | assumption | exact aSet_s | exact aNew_s | refine lk_n ?_ (by omega) | refine lk_f (by assumption) ?_ (by omega) | refine lk_w ?_ (by omega))) (by exact rfl) ?_
    refine A_getf (pc := 72) hX fl_X11_73_8 dX11_town_72 (by repeat (first | assumption | exact aSet_s | exact aNew_s | refine lk_n ?_ (by omega) | refine lk_f (by assumption) ?_ (by omega) | refine lk_w ?_ (by omega))) (by exact rfl) ?_
    refine A_iret (pc := 75) hX hR dX11_town_75 rfl rfl ?_
    rw [show stTown len cd nb B nt dy hI tw = _ from if_pos ht]
    exact ⟨_, rfl, rfl, ⟨o68, ((((h29.fr hf36 (by omega)).fr hf43 (by omega)).fr hf50 (by omega)).fr hf68 (by omega)), (((((h21.fr hf29 (by omega) (by omega)).fr hf36 (by omega) (by omega)).fr hf43 (by omega) (by omega)).fr hf50 (by omega) (by omega)).fr hf68 (by omega) (by omega)), (((h36.fr hf43 (by omega)).fr hf50 (by omega)).fr hf68 (by omega)), (((((hkp1.fr hf29 (by omega)).fr hf36 (by omega)).fr hf43 (by omega)).fr hf50 (by omega)).fr hf68 (by omega)), (((h43 _ _).fr hf50 (by omega)).fr hf68 (by omega)), ((h50 _ _).fr hf68 (by omega)), (((((hsp1.fr hf29 (by omega)).fr hf36 (by omega)).fr hf43 (by omega)).fr hf50 (by omega)).fr hf68 (by omega)), (((((hro1.fr hf29 (by omega)).fr hf36 (by omega)).fr hf43 (by omega)).fr hf50 (by omega)).fr hf68 (by omega)), htp⟩, by rw [hf68.1, hf50.1, hf43.1, hf36.1, hf29.1]; omega, by rw [hf68.1, hf50.1, hf43.1, hf36.1, hf29.1]; omega, fun a h1 h2 => (hf68.2 a (by omega)).trans ((hf50.2 a (by omega)).trans ((hf43.2 a (by omega)).trans ((hf36.2 a (by omega)).trans ((hf29.2 a (by omega)).trans (hl21 a h1 (by omega))))))⟩
  · have ht := bI_f c7
    refine A_widen (cs' := 6) (ss' := 18) (by omega) (by omega) ?_
    refine A_bipush (pc := 10) (v := (-103)) (by decide) hX dX11_town_10 ?_
    refine A_iret (pc := 12) hX hR dX11_town_12 rfl rfl ?_
    rw [show stTown len cd nb B nt dy hI tw = _ from if_neg ht]
    exact ⟨_, rfl, rfl, hX0, Nat.le_refl _, Nat.le_add_right _ _, fun _ _ _ => rfl⟩
set_option maxRecDepth 100000 in
set_option maxHeartbeats 1000000 in
theorem ct_digest (l : Launch) (G : aG) {b tp sr len nb nt kn tw hn : Nat} {cd : Nat → Nat} {B : BorT} {dy kd : Int32} {V KV : ThT} {hI : Bool} {σ : aS} (hX0 : RX G b tp sr len cd nb B nt dy V hI kn kd KV tw hn σ) (hV : okV nb nt V) : ACt l G yX11_digest cX11_digest 5 (some (.long)) 6 0 0 [.ref b] σ (jP (fun v σ' => v = anDigest len cd nb B nt dy V tw hn ∧ RX G b tp sr len cd nb B nt dy V hI kn kd KV tw hn σ' ∧ Fr b (b + 40) σ σ')) := by
  obtain ⟨o0, hpg, htw, hth, hkp, hy1, hy2, hsp, hro, htp⟩ := id hX0
  obtain ⟨pf, p0, p1, p2, p3⟩ := id hpg
  obtain ⟨hwt, hnb, hok, bor, fa, fo, fn, e0, e1, e2, e3, e4, e5, e6⟩ := id htw
  obtain ⟨sd, fs, fh, fl, fr, ft, ⟨a0, a1, a2, a3, a4, a5⟩, hnt, hv⟩ := id hth
  refine ACt.intro (own := RX11) (nm := "digest") mk_X11_digest rfl rfl [some (.ref b), none, none, none, none] rfl (Nat.le_of_ble_eq_true rfl) (fun X hX hR => ?_)
  refine A_ldc2 (pc := 0) k_X11_234 hX dX11_digest_0 ?_
  refine A_lstore_n (pc := 3) (lv' := [_, _, _, _, _]) hX dX11_digest_3 (Nat.le_of_ble_eq_true rfl) rfl rfl ?_
  refine A_iconst (pc := 4) (v := (nI 0)) (by decide) hX dX11_digest_4 ?_
  refine A_istore_n (pc := 5) (lv' := [_, _, _, _, _]) hX dX11_digest_5 (Nat.le_of_ble_eq_true rfl) rfl rfl ?_
  suffices hl1 : ∀ (m i : Nat) (σ1 : aS) (v4 : Option Value), i ≤ nb → nb - i = m → RX G b tp sr len cd nb B nt dy V hI kn kd KV tw hn σ1 → Fr b (b + 40) σ σ1 → AA G X 0 0 6 [some (.ref b), some (.long (digB B nt V 797 i)), none, some (.int (nI i)), v4] [] σ1 from hl1 nb 0 σ none (Nat.zero_le _) rfl hX0 Fr.rf
  intro m
  induction m with
  | zero =>
    intro i σ1 v4 hi hm hX1 hF1
    have e : nb = i := by omega
    subst e
    have o1 := hX1.1
    obtain ⟨_, _, htw1, hth1, _⟩ := id hX1
    have hpg1 := hX1.2.1
    obtain ⟨_, _, _, bor1, fa1, fo1, fn1, e01, e11, e21, e31, e41, e51, e61⟩ := id htw1
    obtain ⟨sd1, fs1, fh1, fl1, fr1, ft1, ⟨a01, a11, a21, a31, a41, a51⟩, hnt1, hv1⟩ := id hth1
    obtain ⟨pf1, p01, p11, p21, p31⟩ := id hpg1
    refine A_iload_n (pc := 6) rfl hX dX11_digest_6 ?_
    refine A_aload_n (pc := 7) rfl hX dX11_digest_7 ?_
    refine A_getf (pc := 8) hX fl_X11_19_11 dX11_digest_8 (by repeat (first | assumption | exact aSet_s | exact aNew_s | refine lk_n ?_ (by omega) | refine lk_f (by assumption) ?_ (by omega) | refine lk_w ?_ (by omega))) (by exact rfl) ?_
    refine A_getf (pc := 11) hX fl_X11_73_8 dX11_digest_11 (by repeat (first | assumption | exact aSet_s | exact aNew_s | refine lk_n ?_ (by omega) | refine lk_f (by assumption) ?_ (by omega) | refine lk_w ?_ (by omega))) (by exact rfl) ?_
    refine A_icmp_ge (pc := 14) 53 hX dX11_digest_14 rfl (fun c14 => ?_) (fun c14 => ?_)
    · refine A_iconst (pc := 53) (v := (nI 0)) (by decide) hX dX11_digest_53 ?_
      refine A_istore_n (pc := 54) (lv' := [_, _, _, _, _]) hX dX11_digest_54 (Nat.le_of_ble_eq_true rfl) rfl rfl ?_
      suffices hl2 : ∀ (m i : Nat) (σ1 : aS) (v4 : Option Value), i ≤ nt → nt - i = m → RX G b tp sr len cd nb B nt dy V hI kn kd KV tw hn σ1 → Fr b (b + 40) σ σ1 → AA G X 0 0 55 [some (.ref b), some (.long (digT nb B V (digB B nt V 797 nb) i)), none, some (.int (nI i)), v4] [] σ1 from hl2 nt 0 σ1 _ (Nat.zero_le _) rfl hX1 hF1
      intro m
      induction m with
      | zero =>
        intro i σ1 v4 hi hm hX1 hF1
        have e : nt = i := by omega
        subst e
        have o1 := hX1.1
        obtain ⟨_, _, htw1, hth1, _⟩ := id hX1
        have hpg1 := hX1.2.1
        obtain ⟨_, _, _, bor1, fa1, fo1, fn1, e01, e11, e21, e31, e41, e51, e61⟩ := id htw1
        obtain ⟨sd1, fs1, fh1, fl1, fr1, ft1, ⟨a01, a11, a21, a31, a41, a51⟩, hnt1, hv1⟩ := id hth1
        obtain ⟨pf1, p01, p11, p21, p31⟩ := id hpg1
        refine A_iload_n (pc := 55) rfl hX dX11_digest_55 ?_
        refine A_aload_n (pc := 56) rfl hX dX11_digest_56 ?_
        refine A_getf (pc := 57) hX fl_X11_26_11 dX11_digest_57 (by repeat (first | assumption | exact aSet_s | exact aNew_s | refine lk_n ?_ (by omega) | refine lk_f (by assumption) ?_ (by omega) | refine lk_w ?_ (by omega))) (by exact rfl) ?_
        refine A_getf (pc := 60) hX fl_X11_133_7 dX11_digest_60 (by repeat (first | assumption | exact aSet_s | exact aNew_s | refine lk_n ?_ (by omega) | refine lk_f (by assumption) ?_ (by omega) | refine lk_w ?_ (by omega))) (by exact rfl) ?_
        refine A_icmp_ge (pc := 63) 79 hX dX11_digest_63 rfl (fun c63 => ?_) (fun c63 => ?_)
        · refine A_iconst (pc := 79) (v := (nI 0)) (by decide) hX dX11_digest_79 ?_
          refine A_istore_n (pc := 80) (lv' := [_, _, _, _, _]) hX dX11_digest_80 (Nat.le_of_ble_eq_true rfl) rfl rfl ?_
          suffices hl3 : ∀ (m i : Nat) (σ1 : aS) (v4 : Option Value), i ≤ len → len - i = m → RX G b tp sr len cd nb B nt dy V hI kn kd KV tw hn σ1 → Fr b (b + 40) σ σ1 → AA G X 0 0 81 [some (.ref b), some (.long (mixN (fun j => nI (cd j)) i (digT nb B V (digB B nt V 797 nb) nt))), none, some (.int (nI i)), v4] [] σ1 from hl3 len 0 σ1 _ (Nat.zero_le _) rfl hX1 hF1
          intro m
          induction m with
          | zero =>
            intro i σ1 v4 hi hm hX1 hF1
            have e : len = i := by omega
            subst e
            have o1 := hX1.1
            obtain ⟨_, _, htw1, hth1, _⟩ := id hX1
            have hpg1 := hX1.2.1
            obtain ⟨_, _, _, bor1, fa1, fo1, fn1, e01, e11, e21, e31, e41, e51, e61⟩ := id htw1
            obtain ⟨sd1, fs1, fh1, fl1, fr1, ft1, ⟨a01, a11, a21, a31, a41, a51⟩, hnt1, hv1⟩ := id hth1
            obtain ⟨pf1, p01, p11, p21, p31⟩ := id hpg1
            refine A_iload_n (pc := 81) rfl hX dX11_digest_81 ?_
            refine A_aload_n (pc := 82) rfl hX dX11_digest_82 ?_
            refine A_getf (pc := 83) hX fl_X11_10_11 dX11_digest_83 (by repeat (first | assumption | exact aSet_s | exact aNew_s | refine lk_n ?_ (by omega) | refine lk_f (by assumption) ?_ (by omega) | refine lk_w ?_ (by omega))) (by exact rfl) ?_
            refine A_getf (pc := 86) hX fl_X11_61_2 dX11_digest_86 (by repeat (first | assumption | exact aSet_s | exact aNew_s | refine lk_n ?_ (by omega) | refine lk_f (by assumption) ?_ (by omega) | refine lk_w ?_ (by omega))) (by exact rfl) ?_
            refine A_icmp_ge (pc := 89) 114 hX dX11_digest_89 rfl (fun c89 => ?_) (fun c89 => ?_)
            · refine A_iconst (pc := 114) (v := (nI 0)) (by decide) hX dX11_digest_114 ?_
              refine A_istore_n (pc := 115) (lv' := [_, _, _, _, _]) hX dX11_digest_115 (Nat.le_of_ble_eq_true rfl) rfl rfl ?_
              suffices hl4 : ∀ (m i : Nat) (σ1 : aS) (v4 : Option Value), i ≤ 8 → 8 - i = m → RX G b tp sr len cd nb B nt dy V hI kn kd KV tw hn σ1 → Fr b (b + 40) σ σ1 → AA G X 0 0 116 [some (.ref b), some (.long (mixN (fun c => ctN len nb nt dy V tw hn c) i (mixN (fun j => nI (cd j)) len (digT nb B V (digB B nt V 797 nb) nt)))), none, some (.int (nI i)), v4] [] σ1 from hl4 8 0 σ1 _ (Nat.zero_le _) rfl hX1 hF1
              intro m
              induction m with
              | zero =>
                intro i σ1 v4 hi hm hX1 hF1
                have e : 8 = i := by omega
                subst e
                refine A_iload_n (pc := 116) rfl hX dX11_digest_116 ?_
                refine A_bipush (pc := 117) (v := (nI 7)) (by decide) hX dX11_digest_117 ?_
                refine A_icmp_gt (pc := 119) 141 hX dX11_digest_119 rfl (fun c119 => ?_) (fun c119 => ?_)
                · refine A_lload_n (pc := 141) rfl hX dX11_digest_141 ?_
                  refine A_lret (pc := 142) hX hR dX11_digest_142 ?_
                  exact ⟨_, rfl, rfl, hX1, hF1⟩
                · exact absurd (by decide) c119
              | succ m ih4 =>
                intro i σ1 v4 hi hm hX1 hF1
                have hil : i < 8 := by omega
                have o1 := hX1.1
                obtain ⟨_, _, htw1, hth1, _⟩ := id hX1
                have hpg1 := hX1.2.1
                obtain ⟨_, _, _, bor1, fa1, fo1, fn1, e01, e11, e21, e31, e41, e51, e61⟩ := id htw1
                obtain ⟨sd1, fs1, fh1, fl1, fr1, ft1, ⟨a01, a11, a21, a31, a41, a51⟩, hnt1, hv1⟩ := id hth1
                obtain ⟨pf1, p01, p11, p21, p31⟩ := id hpg1
                refine A_iload_n (pc := 116) rfl hX dX11_digest_116 ?_
                refine A_bipush (pc := 117) (v := (nI 7)) (by decide) hX dX11_digest_117 ?_
                refine A_icmp_gt (pc := 119) 141 hX dX11_digest_119 rfl (fun c119 => ?_) (fun c119 => ?_)
                · exact absurd c119 (nI_nlt (by omega) (by decide))
                · refine A_ldc2 (pc := 122) k_X11_236 hX dX11_digest_122 ?_
                  refine A_lload_n (pc := 125) rfl hX dX11_digest_125 ?_
                  refine A_lmul (pc := 126) hX dX11_digest_126 ?_
                  refine A_aload_n (pc := 127) rfl hX dX11_digest_127 ?_
                  refine A_iload_n (pc := 128) rfl hX dX11_digest_128 ?_
                  refine A_V1d (pc := 129) hX mk_X11_count lv_X11_248 dX11_digest_129 (by repeat (first | assumption | exact aSet_s | exact aNew_s | refine lk_n ?_ (by omega) | refine lk_f (by assumption) ?_ (by omega) | refine lk_w ?_ (by omega))) (ct_count l G hX1 hV) rfl (Nat.le_of_ble_eq_true rfl) (Nat.le_of_ble_eq_true rfl) (Nat.le_of_ble_eq_true rfl) (Nat.le_of_ble_eq_true rfl) (Nat.le_of_ble_eq_true rfl) ?_
                  refine A_top (y := ctN len nb nt dy V tw hn i) (by rw [anCount, if_pos (inN_nI (by decide) hil), nI_clamp (by omega)]) ?_
                  refine A_i2l (pc := 132) hX dX11_digest_132 ?_
                  refine A_ladd (pc := 133) hX dX11_digest_133 ?_
                  refine A_lstore_n (pc := 134) (lv' := [_, _, _, _, _]) hX dX11_digest_134 (Nat.le_of_ble_eq_true rfl) rfl rfl ?_
                  refine A_iinc (pc := 135) (v := (nI (i + 1))) (lv' := [_, _, _, _, _]) hX dX11_digest_135 rfl (nI_succ i).symm rfl rfl ?_
                  refine A_goto (pc := 138) 116 hX dX11_digest_138 rfl ?_
                  exact ih4 (i + 1) σ1 _ (by omega) (by omega) hX1 hF1
            · exact absurd (nI_le (Nat.le_refl _) (by omega)) c89
          | succ m ih3 =>
            intro i σ1 v4 hi hm hX1 hF1
            have hil : i < len := by omega
            have o1 := hX1.1
            obtain ⟨_, _, htw1, hth1, _⟩ := id hX1
            have hpg1 := hX1.2.1
            obtain ⟨_, _, _, bor1, fa1, fo1, fn1, e01, e11, e21, e31, e41, e51, e61⟩ := id htw1
            obtain ⟨sd1, fs1, fh1, fl1, fr1, ft1, ⟨a01, a11, a21, a31, a41, a51⟩, hnt1, hv1⟩ := id hth1
            obtain ⟨pf1, p01, p11, p21, p31⟩ := id hpg1
            refine A_iload_n (pc := 81) rfl hX dX11_digest_81 ?_
            refine A_aload_n (pc := 82) rfl hX dX11_digest_82 ?_
            refine A_getf (pc := 83) hX fl_X11_10_11 dX11_digest_83 (by repeat (first | assumption | exact aSet_s | exact aNew_s | refine lk_n ?_ (by omega) | refine lk_f (by assumption) ?_ (by omega) | refine lk_w ?_ (by omega))) (by exact rfl) ?_
            refine A_getf (pc := 86) hX fl_X11_61_2 dX11_digest_86 (by repeat (first | assumption | exact aSet_s | exact aNew_s | refine lk_n ?_ (by omega) | refine lk_f (by assumption) ?_ (by omega) | refine lk_w ?_ (by omega))) (by exact rfl) ?_
            refine A_icmp_ge (pc := 89) 114 hX dX11_digest_89 rfl (fun c89 => ?_) (fun c89 => ?_)
            · exact absurd c89 (nI_ge hil (by omega))
            · refine A_ldc2 (pc := 92) k_X11_236 hX dX11_digest_92 ?_
              refine A_lload_n (pc := 95) rfl hX dX11_digest_95 ?_
              refine A_lmul (pc := 96) hX dX11_digest_96 ?_
              refine A_aload_n (pc := 97) rfl hX dX11_digest_97 ?_
              refine A_getf (pc := 98) hX fl_X11_10_11 dX11_digest_98 (by repeat (first | assumption | exact aSet_s | exact aNew_s | refine lk_n ?_ (by omega) | refine lk_f (by assumption) ?_ (by omega) | refine lk_w ?_ (by omega))) (by exact rfl) ?_
              refine A_iload_n (pc := 101) rfl hX dX11_digest_101 ?_
              refine A_V1d (pc := 102) hX mk_X2_codeAt lv_X11_245 dX11_digest_102 (by repeat (first | assumption | exact aSet_s | exact aNew_s | refine lk_n ?_ (by omega) | refine lk_f (by assumption) ?_ (by omega) | refine lk_w ?_ (by omega))) (ct_Pg_codeAt l G hpg1 hil) rfl (Nat.le_of_ble_eq_true rfl) (Nat.le_of_ble_eq_true rfl) (Nat.le_of_ble_eq_true rfl) (Nat.le_of_ble_eq_true rfl) (Nat.le_of_ble_eq_true rfl) ?_
              refine A_i2l (pc := 105) hX dX11_digest_105 ?_
              refine A_ladd (pc := 106) hX dX11_digest_106 ?_
              refine A_lstore_n (pc := 107) (lv' := [_, _, _, _, _]) hX dX11_digest_107 (Nat.le_of_ble_eq_true rfl) rfl rfl ?_
              refine A_iinc (pc := 108) (v := (nI (i + 1))) (lv' := [_, _, _, _, _]) hX dX11_digest_108 rfl (nI_succ i).symm rfl rfl ?_
              refine A_goto (pc := 111) 81 hX dX11_digest_111 rfl ?_
              exact ih3 (i + 1) σ1 _ (by omega) (by omega) hX1 hF1
        · exact absurd (nI_le (Nat.le_refl _) (by omega)) c63
      | succ m ih2 =>
        intro i σ1 v4 hi hm hX1 hF1
        have hil : i < nt := by omega
        have o1 := hX1.1
        obtain ⟨_, _, htw1, hth1, _⟩ := id hX1
        have hpg1 := hX1.2.1
        obtain ⟨_, _, _, bor1, fa1, fo1, fn1, e01, e11, e21, e31, e41, e51, e61⟩ := id htw1
        obtain ⟨sd1, fs1, fh1, fl1, fr1, ft1, ⟨a01, a11, a21, a31, a41, a51⟩, hnt1, hv1⟩ := id hth1
        obtain ⟨pf1, p01, p11, p21, p31⟩ := id hpg1
        refine A_iload_n (pc := 55) rfl hX dX11_digest_55 ?_
        refine A_aload_n (pc := 56) rfl hX dX11_digest_56 ?_
        refine A_getf (pc := 57) hX fl_X11_26_11 dX11_digest_57 (by repeat (first | assumption | exact aSet_s | exact aNew_s | refine lk_n ?_ (by omega) | refine lk_f (by assumption) ?_ (by omega) | refine lk_w ?_ (by omega))) (by exact rfl) ?_
        refine A_getf (pc := 60) hX fl_X11_133_7 dX11_digest_60 (by repeat (first | assumption | exact aSet_s | exact aNew_s | refine lk_n ?_ (by omega) | refine lk_f (by assumption) ?_ (by omega) | refine lk_w ?_ (by omega))) (by exact rfl) ?_
        refine A_icmp_ge (pc := 63) 79 hX dX11_digest_63 rfl (fun c63 => ?_) (fun c63 => ?_)
        · exact absurd c63 (nI_ge hil (by omega))
        · refine A_aload_n (pc := 66) rfl hX dX11_digest_66 ?_
          refine A_lload_n (pc := 67) rfl hX dX11_digest_67 ?_
          refine A_iload_n (pc := 68) rfl hX dX11_digest_68 ?_
          refine A_V2j (pc := 69) hX mk_X11_mixedThing lv_X11_241 dX11_digest_69 (by repeat (first | assumption | exact aSet_s | exact aNew_s | refine lk_n ?_ (by omega) | refine lk_f (by assumption) ?_ (by omega) | refine lk_w ?_ (by omega))) (ct_mixedThing l G hX1 hV hil) rfl (Nat.le_of_ble_eq_true rfl) (Nat.le_of_ble_eq_true rfl) (Nat.le_of_ble_eq_true rfl) (Nat.le_of_ble_eq_true rfl) (Nat.le_of_ble_eq_true rfl) (fun x69 σ69 h69 => ?_)
          obtain ⟨rfl, hX69, hf69⟩ := h69
          refine A_lstore_n (pc := 72) (lv' := [_, _, _, _, _]) hX dX11_digest_72 (Nat.le_of_ble_eq_true rfl) rfl rfl ?_
          refine A_iinc (pc := 73) (v := (nI (i + 1))) (lv' := [_, _, _, _, _]) hX dX11_digest_73 rfl (nI_succ i).symm rfl rfl ?_
          refine A_goto (pc := 76) 55 hX dX11_digest_76 rfl ?_
          exact ih2 (i + 1) σ69 _ (by omega) (by omega) hX69 (hF1.tr hf69)
    · exact absurd (nI_le (Nat.le_refl _) (by omega)) c14
  | succ m ih =>
    intro i σ1 v4 hi hm hX1 hF1
    have hil : i < nb := by omega
    have o1 := hX1.1
    obtain ⟨_, _, htw1, hth1, _⟩ := id hX1
    have hpg1 := hX1.2.1
    obtain ⟨_, _, _, bor1, fa1, fo1, fn1, e01, e11, e21, e31, e41, e51, e61⟩ := id htw1
    obtain ⟨sd1, fs1, fh1, fl1, fr1, ft1, ⟨a01, a11, a21, a31, a41, a51⟩, hnt1, hv1⟩ := id hth1
    obtain ⟨pf1, p01, p11, p21, p31⟩ := id hpg1
    refine A_iload_n (pc := 6) rfl hX dX11_digest_6 ?_
    refine A_aload_n (pc := 7) rfl hX dX11_digest_7 ?_
    refine A_getf (pc := 8) hX fl_X11_19_11 dX11_digest_8 (by repeat (first | assumption | exact aSet_s | exact aNew_s | refine lk_n ?_ (by omega) | refine lk_f (by assumption) ?_ (by omega) | refine lk_w ?_ (by omega))) (by exact rfl) ?_
    refine A_getf (pc := 11) hX fl_X11_73_8 dX11_digest_11 (by repeat (first | assumption | exact aSet_s | exact aNew_s | refine lk_n ?_ (by omega) | refine lk_f (by assumption) ?_ (by omega) | refine lk_w ?_ (by omega))) (by exact rfl) ?_
    refine A_icmp_ge (pc := 14) 53 hX dX11_digest_14 rfl (fun c14 => ?_) (fun c14 => ?_)
    · exact absurd c14 (nI_ge hil (by omega))
    · refine A_iconst (pc := 17) (v := (nI 0)) (by decide) hX dX11_digest_17 ?_
      refine A_istore (pc := 18) (lv' := [_, _, _, _, _]) hX dX11_digest_18 (Nat.le_of_ble_eq_true rfl) rfl rfl ?_
      suffices hw : ∀ (q c : Nat), c ≤ 6 → 6 - c = q → AA G X 0 0 20 [some (.ref b), some (.long (mixN (fun c => abN B nt V i c) c (digB B nt V 797 i))), none, some (.int (nI i)), some (.int (nI c))] [] σ1 from hw 6 0 (Nat.zero_le _) rfl
      intro q
      induction q with
      | zero =>
        intro c hc hq
        have e : c = 6 := by omega
        subst e
        refine A_iload (pc := 20) rfl hX dX11_digest_20 ?_
        refine A_iconst (pc := 22) (v := (nI 5)) (by decide) hX dX11_digest_22 ?_
        refine A_icmp_gt (pc := 23) 47 hX dX11_digest_23 rfl (fun c23 => ?_) (fun c23 => ?_)
        · refine A_iinc (pc := 47) (v := (nI (i + 1))) (lv' := [_, _, _, _, _]) hX dX11_digest_47 rfl (nI_succ i).symm rfl rfl ?_
          refine A_goto (pc := 50) 6 hX dX11_digest_50 rfl ?_
          exact ih (i + 1) σ1 _ (by omega) (by omega) hX1 hF1
        · exact absurd (by decide) c23
      | succ q ihq =>
        intro c hc hq
        have hcl : c < 6 := by omega
        refine A_iload (pc := 20) rfl hX dX11_digest_20 ?_
        refine A_iconst (pc := 22) (v := (nI 5)) (by decide) hX dX11_digest_22 ?_
        refine A_icmp_gt (pc := 23) 47 hX dX11_digest_23 rfl (fun c23 => ?_) (fun c23 => ?_)
        · exact absurd c23 (nI_nlt (by omega) (by decide))
        · refine A_ldc2 (pc := 26) k_X11_236 hX dX11_digest_26 ?_
          refine A_lload_n (pc := 29) rfl hX dX11_digest_29 ?_
          refine A_lmul (pc := 30) hX dX11_digest_30 ?_
          refine A_aload_n (pc := 31) rfl hX dX11_digest_31 ?_
          refine A_iload_n (pc := 32) rfl hX dX11_digest_32 ?_
          refine A_iload (pc := 33) rfl hX dX11_digest_33 ?_
          refine A_V2d (pc := 35) hX mk_X11_about lv_X11_238 dX11_digest_35 (by repeat (first | assumption | exact aSet_s | exact aNew_s | refine lk_n ?_ (by omega) | refine lk_f (by assumption) ?_ (by omega) | refine lk_w ?_ (by omega))) (ct_about l G hX1) rfl (Nat.le_of_ble_eq_true rfl) (Nat.le_of_ble_eq_true rfl) (Nat.le_of_ble_eq_true rfl) (Nat.le_of_ble_eq_true rfl) (Nat.le_of_ble_eq_true rfl) ?_
          refine A_top (y := abN B nt V i c) (an2_in (by omega) (by decide) hil hcl) ?_
          refine A_i2l (pc := 38) hX dX11_digest_38 ?_
          refine A_ladd (pc := 39) hX dX11_digest_39 ?_
          refine A_lstore_n (pc := 40) (lv' := [_, _, _, _, _]) hX dX11_digest_40 (Nat.le_of_ble_eq_true rfl) rfl rfl ?_
          refine A_iinc (pc := 41) (v := (nI (c + 1))) (lv' := [_, _, _, _, _]) hX dX11_digest_41 rfl (nI_succ c).symm rfl rfl ?_
          refine A_goto (pc := 44) 20 hX dX11_digest_44 rfl ?_
          exact ihq (c + 1) (by omega) (by omega)
theorem RTw.kept0 {G : aG} {w tp tp' : Nat} {B : BorT} {σ σ' : aS} (h : RTw G w tp 0 B σ) (hk : ∀ a, w ≤ a → a < w + 5 → σ'.2 a = σ.2 a) (ht : w + 5 ≤ tp') : RTw G w tp' 0 B σ' := by
  obtain ⟨h1, h2, h3, bor, fa, fo, fn, e0, e1, e2, e3, e4, e5, e6⟩ := h
  exact ⟨ht, h2, h3, bor, fa, fo, fn, (hk w (by omega) (by omega)).trans e0, (hk _ (by omega) (by omega)).trans e1, (hk _ (by omega) (by omega)).trans e2, (hk _ (by omega) (by omega)).trans e3, (hk _ (by omega) (by omega)).trans e4, fun b hb => absurd hb (Nat.not_lt_zero b), e6⟩
set_option maxRecDepth 100000 in
set_option maxHeartbeats 1000000 in
theorem ct_Lc_init (l : Launch) (G : aG) {b : Nat} {σ : aS} (ho : σ.2 b = some (aO 11 [.null, .null, .null, .null, .null, .null, .null, .null, .int 0, .int 0, .int 0])) (hz : σ.1 = b + 1) : ACt l G yX11_init cX11_init 1 (none) 4 39 10390 [.ref b] σ (vP (fun σ' => σ'.1 = b + 40 ∧ (∀ a, a < b → σ'.2 a = σ.2 a) ∧ RX G b (b + 40) 0 0 (fun _ => 0) 0 (fun _ => (0, 0, 0, 0)) 0 0 (fun _ => (0, 0, 0, 0)) false 0 0 (fun _ => (0, 0, 0, 0)) 0 0 σ')) := by
  have hl : ∀ a, a < b → σ.2 a = σ.2 a := fun _ _ => rfl
  have hls := hl
  refine ACt.intro (own := RX11) (nm := "<init>") mk_X11_init rfl rfl [some (.ref b)] rfl (Nat.le_of_ble_eq_true rfl) (fun X hX hR => ?_)
  refine A_aload_n (pc := 0) rfl hX dX11_init_0 ?_
  refine A_objInit (pc := 1) hX lo_X11_1 dX11_init_1 rfl (Nat.le_of_ble_eq_true rfl) (Nat.le_of_ble_eq_true rfl) ?_
  refine A_aload_n (pc := 4) rfl hX dX11_init_4 ?_
  refine A_new (pc := 5) (fs := [.null, .int 0]) hX nw_X11_7 dX11_init_5 nf_2 (Nat.le_of_ble_eq_true rfl) (Nat.le_of_ble_eq_true rfl) ?_
  rw [hz]
  refine A_dup (pc := 8) rfl hX dX11_init_8 ?_
  refine A_I0 (pc := 9) hX mk_X2_init li_X11_9 dX11_init_9 (ct_Pg_init l G (p := b + 1) (aNew_s' hz.symm) (by show b + 1 < σ.1 + 1; omega)) rfl (Nat.le_of_ble_eq_true rfl) (Nat.le_of_ble_eq_true rfl) (Nat.le_of_ble_eq_true rfl) (Nat.le_of_ble_eq_true rfl) (Nat.le_of_ble_eq_true rfl) (fun x9 σ9 h9 => ?_)
  obtain ⟨rfl, y1, y2, y3, y4⟩ := h9
  have e0 : σ9.1 = b + 3 := by rw [y1]; show σ.1 + 1 + 1 = _; omega
  have q4 : ∀ a, a < b + 1 → σ9.2 a = σ.2 a := fun a h => (y2 a (by show a < σ.1 + 1; omega) (by omega)).trans (aNew_n (by omega))
  have h9 : RPg G (b + 1) 0 (fun _ => 0) σ9 := ⟨fun _ => 0, y3.trans (by show some (aO 2 [.ref (σ.1 + 1), .int 0]) = _; rw [hz]; rfl), by have y5 : σ9.2 (σ.1 + 1) = _ := y4; rw [hz] at y5; exact y5, by omega, fun j hj => absurd hj (Nat.not_lt_zero j)⟩
  have o1 := (q4 b (by omega)).trans ho
  have hl1 : ∀ a, a < b → σ9.2 a = σ.2 a := fun a h => (q4 a (by omega)).trans (hl a h)
  have hfb : ∀ e, Fr b (b + 1) σ9 (aSet σ9 b e) := fun e => Fr.rf.set (Nat.le_refl _) (Nat.lt_succ_self _)
  refine A_putF (pc := 12) (fs' := [_, _, _, _, _, _, _, _, _, _, _]) hX pl_X11_10_11 dX11_init_12 (by repeat (first | assumption | exact aSet_s | exact aNew_s | refine lk_n ?_ (by omega) | refine lk_f (by assumption) ?_ (by omega) | refine lk_w ?_ (by omega))) (by exact Nat.le_of_ble_eq_true rfl) (by exact rfl) rfl rfl ?_
  refine A_gen (fun z => z.1 = b + 3 ∧ (∀ a, a < b → z.2 a = σ.2 a) ∧ z.2 b = some (aO 11 [.ref (b + 1), .null, .null, .null, .null, .null, .null, .null, .int 0, .int 0, .int 0]) ∧ RPg G (b + 1) 0 (fun _ => 0) z) ⟨e0, fun a h => (aSet_n (by omega)).trans (hl1 a h), aSet_s, (h9).fr (hfb _) (by omega)⟩ (fun σ15 hg => ?_)
  clear hz hl ho
  obtain ⟨hz, hl, ho, r0⟩ := hg
  refine A_aload_n (pc := 15) rfl hX dX11_init_15 ?_
  refine A_new (pc := 16) (fs := [.null, .null, .null, .null, .int 0]) hX nw_X11_16 dX11_init_16 nf_8 (Nat.le_of_ble_eq_true rfl) (Nat.le_of_ble_eq_true rfl) ?_
  rw [hz]
  refine A_dup (pc := 19) rfl hX dX11_init_19 ?_
  refine A_I0 (pc := 20) hX mk_X8_init li_X11_18 dX11_init_20 (ct_Tw_init l G (w := b + 3) (aNew_s' hz.symm) (congrArg (· + 1) hz)) rfl (Nat.le_of_ble_eq_true rfl) (Nat.le_of_ble_eq_true rfl) (Nat.le_of_ble_eq_true rfl) (Nat.le_of_ble_eq_true rfl) (Nat.le_of_ble_eq_true rfl) (fun x20 σ20 h20 => ?_)
  obtain ⟨rfl, e0, q2, h20⟩ := h20
  have q4 : ∀ a, a < b + 3 → σ20.2 a = σ15.2 a := fun a h => (q2 a h).trans (aNew_n (by omega))
  have h20 : RTw G (b + 3) (b + 40) 0 (fun _ => (0, 0, 0, 0)) σ20 := h20.kept0 (fun _ _ _ => rfl) (by omega)
  have o1 := (q4 b (by omega)).trans ho
  have hl1 : ∀ a, a < b → σ20.2 a = σ.2 a := fun a h => (q4 a (by omega)).trans (hl a h)
  have hfb : ∀ e, Fr b (b + 1) σ20 (aSet σ20 b e) := fun e => Fr.rf.set (Nat.le_refl _) (Nat.lt_succ_self _)
  refine A_putF (pc := 23) (fs' := [_, _, _, _, _, _, _, _, _, _, _]) hX pl_X11_19_11 dX11_init_23 (by repeat (first | assumption | exact aSet_s | exact aNew_s | refine lk_n ?_ (by omega) | refine lk_f (by assumption) ?_ (by omega) | refine lk_w ?_ (by omega))) (by exact Nat.le_of_ble_eq_true rfl) (by exact rfl) rfl rfl ?_
  refine A_gen (fun z => z.1 = b + 8 ∧ (∀ a, a < b → z.2 a = σ.2 a) ∧ z.2 b = some (aO 11 [.ref (b + 1), .ref (b + 3), .null, .null, .null, .null, .null, .null, .int 0, .int 0, .int 0]) ∧ RPg G (b + 1) 0 (fun _ => 0) z ∧ RTw G (b + 3) (b + 40) 0 (fun _ => (0, 0, 0, 0)) z) ⟨e0, fun a h => (aSet_n (by omega)).trans (hl1 a h), aSet_s, (r0.kept (fun a _ _ => q4 a (by omega))).fr (hfb _) (by omega), (h20).fr (hfb _) (by omega) (by omega)⟩ (fun σ26 hg => ?_)
  clear hz hl ho
  obtain ⟨hz, hl, ho, r0, r1⟩ := hg
  refine A_aload_n (pc := 26) rfl hX dX11_init_26 ?_
  refine A_new (pc := 27) (fs := [.null, .null, .null, .null, .int 0, .int 0, .null, .int 0]) hX nw_X11_23 dX11_init_27 nf_7 (Nat.le_of_ble_eq_true rfl) (Nat.le_of_ble_eq_true rfl) ?_
  rw [hz]
  refine A_dup (pc := 30) rfl hX dX11_init_30 ?_
  refine A_I0 (pc := 31) hX mk_X7_init li_X11_25 dX11_init_31 (ct_Th_init l G (t := b + 8) (aNew_s' hz.symm) (congrArg (· + 1) hz)) rfl (Nat.le_of_ble_eq_true rfl) (Nat.le_of_ble_eq_true rfl) (Nat.le_of_ble_eq_true rfl) (Nat.le_of_ble_eq_true rfl) (Nat.le_of_ble_eq_true rfl) (fun x31 σ31 h31 => ?_)
  obtain ⟨rfl, e0, q2, h31⟩ := h31
  have q4 : ∀ a, a < b + 8 → σ31.2 a = σ26.2 a := fun a h => (q2 a h).trans (aNew_n (by omega))
  have o1 := (q4 b (by omega)).trans ho
  have hl1 : ∀ a, a < b → σ31.2 a = σ.2 a := fun a h => (q4 a (by omega)).trans (hl a h)
  have hfb : ∀ e, Fr b (b + 1) σ31 (aSet σ31 b e) := fun e => Fr.rf.set (Nat.le_refl _) (Nat.lt_succ_self _)
  refine A_putF (pc := 34) (fs' := [_, _, _, _, _, _, _, _, _, _, _]) hX pl_X11_26_11 dX11_init_34 (by repeat (first | assumption | exact aSet_s | exact aNew_s | refine lk_n ?_ (by omega) | refine lk_f (by assumption) ?_ (by omega) | refine lk_w ?_ (by omega))) (by exact Nat.le_of_ble_eq_true rfl) (by exact rfl) rfl rfl ?_
  refine A_gen (fun z => z.1 = b + 14 ∧ (∀ a, a < b → z.2 a = σ.2 a) ∧ z.2 b = some (aO 11 [.ref (b + 1), .ref (b + 3), .ref (b + 8), .null, .null, .null, .null, .null, .int 0, .int 0, .int 0]) ∧ RPg G (b + 1) 0 (fun _ => 0) z ∧ RTw G (b + 3) (b + 40) 0 (fun _ => (0, 0, 0, 0)) z ∧ RTh G (b + 8) 0 0 (fun _ => (0, 0, 0, 0)) z) ⟨e0, fun a h => (aSet_n (by omega)).trans (hl1 a h), aSet_s, (r0.kept (fun a _ _ => q4 a (by omega))).fr (hfb _) (by omega), (r1.kept0 (fun a _ _ => q4 a (by omega)) (by omega)).fr (hfb _) (by omega) (by omega), (h31).fr (hfb _) (by omega)⟩ (fun σ37 hg => ?_)
  clear hz hl ho
  obtain ⟨hz, hl, ho, r0, r1, r2⟩ := hg
  refine A_aload_n (pc := 37) rfl hX dX11_init_37 ?_
  refine A_new (pc := 38) (fs := [.null, .null, .null, .null, .int 0, .int 0, .null, .int 0]) hX nw_X11_23 dX11_init_38 nf_7 (Nat.le_of_ble_eq_true rfl) (Nat.le_of_ble_eq_true rfl) ?_
  rw [hz]
  refine A_dup (pc := 41) rfl hX dX11_init_41 ?_
  refine A_I0 (pc := 42) hX mk_X7_init li_X11_25 dX11_init_42 (ct_Th_init l G (t := b + 14) (aNew_s' hz.symm) (congrArg (· + 1) hz)) rfl (Nat.le_of_ble_eq_true rfl) (Nat.le_of_ble_eq_true rfl) (Nat.le_of_ble_eq_true rfl) (Nat.le_of_ble_eq_true rfl) (Nat.le_of_ble_eq_true rfl) (fun x42 σ42 h42 => ?_)
  obtain ⟨rfl, e0, q2, h42⟩ := h42
  have q4 : ∀ a, a < b + 14 → σ42.2 a = σ37.2 a := fun a h => (q2 a h).trans (aNew_n (by omega))
  have o1 := (q4 b (by omega)).trans ho
  have hl1 : ∀ a, a < b → σ42.2 a = σ.2 a := fun a h => (q4 a (by omega)).trans (hl a h)
  have hfb : ∀ e, Fr b (b + 1) σ42 (aSet σ42 b e) := fun e => Fr.rf.set (Nat.le_refl _) (Nat.lt_succ_self _)
  refine A_putF (pc := 45) (fs' := [_, _, _, _, _, _, _, _, _, _, _]) hX pl_X11_30_11 dX11_init_45 (by repeat (first | assumption | exact aSet_s | exact aNew_s | refine lk_n ?_ (by omega) | refine lk_f (by assumption) ?_ (by omega) | refine lk_w ?_ (by omega))) (by exact Nat.le_of_ble_eq_true rfl) (by exact rfl) rfl rfl ?_
  refine A_gen (fun z => z.1 = b + 20 ∧ (∀ a, a < b → z.2 a = σ.2 a) ∧ z.2 b = some (aO 11 [.ref (b + 1), .ref (b + 3), .ref (b + 8), .ref (b + 14), .null, .null, .null, .null, .int 0, .int 0, .int 0]) ∧ RPg G (b + 1) 0 (fun _ => 0) z ∧ RTw G (b + 3) (b + 40) 0 (fun _ => (0, 0, 0, 0)) z ∧ RTh G (b + 8) 0 0 (fun _ => (0, 0, 0, 0)) z ∧ RTh G (b + 14) 0 0 (fun _ => (0, 0, 0, 0)) z) ⟨e0, fun a h => (aSet_n (by omega)).trans (hl1 a h), aSet_s, (r0.kept (fun a _ _ => q4 a (by omega))).fr (hfb _) (by omega), (r1.kept0 (fun a _ _ => q4 a (by omega)) (by omega)).fr (hfb _) (by omega) (by omega), (r2.kept (fun a _ _ => q4 a (by omega))).fr (hfb _) (by omega), (h42).fr (hfb _) (by omega)⟩ (fun σ48 hg => ?_)
  clear hz hl ho
  obtain ⟨hz, hl, ho, r0, r1, r2, r3⟩ := hg
  refine A_aload_n (pc := 48) rfl hX dX11_init_48 ?_
  refine A_new (pc := 49) (fs := [.null, .int 0, .null, .null, .null, .null, .null, .int 0, .int 0]) hX nw_X11_33 dX11_init_49 nf_10 (Nat.le_of_ble_eq_true rfl) (Nat.le_of_ble_eq_true rfl) ?_
  rw [hz]
  refine A_dup (pc := 52) rfl hX dX11_init_52 ?_
  refine A_aload_n (pc := 53) rfl hX dX11_init_53 ?_
  refine A_getf (pc := 54) hX fl_X11_19_11 dX11_init_54 (by repeat (first | assumption | exact aSet_s | exact aNew_s | refine lk_n ?_ (by omega) | refine lk_f (by assumption) ?_ (by omega) | refine lk_w ?_ (by omega))) (by exact rfl) ?_
  refine A_iconst (pc := 57) (v := (nI 0)) (by decide) hX dX11_init_57 ?_
  refine A_top (y := bI false) (by decide) ?_
  refine A_I2 (pc := 58) hX mk_X10_init li_X11_35 dX11_init_58 (ct_Wy_init l G (y := b + 20) (w := b + 3) (by_ := false) (aNew_s' hz.symm) (congrArg (· + 1) hz)) rfl (Nat.le_of_ble_eq_true rfl) (Nat.le_of_ble_eq_true rfl) (Nat.le_of_ble_eq_true rfl) (Nat.le_of_ble_eq_true rfl) (Nat.le_of_ble_eq_true rfl) (fun x58 σ58 h58 => ?_)
  obtain ⟨rfl, e0, q2, h58⟩ := h58
  have q4 : ∀ a, a < b + 20 → σ58.2 a = σ48.2 a := fun a h => (q2 a h).trans (aNew_n (by omega))
  have o1 := (q4 b (by omega)).trans ho
  have hl1 : ∀ a, a < b → σ58.2 a = σ.2 a := fun a h => (q4 a (by omega)).trans (hl a h)
  have hfb : ∀ e, Fr b (b + 1) σ58 (aSet σ58 b e) := fun e => Fr.rf.set (Nat.le_refl _) (Nat.lt_succ_self _)
  refine A_putF (pc := 61) (fs' := [_, _, _, _, _, _, _, _, _, _, _]) hX pl_X11_38_11 dX11_init_61 (by repeat (first | assumption | exact aSet_s | exact aNew_s | refine lk_n ?_ (by omega) | refine lk_f (by assumption) ?_ (by omega) | refine lk_w ?_ (by omega))) (by exact Nat.le_of_ble_eq_true rfl) (by exact rfl) rfl rfl ?_
  refine A_gen (fun z => z.1 = b + 26 ∧ (∀ a, a < b → z.2 a = σ.2 a) ∧ z.2 b = some (aO 11 [.ref (b + 1), .ref (b + 3), .ref (b + 8), .ref (b + 14), .ref (b + 20), .null, .null, .null, .int 0, .int 0, .int 0]) ∧ RPg G (b + 1) 0 (fun _ => 0) z ∧ RTw G (b + 3) (b + 40) 0 (fun _ => (0, 0, 0, 0)) z ∧ RTh G (b + 8) 0 0 (fun _ => (0, 0, 0, 0)) z ∧ RTh G (b + 14) 0 0 (fun _ => (0, 0, 0, 0)) z ∧ (∀ nb B, RWs G (b + 20) (b + 3) false nb B z)) ⟨e0, fun a h => (aSet_n (by omega)).trans (hl1 a h), aSet_s, (r0.kept (fun a _ _ => q4 a (by omega))).fr (hfb _) (by omega), (r1.kept0 (fun a _ _ => q4 a (by omega)) (by omega)).fr (hfb _) (by omega) (by omega), (r2.kept (fun a _ _ => q4 a (by omega))).fr (hfb _) (by omega), (r3.kept (fun a _ _ => q4 a (by omega))).fr (hfb _) (by omega), fun nb B => ((h58 nb B)).fr (hfb _) (by omega)⟩ (fun σ64 hg => ?_)
  clear hz hl ho
  obtain ⟨hz, hl, ho, r0, r1, r2, r3, r4⟩ := hg
  refine A_aload_n (pc := 64) rfl hX dX11_init_64 ?_
  refine A_new (pc := 65) (fs := [.null, .int 0, .null, .null, .null, .null, .null, .int 0, .int 0]) hX nw_X11_33 dX11_init_65 nf_10 (Nat.le_of_ble_eq_true rfl) (Nat.le_of_ble_eq_true rfl) ?_
  rw [hz]
  refine A_dup (pc := 68) rfl hX dX11_init_68 ?_
  refine A_aload_n (pc := 69) rfl hX dX11_init_69 ?_
  refine A_getf (pc := 70) hX fl_X11_19_11 dX11_init_70 (by repeat (first | assumption | exact aSet_s | exact aNew_s | refine lk_n ?_ (by omega) | refine lk_f (by assumption) ?_ (by omega) | refine lk_w ?_ (by omega))) (by exact rfl) ?_
  refine A_iconst (pc := 73) (v := (nI 1)) (by decide) hX dX11_init_73 ?_
  refine A_top (y := bI true) (by decide) ?_
  refine A_I2 (pc := 74) hX mk_X10_init li_X11_35 dX11_init_74 (ct_Wy_init l G (y := b + 26) (w := b + 3) (by_ := true) (aNew_s' hz.symm) (congrArg (· + 1) hz)) rfl (Nat.le_of_ble_eq_true rfl) (Nat.le_of_ble_eq_true rfl) (Nat.le_of_ble_eq_true rfl) (Nat.le_of_ble_eq_true rfl) (Nat.le_of_ble_eq_true rfl) (fun x74 σ74 h74 => ?_)
  obtain ⟨rfl, e0, q2, h74⟩ := h74
  have q4 : ∀ a, a < b + 26 → σ74.2 a = σ64.2 a := fun a h => (q2 a h).trans (aNew_n (by omega))
  have o1 := (q4 b (by omega)).trans ho
  have hl1 : ∀ a, a < b → σ74.2 a = σ.2 a := fun a h => (q4 a (by omega)).trans (hl a h)
  have hfb : ∀ e, Fr b (b + 1) σ74 (aSet σ74 b e) := fun e => Fr.rf.set (Nat.le_refl _) (Nat.lt_succ_self _)
  refine A_putF (pc := 77) (fs' := [_, _, _, _, _, _, _, _, _, _, _]) hX pl_X11_42_11 dX11_init_77 (by repeat (first | assumption | exact aSet_s | exact aNew_s | refine lk_n ?_ (by omega) | refine lk_f (by assumption) ?_ (by omega) | refine lk_w ?_ (by omega))) (by exact Nat.le_of_ble_eq_true rfl) (by exact rfl) rfl rfl ?_
  refine A_gen (fun z => z.1 = b + 32 ∧ (∀ a, a < b → z.2 a = σ.2 a) ∧ z.2 b = some (aO 11 [.ref (b + 1), .ref (b + 3), .ref (b + 8), .ref (b + 14), .ref (b + 20), .ref (b + 26), .null, .null, .int 0, .int 0, .int 0]) ∧ RPg G (b + 1) 0 (fun _ => 0) z ∧ RTw G (b + 3) (b + 40) 0 (fun _ => (0, 0, 0, 0)) z ∧ RTh G (b + 8) 0 0 (fun _ => (0, 0, 0, 0)) z ∧ RTh G (b + 14) 0 0 (fun _ => (0, 0, 0, 0)) z ∧ (∀ nb B, RWs G (b + 20) (b + 3) false nb B z) ∧ (∀ nb B, RWs G (b + 26) (b + 3) true nb B z)) ⟨e0, fun a h => (aSet_n (by omega)).trans (hl1 a h), aSet_s, (r0.kept (fun a _ _ => q4 a (by omega))).fr (hfb _) (by omega), (r1.kept0 (fun a _ _ => q4 a (by omega)) (by omega)).fr (hfb _) (by omega) (by omega), (r2.kept (fun a _ _ => q4 a (by omega))).fr (hfb _) (by omega), (r3.kept (fun a _ _ => q4 a (by omega))).fr (hfb _) (by omega), fun nb B => ((r4 nb B).kept (fun a _ _ => q4 a (by omega))).fr (hfb _) (by omega), fun nb B => ((h74 nb B)).fr (hfb _) (by omega)⟩ (fun σ80 hg => ?_)
  clear hz hl ho
  obtain ⟨hz, hl, ho, r0, r1, r2, r3, r4, r5⟩ := hg
  refine A_aload_n (pc := 80) rfl hX dX11_init_80 ?_
  refine A_new (pc := 81) (fs := [.null, .null, .null, .int 0]) hX nw_X11_45 dX11_init_81 nf_5 (Nat.le_of_ble_eq_true rfl) (Nat.le_of_ble_eq_true rfl) ?_
  rw [hz]
  refine A_dup (pc := 84) rfl hX dX11_init_84 ?_
  refine A_aload_n (pc := 85) rfl hX dX11_init_85 ?_
  refine A_getf (pc := 86) hX fl_X11_19_11 dX11_init_86 (by repeat (first | assumption | exact aSet_s | exact aNew_s | refine lk_n ?_ (by omega) | refine lk_f (by assumption) ?_ (by omega) | refine lk_w ?_ (by omega))) (by exact rfl) ?_
  refine A_I1 (pc := 89) hX mk_X5_init li_X11_47 dX11_init_89 (ct_Sp_init l G (y := b + 32) (w := b + 3) (aNew_s' hz.symm) (congrArg (· + 1) hz)) rfl (Nat.le_of_ble_eq_true rfl) (Nat.le_of_ble_eq_true rfl) (Nat.le_of_ble_eq_true rfl) (Nat.le_of_ble_eq_true rfl) (Nat.le_of_ble_eq_true rfl) (fun x89 σ89 h89 => ?_)
  obtain ⟨rfl, e0, q2, h89⟩ := h89
  have q4 : ∀ a, a < b + 32 → σ89.2 a = σ80.2 a := fun a h => (q2 a h).trans (aNew_n (by omega))
  have o1 := (q4 b (by omega)).trans ho
  have hl1 : ∀ a, a < b → σ89.2 a = σ.2 a := fun a h => (q4 a (by omega)).trans (hl a h)
  have hfb : ∀ e, Fr b (b + 1) σ89 (aSet σ89 b e) := fun e => Fr.rf.set (Nat.le_refl _) (Nat.lt_succ_self _)
  refine A_putF (pc := 92) (fs' := [_, _, _, _, _, _, _, _, _, _, _]) hX pl_X11_50_11 dX11_init_92 (by repeat (first | assumption | exact aSet_s | exact aNew_s | refine lk_n ?_ (by omega) | refine lk_f (by assumption) ?_ (by omega) | refine lk_w ?_ (by omega))) (by exact Nat.le_of_ble_eq_true rfl) (by exact rfl) rfl rfl ?_
  refine A_gen (fun z => z.1 = b + 35 ∧ (∀ a, a < b → z.2 a = σ.2 a) ∧ z.2 b = some (aO 11 [.ref (b + 1), .ref (b + 3), .ref (b + 8), .ref (b + 14), .ref (b + 20), .ref (b + 26), .ref (b + 32), .null, .int 0, .int 0, .int 0]) ∧ RPg G (b + 1) 0 (fun _ => 0) z ∧ RTw G (b + 3) (b + 40) 0 (fun _ => (0, 0, 0, 0)) z ∧ RTh G (b + 8) 0 0 (fun _ => (0, 0, 0, 0)) z ∧ RTh G (b + 14) 0 0 (fun _ => (0, 0, 0, 0)) z ∧ (∀ nb B, RWs G (b + 20) (b + 3) false nb B z) ∧ (∀ nb B, RWs G (b + 26) (b + 3) true nb B z) ∧ RSp G (b + 32) (b + 3) 0 z) ⟨e0, fun a h => (aSet_n (by omega)).trans (hl1 a h), aSet_s, (r0.kept (fun a _ _ => q4 a (by omega))).fr (hfb _) (by omega), (r1.kept0 (fun a _ _ => q4 a (by omega)) (by omega)).fr (hfb _) (by omega) (by omega), (r2.kept (fun a _ _ => q4 a (by omega))).fr (hfb _) (by omega), (r3.kept (fun a _ _ => q4 a (by omega))).fr (hfb _) (by omega), fun nb B => ((r4 nb B).kept (fun a _ _ => q4 a (by omega))).fr (hfb _) (by omega), fun nb B => ((r5 nb B).kept (fun a _ _ => q4 a (by omega))).fr (hfb _) (by omega), (h89).fr (hfb _) (by omega)⟩ (fun σ95 hg => ?_)
  clear hz hl ho
  obtain ⟨hz, hl, ho, r0, r1, r2, r3, r4, r5, r6⟩ := hg
  refine A_aload_n (pc := 95) rfl hX dX11_init_95 ?_
  refine A_new (pc := 96) (fs := [.null, .null, .null, .null, .null]) hX nw_X11_54 dX11_init_96 nf_3 (Nat.le_of_ble_eq_true rfl) (Nat.le_of_ble_eq_true rfl) ?_
  rw [hz]
  refine A_dup (pc := 99) rfl hX dX11_init_99 ?_
  refine A_aload_n (pc := 100) rfl hX dX11_init_100 ?_
  refine A_getf (pc := 101) hX fl_X11_19_11 dX11_init_101 (by repeat (first | assumption | exact aSet_s | exact aNew_s | refine lk_n ?_ (by omega) | refine lk_f (by assumption) ?_ (by omega) | refine lk_w ?_ (by omega))) (by exact rfl) ?_
  refine A_I1 (pc := 104) hX mk_X3_init li_X11_56 dX11_init_104 (ct_Ro_init l G (y := b + 35) (w := b + 3) (aNew_s' hz.symm) (congrArg (· + 1) hz)) rfl (Nat.le_of_ble_eq_true rfl) (Nat.le_of_ble_eq_true rfl) (Nat.le_of_ble_eq_true rfl) (Nat.le_of_ble_eq_true rfl) (Nat.le_of_ble_eq_true rfl) (fun x104 σ104 h104 => ?_)
  obtain ⟨rfl, e0, q2, h104⟩ := h104
  have q4 : ∀ a, a < b + 35 → σ104.2 a = σ95.2 a := fun a h => (q2 a h).trans (aNew_n (by omega))
  have o1 := (q4 b (by omega)).trans ho
  have hl1 : ∀ a, a < b → σ104.2 a = σ.2 a := fun a h => (q4 a (by omega)).trans (hl a h)
  have hfb : ∀ e, Fr b (b + 1) σ104 (aSet σ104 b e) := fun e => Fr.rf.set (Nat.le_refl _) (Nat.lt_succ_self _)
  refine A_putF (pc := 107) (fs' := [_, _, _, _, _, _, _, _, _, _, _]) hX pl_X11_57_11 dX11_init_107 (by repeat (first | assumption | exact aSet_s | exact aNew_s | refine lk_n ?_ (by omega) | refine lk_f (by assumption) ?_ (by omega) | refine lk_w ?_ (by omega))) (by exact Nat.le_of_ble_eq_true rfl) (by exact rfl) rfl rfl ?_
  refine A_gen (fun z => z.1 = b + 40 ∧ (∀ a, a < b → z.2 a = σ.2 a) ∧ z.2 b = some (aO 11 [.ref (b + 1), .ref (b + 3), .ref (b + 8), .ref (b + 14), .ref (b + 20), .ref (b + 26), .ref (b + 32), .ref (b + 35), .int 0, .int 0, .int 0]) ∧ RPg G (b + 1) 0 (fun _ => 0) z ∧ RTw G (b + 3) (b + 40) 0 (fun _ => (0, 0, 0, 0)) z ∧ RTh G (b + 8) 0 0 (fun _ => (0, 0, 0, 0)) z ∧ RTh G (b + 14) 0 0 (fun _ => (0, 0, 0, 0)) z ∧ (∀ nb B, RWs G (b + 20) (b + 3) false nb B z) ∧ (∀ nb B, RWs G (b + 26) (b + 3) true nb B z) ∧ RSp G (b + 32) (b + 3) 0 z ∧ RRo G (b + 35) (b + 3) z) ⟨e0, fun a h => (aSet_n (by omega)).trans (hl1 a h), aSet_s, (r0.kept (fun a _ _ => q4 a (by omega))).fr (hfb _) (by omega), (r1.kept0 (fun a _ _ => q4 a (by omega)) (by omega)).fr (hfb _) (by omega) (by omega), (r2.kept (fun a _ _ => q4 a (by omega))).fr (hfb _) (by omega), (r3.kept (fun a _ _ => q4 a (by omega))).fr (hfb _) (by omega), fun nb B => ((r4 nb B).kept (fun a _ _ => q4 a (by omega))).fr (hfb _) (by omega), fun nb B => ((r5 nb B).kept (fun a _ _ => q4 a (by omega))).fr (hfb _) (by omega), (r6.kept (fun a _ _ => q4 a (by omega))).fr (hfb _) (by omega), (h104).fr (hfb _) (by omega)⟩ (fun σ110 hg => ?_)
  clear hz hl ho
  obtain ⟨hz, hl, ho, r0, r1, r2, r3, r4, r5, r6, r7⟩ := hg
  refine A_ret (pc := 110) hX hR dX11_init_110 ?_
  exact ⟨rfl, hz, hl, ho, r0, r1, r2, r3, r4 _ _, r5 _ _, r6, r7, Nat.le_refl _⟩
