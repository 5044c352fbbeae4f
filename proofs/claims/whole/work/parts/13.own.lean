/-! the object itself: b the object, b + 1 the page, b + 3 the town, b + 8 the things, b + 14 the kept, b + 20 and b + 26 the ways, b + 32 whom never, b + 35 the rows -/
abbrev BorT := Nat → Nat × Nat × Nat × Nat
abbrev ThT := Nat → Nat × Int32 × Int32 × Int32
def RX (G : aG) (b tp sr len : Nat) (cd : Nat → Nat) (nb : Nat) (B : BorT) (nt : Nat) (dy : Int32) (V : ThT) (hI : Bool) (kn : Nat) (kd : Int32) (KV : ThT) (tw hn : Nat) (σ : aS) : Prop := σ.2 b = some (aO 11 [.ref (b + 1), .ref (b + 3), .ref (b + 8), .ref (b + 14), .ref (b + 20), .ref (b + 26), .ref (b + 32), .ref (b + 35), .int (bI hI), .int (nI tw), .int (nI hn)]) ∧ RPg G (b + 1) len cd σ ∧ RTw G (b + 3) tp nb B σ ∧ RTh G (b + 8) nt dy V σ ∧ RTh G (b + 14) kn kd KV σ ∧ RWs G (b + 20) (b + 3) false nb B σ ∧ RWs G (b + 26) (b + 3) true nb B σ ∧ RSp G (b + 32) (b + 3) sr σ ∧ RRo G (b + 35) (b + 3) σ ∧ b + 40 ≤ tp
theorem RWs.fr {G : aG} {y w nb lo hi : Nat} {by_ : Bool} {B : BorT} {σ σ' : aS} (h : RWs G y w by_ nb B σ) (hf : Fr lo hi σ σ') (h2 : hi ≤ y ∨ y + 6 ≤ lo) : RWs G y w by_ nb B σ' := h.kept fun a _ _ => hf.2 a (by omega)
theorem RSp.fr {G : aG} {z w sr lo hi : Nat} {σ σ' : aS} (h : RSp G z w sr σ) (hf : Fr lo hi σ σ') (h2 : hi ≤ z ∨ z + 3 ≤ lo) : RSp G z w sr σ' := h.kept fun a _ _ => hf.2 a (by omega)
theorem RRo.fr {G : aG} {r w lo hi : Nat} {σ σ' : aS} (h : RRo G r w σ) (hf : Fr lo hi σ σ') (h2 : hi ≤ r ∨ r + 5 ≤ lo) : RRo G r w σ' := h.kept fun a _ _ => hf.2 a (by omega)
theorem RWs.cell {G : aG} {y w nb : Nat} {by_ : Bool} {B : BorT} {σ : aS} (h : RWs G y w by_ nb B σ) : ∃ fs, σ.2 y = some (aO 10 fs) := by
  rcases h with ⟨fd, gc, gf, go, gb, ge, h0, _⟩ | ⟨s0, fd, D, F, od, gb, ge, hY, _⟩
  · exact ⟨_, h0⟩
  · exact ⟨_, hY.1⟩
theorem inN_f {n : Nat} {x : Int32} (hn : n < 2 ^ 31) (h : ¬ inN n x = true) : x.toInt < 0 ∨ (n : Int) - 1 < x.toInt := by
  rcases Int.lt_or_ge x.toInt 0 with q | q
  · exact .inl q
  · refine .inr ?_
    rcases Int.lt_or_ge ((n : Int) - 1) x.toInt with q2 | q2
    · exact q2
    · refine absurd (decide_eq_true ⟨?_, ?_⟩) h
      · rw [Int32.le_iff_toInt_le]; simpa using q
      · rw [Int32.lt_iff_toInt_lt, nI_toInt hn]; omega
theorem inN_n {n : Nat} {x : Int32} (hn : n < 2 ^ 31) (h : x.toInt < 0 ∨ (n : Int) - 1 < x.toInt) : ¬ inN n x = true := by
  intro q
  obtain ⟨i, hi, rfl⟩ := inN_t hn q
  rw [nI_toInt (by omega)] at h
  omega
/-- an answer that asks for a number among n, and for a what among m -/
def an2 (n m : Nat) (f : Nat → Nat → Int32) (x w : Int32) : Int32 := if inN n x = true then if inN m w = true then f x.toNatClampNeg w.toNatClampNeg else -102 else -101
theorem an2_in {n m b c : Nat} {f : Nat → Nat → Int32} (hn : n < 2 ^ 31) (hm : m < 2 ^ 31) (hb : b < n) (hc : c < m) : an2 n m f (nI b) (nI c) = f b c := by
  rw [an2, if_pos (inN_nI hn hb), if_pos (inN_nI hm hc), nI_clamp (by omega), nI_clamp (by omega)]
theorem an2_1 {n m : Nat} {f : Nat → Nat → Int32} {x w : Int32} (h : ¬ inN n x = true) : an2 n m f x w = -101 := if_neg h
theorem an2_2 {n m : Nat} {f : Nat → Nat → Int32} {x w : Int32} (h : inN n x = true) (h2 : ¬ inN m w = true) : an2 n m f x w = -102 := by rw [an2, if_pos h, if_neg h2]
def anFault (len : Nat) (cd : Nat → Nat) (nb : Nat) (x : Int32) : Int32 := if x = 0 then nI (faultOf (fitT cd) len) else if x = nI 1 then nI (faultOf (fitR nb cd) len) else -102
def abN (B : BorT) (nt : Nat) (V : ThT) (b c : Nat) : Int32 := match c with
  | 0 => nI (B b).1
  | 1 => nI (B b).2.1
  | 2 => nI (B b).2.2.1
  | 3 => nI (B b).2.2.2
  | 4 => heldBy V nt (nI b)
  | _ => leftAt V nt (nI b)
def isK (k c : Nat) : Bool := decide (c = 0 ∨ k = c ∨ (c = 1 ∧ k = 4))
def asN (B : BorT) (b c : Nat) : Int32 := if isK (B b).1 c = true then nI b else -1
def thN (B : BorT) (V : ThT) (i c : Nat) : Int32 := match c with
  | 3 => nI (V i).1
  | 4 => (V i).2.1
  | 5 => (V i).2.2.2
  | 6 => nI (homeV B (V i))
  | c => nI (trt (V i).1 c)
def ctN (len nb nt : Nat) (dy : Int32) (V : ThT) (tw hn c : Nat) : Int32 := match c with
  | 0 => nI nb
  | 1 => nI nt
  | 2 => nI (cntN (fun i => decide (¬ (V i).2.1 = -1)) nt)
  | 3 => dy
  | 4 => nI (sumN (fun i => trS (V i).1) nt)
  | 5 => nI len
  | 6 => nI tw
  | _ => nI hn
def anCount (len nb nt : Nat) (dy : Int32) (V : ThT) (tw hn : Nat) (w : Int32) : Int32 := if inN 8 w = true then ctN len nb nt dy V tw hn w.toNatClampNeg else -102
set_option maxRecDepth 100000 in
set_option maxHeartbeats 1000000 in
theorem ct_fault (l : Launch) (G : aG) {b tp sr len nb nt kn tw hn : Nat} {cd : Nat → Nat} {B : BorT} {dy kd : Int32} {V KV : ThT} {hI : Bool} {σ : aS} (hX0 : RX G b tp sr len cd nb B nt dy V hI kn kd KV tw hn σ) {x : Int32} : ACt l G yX11_fault cX11_fault 2 (some .int) 3 0 0 [.ref b, .int x] σ (dP (some (.int (anFault len cd nb x))) σ) := by
  obtain ⟨o0, hpg, htw, hth, hkp, hy1, hy2, hsp, hro, htp⟩ := id hX0
  obtain ⟨pf, p0, p1, p2, p3⟩ := id hpg
  obtain ⟨hwt, hnb, hok, bor, fa, fo, fn, e0, e1, e2, e3, e4, e5, e6⟩ := id htw
  refine ACt.intro (own := RX11) (nm := "fault") mk_X11_fault rfl rfl [some (.ref b), some (.int x)] rfl (Nat.le_of_ble_eq_true rfl) (fun X hX hR => ?_)
  refine A_iload_n (pc := 0) rfl hX dX11_fault_0 ?_
  refine A_if_ne (pc := 1) 12 hX dX11_fault_1 rfl (fun c1 => ?_) (fun c1 => ?_)
  · refine A_iload_n (pc := 12) rfl hX dX11_fault_12 ?_
    refine A_iconst (pc := 13) (v := (nI 1)) (by decide) hX dX11_fault_13 ?_
    refine A_icmp_ne (pc := 14) 32 hX dX11_fault_14 rfl (fun c14 => ?_) (fun c14 => ?_)
    · refine A_bipush (pc := 32) (v := (-102)) (by decide) hX dX11_fault_32 ?_
      refine A_iret (pc := 34) hX hR dX11_fault_34 rfl rfl ?_
      exact ⟨by rw [anFault, if_neg c1, if_neg c14], rfl⟩
    · refine A_aload_n (pc := 17) rfl hX dX11_fault_17 ?_
      refine A_getf (pc := 18) hX fl_X11_10_11 dX11_fault_18 (by repeat (first | assumption | exact aSet_s | exact aNew_s | refine lk_n ?_ (by omega) | refine lk_f (by assumption) ?_ (by omega) | refine lk_w ?_ (by omega))) (by exact rfl) ?_
      refine A_aload_n (pc := 21) rfl hX dX11_fault_21 ?_
      refine A_getf (pc := 22) hX fl_X11_19_11 dX11_fault_22 (by repeat (first | assumption | exact aSet_s | exact aNew_s | refine lk_n ?_ (by omega) | refine lk_f (by assumption) ?_ (by omega) | refine lk_w ?_ (by omega))) (by exact rfl) ?_
      refine A_getf (pc := 25) hX fl_X11_73_8 dX11_fault_25 (by repeat (first | assumption | exact aSet_s | exact aNew_s | refine lk_n ?_ (by omega) | refine lk_f (by assumption) ?_ (by omega) | refine lk_w ?_ (by omega))) (by exact rfl) ?_
      refine A_V1d (pc := 28) hX mk_X2_faultOfRound lv_X11_76 dX11_fault_28 (by repeat (first | assumption | exact aSet_s | exact aNew_s | refine lk_n ?_ (by omega) | refine lk_f (by assumption) ?_ (by omega) | refine lk_w ?_ (by omega))) (ct_faultOfRound l G hpg hnb) rfl (Nat.le_of_ble_eq_true rfl) (Nat.le_of_ble_eq_true rfl) (Nat.le_of_ble_eq_true rfl) (Nat.le_of_ble_eq_true rfl) (Nat.le_of_ble_eq_true rfl) ?_
      refine A_iret (pc := 31) hX hR dX11_fault_31 rfl rfl ?_
      exact ⟨by rw [anFault, if_neg c1, if_pos c14], rfl⟩
  · refine A_aload_n (pc := 4) rfl hX dX11_fault_4 ?_
    refine A_getf (pc := 5) hX fl_X11_10_11 dX11_fault_5 (by repeat (first | assumption | exact aSet_s | exact aNew_s | refine lk_n ?_ (by omega) | refine lk_f (by assumption) ?_ (by omega) | refine lk_w ?_ (by omega))) (by exact rfl) ?_
    refine A_V0d (pc := 8) hX mk_X2_faultOfTown lv_X11_69 dX11_fault_8 (by repeat (first | assumption | exact aSet_s | exact aNew_s | refine lk_n ?_ (by omega) | refine lk_f (by assumption) ?_ (by omega) | refine lk_w ?_ (by omega))) (ct_faultOfTown l G hpg) rfl (Nat.le_of_ble_eq_true rfl) (Nat.le_of_ble_eq_true rfl) (Nat.le_of_ble_eq_true rfl) (Nat.le_of_ble_eq_true rfl) (Nat.le_of_ble_eq_true rfl) ?_
    refine A_iret (pc := 11) hX hR dX11_fault_11 rfl rfl ?_
    exact ⟨by rw [anFault, if_pos c1], rfl⟩
set_option maxRecDepth 100000 in
set_option maxHeartbeats 1000000 in
theorem ct_isOfKind (l : Launch) (G : aG) {a k t m d c : Nat} {σ : aS} (hk : k ≤ 4) (h : σ.2 a = some (oK k t m d)) (hc : c < 5) : ACt l G yX11_isOfKind cX11_isOfKind 2 (some (.boolean)) 0 0 0 [.ref a, .int (nI c)] σ (dP (some (.int (bI (isK k c)))) σ) := by
  refine ACt.intro (own := RX11) (nm := "isOfKind") mk_X11_isOfKind rfl rfl [some (.ref a), some (.int (nI c))] rfl (Nat.le_of_ble_eq_true rfl) (fun X hX hR => ?_)
  refine A_iload_n (pc := 0) rfl hX dX11_isOfKind_0 ?_
  rcases (by omega : c = 0 ∨ c = 1 ∨ c = 2 ∨ c = 3 ∨ c = 4) with rfl | rfl | rfl | rfl | rfl
  · refine A_tabIn (pc := 1) (off := 35) 36 hX dX11_isOfKind_1 (by decide) (by decide) rfl rfl ?_
    refine A_iconst (pc := 36) (v := (nI 1)) (by decide) hX dX11_isOfKind_36 ?_
    refine A_iret (pc := 37) hX hR dX11_isOfKind_37 rfl rfl ?_
    exact ⟨rfl, rfl⟩
  · refine A_tabIn (pc := 1) (off := 37) 38 hX dX11_isOfKind_1 (by decide) (by decide) rfl rfl ?_
    refine A_aload_n (pc := 38) rfl hX dX11_isOfKind_38 ?_
    rcases oK_get hk h with ⟨e, rfl⟩ | ⟨e, rfl⟩ | ⟨e, rfl⟩ | ⟨e, rfl⟩ | ⟨e, rfl⟩
    · refine A_instN (pc := 39) hX cl_X11_260 dX11_isOfKind_39 e rfl (by decide +kernel) ?_
      refine A_iret (pc := 42) hX hR dX11_isOfKind_42 rfl rfl ?_
      exact ⟨rfl, rfl⟩
    · refine A_instY (pc := 39) hX cl_X11_260 dX11_isOfKind_39 e rfl (.inl rfl) ?_
      refine A_iret (pc := 42) hX hR dX11_isOfKind_42 rfl rfl ?_
      exact ⟨rfl, rfl⟩
    · refine A_instN (pc := 39) hX cl_X11_260 dX11_isOfKind_39 e rfl (by decide +kernel) ?_
      refine A_iret (pc := 42) hX hR dX11_isOfKind_42 rfl rfl ?_
      exact ⟨rfl, rfl⟩
    · refine A_instN (pc := 39) hX cl_X11_260 dX11_isOfKind_39 e rfl (by decide +kernel) ?_
      refine A_iret (pc := 42) hX hR dX11_isOfKind_42 rfl rfl ?_
      exact ⟨rfl, rfl⟩
    · refine A_instY (pc := 39) hX cl_X11_260 dX11_isOfKind_39 e rfl (.inr ca_X1_X4) ?_
      refine A_iret (pc := 42) hX hR dX11_isOfKind_42 rfl rfl ?_
      exact ⟨rfl, rfl⟩
  · refine A_tabIn (pc := 1) (off := 42) 43 hX dX11_isOfKind_1 (by decide) (by decide) rfl rfl ?_
    refine A_aload_n (pc := 43) rfl hX dX11_isOfKind_43 ?_
    rcases oK_get hk h with ⟨e, rfl⟩ | ⟨e, rfl⟩ | ⟨e, rfl⟩ | ⟨e, rfl⟩ | ⟨e, rfl⟩
    · refine A_instN (pc := 44) hX cl_X11_262 dX11_isOfKind_44 e rfl (by decide +kernel) ?_
      refine A_iret (pc := 47) hX hR dX11_isOfKind_47 rfl rfl ?_
      exact ⟨rfl, rfl⟩
    · refine A_instN (pc := 44) hX cl_X11_262 dX11_isOfKind_44 e rfl (by decide +kernel) ?_
      refine A_iret (pc := 47) hX hR dX11_isOfKind_47 rfl rfl ?_
      exact ⟨rfl, rfl⟩
    · refine A_instY (pc := 44) hX cl_X11_262 dX11_isOfKind_44 e rfl (.inl rfl) ?_
      refine A_iret (pc := 47) hX hR dX11_isOfKind_47 rfl rfl ?_
      exact ⟨rfl, rfl⟩
    · refine A_instN (pc := 44) hX cl_X11_262 dX11_isOfKind_44 e rfl (by decide +kernel) ?_
      refine A_iret (pc := 47) hX hR dX11_isOfKind_47 rfl rfl ?_
      exact ⟨rfl, rfl⟩
    · refine A_instN (pc := 44) hX cl_X11_262 dX11_isOfKind_44 e rfl (by decide +kernel) ?_
      refine A_iret (pc := 47) hX hR dX11_isOfKind_47 rfl rfl ?_
      exact ⟨rfl, rfl⟩
  · refine A_tabIn (pc := 1) (off := 47) 48 hX dX11_isOfKind_1 (by decide) (by decide) rfl rfl ?_
    refine A_aload_n (pc := 48) rfl hX dX11_isOfKind_48 ?_
    rcases oK_get hk h with ⟨e, rfl⟩ | ⟨e, rfl⟩ | ⟨e, rfl⟩ | ⟨e, rfl⟩ | ⟨e, rfl⟩
    · refine A_instN (pc := 49) hX cl_X11_264 dX11_isOfKind_49 e rfl (by decide +kernel) ?_
      refine A_iret (pc := 52) hX hR dX11_isOfKind_52 rfl rfl ?_
      exact ⟨rfl, rfl⟩
    · refine A_instN (pc := 49) hX cl_X11_264 dX11_isOfKind_49 e rfl (by decide +kernel) ?_
      refine A_iret (pc := 52) hX hR dX11_isOfKind_52 rfl rfl ?_
      exact ⟨rfl, rfl⟩
    · refine A_instN (pc := 49) hX cl_X11_264 dX11_isOfKind_49 e rfl (by decide +kernel) ?_
      refine A_iret (pc := 52) hX hR dX11_isOfKind_52 rfl rfl ?_
      exact ⟨rfl, rfl⟩
    · refine A_instY (pc := 49) hX cl_X11_264 dX11_isOfKind_49 e rfl (.inl rfl) ?_
      refine A_iret (pc := 52) hX hR dX11_isOfKind_52 rfl rfl ?_
      exact ⟨rfl, rfl⟩
    · refine A_instN (pc := 49) hX cl_X11_264 dX11_isOfKind_49 e rfl (by decide +kernel) ?_
      refine A_iret (pc := 52) hX hR dX11_isOfKind_52 rfl rfl ?_
      exact ⟨rfl, rfl⟩
  · refine A_tabIn (pc := 1) (off := 52) 53 hX dX11_isOfKind_1 (by decide) (by decide) rfl rfl ?_
    refine A_aload_n (pc := 53) rfl hX dX11_isOfKind_53 ?_
    rcases oK_get hk h with ⟨e, rfl⟩ | ⟨e, rfl⟩ | ⟨e, rfl⟩ | ⟨e, rfl⟩ | ⟨e, rfl⟩
    · refine A_instN (pc := 54) hX cl_X11_266 dX11_isOfKind_54 e rfl (by decide +kernel) ?_
      refine A_iret (pc := 57) hX hR dX11_isOfKind_57 rfl rfl ?_
      exact ⟨rfl, rfl⟩
    · refine A_instN (pc := 54) hX cl_X11_266 dX11_isOfKind_54 e rfl (by decide +kernel) ?_
      refine A_iret (pc := 57) hX hR dX11_isOfKind_57 rfl rfl ?_
      exact ⟨rfl, rfl⟩
    · refine A_instN (pc := 54) hX cl_X11_266 dX11_isOfKind_54 e rfl (by decide +kernel) ?_
      refine A_iret (pc := 57) hX hR dX11_isOfKind_57 rfl rfl ?_
      exact ⟨rfl, rfl⟩
    · refine A_instN (pc := 54) hX cl_X11_266 dX11_isOfKind_54 e rfl (by decide +kernel) ?_
      refine A_iret (pc := 57) hX hR dX11_isOfKind_57 rfl rfl ?_
      exact ⟨rfl, rfl⟩
    · refine A_instY (pc := 54) hX cl_X11_266 dX11_isOfKind_54 e rfl (.inl rfl) ?_
      refine A_iret (pc := 57) hX hR dX11_isOfKind_57 rfl rfl ?_
      exact ⟨rfl, rfl⟩
set_option maxRecDepth 100000 in
set_option maxHeartbeats 1000000 in
theorem ct_about (l : Launch) (G : aG) {b tp sr len nb nt kn tw hn : Nat} {cd : Nat → Nat} {B : BorT} {dy kd : Int32} {V KV : ThT} {hI : Bool} {σ : aS} (hX0 : RX G b tp sr len cd nb B nt dy V hI kn kd KV tw hn σ) {x w : Int32} : ACt l G yX11_about cX11_about 4 (some .int) 3 0 0 [.ref b, .int x, .int w] σ (dP (some (.int (an2 nb 6 (abN B nt V) x w))) σ) := by
  obtain ⟨o0, hpg, htw, hth, hkp, hy1, hy2, hsp, hro, htp⟩ := id hX0
  obtain ⟨hwt, hnb, hok, bor, fa, fo, fn, e0, e1, e2, e3, e4, e5, e6⟩ := id htw
  obtain ⟨sd, fs, fh, fl, fr, ft, ⟨a0, a1, a2, a3, a4, a5⟩, hnt, hv⟩ := id hth
  refine ACt.intro (own := RX11) (nm := "about") mk_X11_about rfl rfl [some (.ref b), some (.int x), some (.int w), none] rfl (Nat.le_of_ble_eq_true rfl) (fun X hX hR => ?_)
  refine A_aload_n (pc := 0) rfl hX dX11_about_0 ?_
  refine A_getf (pc := 1) hX fl_X11_19_11 dX11_about_1 (by repeat (first | assumption | exact aSet_s | exact aNew_s | refine lk_n ?_ (by omega) | refine lk_f (by assumption) ?_ (by omega) | refine lk_w ?_ (by omega))) (by exact rfl) ?_
  refine A_iload_n (pc := 4) rfl hX dX11_about_4 ?_
  refine A_V1p (pc := 5) hX mk_X8_borrowerAt lv_X11_101 dX11_about_5 (by repeat (first | assumption | exact aSet_s | exact aNew_s | refine lk_n ?_ (by omega) | refine lk_f (by assumption) ?_ (by omega) | refine lk_w ?_ (by omega))) (ct_borrowerAt l G htw) rfl (Nat.le_of_ble_eq_true rfl) (Nat.le_of_ble_eq_true rfl) (Nat.le_of_ble_eq_true rfl) (Nat.le_of_ble_eq_true rfl) (Nat.le_of_ble_eq_true rfl) (fun x5 σ5 h5 => ?_)
  obtain ⟨rfl, ⟨rfl, z⟩ | ⟨b1, a, hb1, rfl, rfl, ha, hobj⟩⟩ := h5
  · have hno : ¬ inN nb x = true := fun q => z (of_decide_eq_true q)
    refine A_astore_nN (pc := 8) (lv' := [_, _, _, _]) hX dX11_about_8 (Nat.le_of_ble_eq_true rfl) rfl rfl ?_
    refine A_aload_nN (pc := 9) rfl hX dX11_about_9 ?_
    refine A_ifnonnullN (pc := 10) hX dX11_about_10 ?_
    refine A_bipush (pc := 13) (v := (-101)) (by decide) hX dX11_about_13 ?_
    refine A_iret (pc := 15) hX hR dX11_about_15 rfl rfl ?_
    exact ⟨by rw [an2_1 hno], rfl⟩
  · have hin : inN nb (nI b1) = true := inN_nI (by omega) hb1
    have hobj : σ.2 a = some (oK (B b1).1 (B b1).2.1 (B b1).2.2.1 (B b1).2.2.2) := hobj
    have hk4 := (hok b1 hb1).1
    refine A_astore_n (pc := 8) (lv' := [_, _, _, _]) hX dX11_about_8 (Nat.le_of_ble_eq_true rfl) rfl rfl ?_
    refine A_aload_n (pc := 9) rfl hX dX11_about_9 ?_
    refine A_ifnonnull (pc := 10) 16 hX dX11_about_10 rfl ?_
    refine A_iload_n (pc := 16) rfl hX dX11_about_16 ?_
    by_cases hc : inN 6 w = true
    · obtain ⟨c, hc1, rfl⟩ := inN_t (by decide) hc
      rcases (by omega : c = 0 ∨ c = 1 ∨ c = 2 ∨ c = 3 ∨ c = 4 ∨ c = 5) with rfl | rfl | rfl | rfl | rfl | rfl
      · refine A_tabIn (pc := 17) (off := 39) 56 hX dX11_about_17 (by decide) (by decide) rfl rfl ?_
        refine A_aload_n (pc := 56) rfl hX dX11_about_56 ?_
        rcases oK_get hk4 hobj with ⟨e, ek⟩ | ⟨e, ek⟩ | ⟨e, ek⟩ | ⟨e, ek⟩ | ⟨e, ek⟩
        · skip
          refine A_U0d (pc := 57) hX mk_X0_kind lu_X11_105_0 dX11_about_57 (by repeat (first | assumption | exact aSet_s | exact aNew_s | refine lk_n ?_ (by omega) | refine lk_f (by assumption) ?_ (by omega) | refine lk_w ?_ (by omega))) (ct_X0_kind l G) rfl (Nat.le_of_ble_eq_true rfl) (Nat.le_of_ble_eq_true rfl) (Nat.le_of_ble_eq_true rfl) (Nat.le_of_ble_eq_true rfl) (Nat.le_of_ble_eq_true rfl) ?_
          refine A_iret (pc := 60) hX hR dX11_about_60 rfl rfl ?_
          exact ⟨by rw [an2_in (by omega) (by decide) hb1 hc1]; show nI 0 = nI (B b1).1; rw [ek], rfl⟩
        · skip
          refine A_U0d (pc := 57) hX mk_X4_kind lu_X11_105_4 dX11_about_57 (by repeat (first | assumption | exact aSet_s | exact aNew_s | refine lk_n ?_ (by omega) | refine lk_f (by assumption) ?_ (by omega) | refine lk_w ?_ (by omega))) (ct_X4_kind l G) rfl (Nat.le_of_ble_eq_true rfl) (Nat.le_of_ble_eq_true rfl) (Nat.le_of_ble_eq_true rfl) (Nat.le_of_ble_eq_true rfl) (Nat.le_of_ble_eq_true rfl) ?_
          refine A_iret (pc := 60) hX hR dX11_about_60 rfl rfl ?_
          exact ⟨by rw [an2_in (by omega) (by decide) hb1 hc1]; show nI 1 = nI (B b1).1; rw [ek], rfl⟩
        · skip
          refine A_U0d (pc := 57) hX mk_X9_kind lu_X11_105_9 dX11_about_57 (by repeat (first | assumption | exact aSet_s | exact aNew_s | refine lk_n ?_ (by omega) | refine lk_f (by assumption) ?_ (by omega) | refine lk_w ?_ (by omega))) (ct_X9_kind l G) rfl (Nat.le_of_ble_eq_true rfl) (Nat.le_of_ble_eq_true rfl) (Nat.le_of_ble_eq_true rfl) (Nat.le_of_ble_eq_true rfl) (Nat.le_of_ble_eq_true rfl) ?_
          refine A_iret (pc := 60) hX hR dX11_about_60 rfl rfl ?_
          exact ⟨by rw [an2_in (by omega) (by decide) hb1 hc1]; show nI 2 = nI (B b1).1; rw [ek], rfl⟩
        · skip
          refine A_U0d (pc := 57) hX mk_X6_kind lu_X11_105_6 dX11_about_57 (by repeat (first | assumption | exact aSet_s | exact aNew_s | refine lk_n ?_ (by omega) | refine lk_f (by assumption) ?_ (by omega) | refine lk_w ?_ (by omega))) (ct_X6_kind l G) rfl (Nat.le_of_ble_eq_true rfl) (Nat.le_of_ble_eq_true rfl) (Nat.le_of_ble_eq_true rfl) (Nat.le_of_ble_eq_true rfl) (Nat.le_of_ble_eq_true rfl) ?_
          refine A_iret (pc := 60) hX hR dX11_about_60 rfl rfl ?_
          exact ⟨by rw [an2_in (by omega) (by decide) hb1 hc1]; show nI 3 = nI (B b1).1; rw [ek], rfl⟩
        · skip
          refine A_U0d (pc := 57) hX mk_X1_kind lu_X11_105_1 dX11_about_57 (by repeat (first | assumption | exact aSet_s | exact aNew_s | refine lk_n ?_ (by omega) | refine lk_f (by assumption) ?_ (by omega) | refine lk_w ?_ (by omega))) (ct_X1_kind l G) rfl (Nat.le_of_ble_eq_true rfl) (Nat.le_of_ble_eq_true rfl) (Nat.le_of_ble_eq_true rfl) (Nat.le_of_ble_eq_true rfl) (Nat.le_of_ble_eq_true rfl) ?_
          refine A_iret (pc := 60) hX hR dX11_about_60 rfl rfl ?_
          exact ⟨by rw [an2_in (by omega) (by decide) hb1 hc1]; show nI 4 = nI (B b1).1; rw [ek], rfl⟩
      · refine A_tabIn (pc := 17) (off := 44) 61 hX dX11_about_17 (by decide) (by decide) rfl rfl ?_
        refine A_aload_n (pc := 61) rfl hX dX11_about_61 ?_
        refine A_getK (pc := 62) hX fl_X11_110_0 fl_X11_110_4 fl_X11_110_9 fl_X11_110_6 fl_X11_110_1 dX11_about_62 hk4 hobj rfl ?_
        refine A_iret (pc := 65) hX hR dX11_about_65 rfl rfl ?_
        exact ⟨by rw [an2_in (by omega) (by decide) hb1 hc1]; rfl, rfl⟩
      · refine A_tabIn (pc := 17) (off := 49) 66 hX dX11_about_17 (by decide) (by decide) rfl rfl ?_
        refine A_aload_n (pc := 66) rfl hX dX11_about_66 ?_
        refine A_getK (pc := 67) hX fl_X11_113_0 fl_X11_113_4 fl_X11_113_9 fl_X11_113_6 fl_X11_113_1 dX11_about_67 hk4 hobj rfl ?_
        refine A_iret (pc := 70) hX hR dX11_about_70 rfl rfl ?_
        exact ⟨by rw [an2_in (by omega) (by decide) hb1 hc1]; rfl, rfl⟩
      · refine A_tabIn (pc := 17) (off := 54) 71 hX dX11_about_17 (by decide) (by decide) rfl rfl ?_
        refine A_aload_n (pc := 71) rfl hX dX11_about_71 ?_
        refine A_getK (pc := 72) hX fl_X11_116_0 fl_X11_116_4 fl_X11_116_9 fl_X11_116_6 fl_X11_116_1 dX11_about_72 hk4 hobj rfl ?_
        refine A_iret (pc := 75) hX hR dX11_about_75 rfl rfl ?_
        exact ⟨by rw [an2_in (by omega) (by decide) hb1 hc1]; rfl, rfl⟩
      · refine A_tabIn (pc := 17) (off := 59) 76 hX dX11_about_17 (by decide) (by decide) rfl rfl ?_
        refine A_aload_n (pc := 76) rfl hX dX11_about_76 ?_
        refine A_getf (pc := 77) hX fl_X11_26_11 dX11_about_77 (by repeat (first | assumption | exact aSet_s | exact aNew_s | refine lk_n ?_ (by omega) | refine lk_f (by assumption) ?_ (by omega) | refine lk_w ?_ (by omega))) (by exact rfl) ?_
        refine A_iload_n (pc := 80) rfl hX dX11_about_80 ?_
        refine A_V1d (pc := 81) hX mk_X7_numberHeldBy lv_X11_119 dX11_about_81 (by repeat (first | assumption | exact aSet_s | exact aNew_s | refine lk_n ?_ (by omega) | refine lk_f (by assumption) ?_ (by omega) | refine lk_w ?_ (by omega))) (ct_numberHeldBy l G hth) rfl (Nat.le_of_ble_eq_true rfl) (Nat.le_of_ble_eq_true rfl) (Nat.le_of_ble_eq_true rfl) (Nat.le_of_ble_eq_true rfl) (Nat.le_of_ble_eq_true rfl) ?_
        refine A_iret (pc := 84) hX hR dX11_about_84 rfl rfl ?_
        exact ⟨by rw [an2_in (by omega) (by decide) hb1 hc1]; rfl, rfl⟩
      · refine A_tabIn (pc := 17) (off := 68) 85 hX dX11_about_17 (by decide) (by decide) rfl rfl ?_
        refine A_aload_n (pc := 85) rfl hX dX11_about_85 ?_
        refine A_getf (pc := 86) hX fl_X11_26_11 dX11_about_86 (by repeat (first | assumption | exact aSet_s | exact aNew_s | refine lk_n ?_ (by omega) | refine lk_f (by assumption) ?_ (by omega) | refine lk_w ?_ (by omega))) (by exact rfl) ?_
        refine A_iload_n (pc := 89) rfl hX dX11_about_89 ?_
        refine A_V1d (pc := 90) hX mk_X7_daysLeftAt lv_X11_122 dX11_about_90 (by repeat (first | assumption | exact aSet_s | exact aNew_s | refine lk_n ?_ (by omega) | refine lk_f (by assumption) ?_ (by omega) | refine lk_w ?_ (by omega))) (ct_daysLeftAt l G hth) rfl (Nat.le_of_ble_eq_true rfl) (Nat.le_of_ble_eq_true rfl) (Nat.le_of_ble_eq_true rfl) (Nat.le_of_ble_eq_true rfl) (Nat.le_of_ble_eq_true rfl) ?_
        refine A_iret (pc := 93) hX hR dX11_about_93 rfl rfl ?_
        exact ⟨by rw [an2_in (by omega) (by decide) hb1 hc1]; rfl, rfl⟩
    · refine A_tabOut (pc := 17) 94 hX dX11_about_17 (by have := inN_f (by decide) hc; omega) rfl ?_
      refine A_bipush (pc := 94) (v := (-102)) (by decide) hX dX11_about_94 ?_
      refine A_iret (pc := 96) hX hR dX11_about_96 rfl rfl ?_
      exact ⟨by rw [an2_2 hin hc], rfl⟩
