/-! the things: t the object, t + 1 .. t + 5 its rows. V: of each thing its state, who has it (-1: nobody), how long still, how often it came back -/
def RTc (G : aG) (t nt : Nat) (dy sd : Int32) (fs fh fl fr ft : Nat → Int32) (σ : aS) : Prop := σ.2 t = some (aO 7 [.ref (t + 1), .ref (t + 2), .ref (t + 3), .ref (t + 4), .int (nI nt), .int dy, .ref (t + 5), .int sd]) ∧ σ.2 (t + 1) = some (aI G 4 fs) ∧ σ.2 (t + 2) = some (aI G 4 fh) ∧ σ.2 (t + 3) = some (aI G 4 fl) ∧ σ.2 (t + 4) = some (aI G 4 fr) ∧ σ.2 (t + 5) = some (aI G 4 ft)
def lkV (nt : Nat) (V : Nat → Nat × Int32 × Int32 × Int32) (fs fh fl fr : Nat → Int32) : Prop := nt ≤ 4 ∧ ∀ i, i < nt → fs i = nI (V i).1 ∧ fh i = (V i).2.1 ∧ fl i = (V i).2.2.1 ∧ fr i = (V i).2.2.2
def RTh (G : aG) (t nt : Nat) (dy : Int32) (V : Nat → Nat × Int32 × Int32 × Int32) (σ : aS) : Prop := ∃ (sd : Int32) (fs fh fl fr ft : Nat → Int32), RTc G t nt dy sd fs fh fl fr ft σ ∧ lkV nt V fs fh fl fr
def RTy (G : aG) (t nt : Nat) (dy : Int32) (V : Nat → Nat × Int32 × Int32 × Int32) (Y : Nat → Nat) (sd : Nat) (σ : aS) : Prop := ∃ (fs fh fl fr ft : Nat → Int32), RTc G t nt dy (nI sd) fs fh fl fr ft σ ∧ lkV nt V fs fh fl fr ∧ ∀ i, i < nt → ft i = nI (Y i) ∧ Y i < 512
theorem RTy.th {G : aG} {t nt sd : Nat} {dy : Int32} {V : Nat → Nat × Int32 × Int32 × Int32} {Y : Nat → Nat} {σ : aS} (h : RTy G t nt dy V Y sd σ) : RTh G t nt dy V σ := by
  obtain ⟨fs, fh, fl, fr, ft, h1, h2, -⟩ := h
  exact ⟨_, fs, fh, fl, fr, ft, h1, h2⟩
theorem RTc.kept {G : aG} {t nt : Nat} {dy sd : Int32} {fs fh fl fr ft : Nat → Int32} {σ σ' : aS} (h : RTc G t nt dy sd fs fh fl fr ft σ) (hk : ∀ a, t ≤ a → a < t + 6 → σ'.2 a = σ.2 a) : RTc G t nt dy sd fs fh fl fr ft σ' := by
  obtain ⟨h0, h1, h2, h3, h4, h5⟩ := h
  exact ⟨(hk t (by omega) (by omega)).trans h0, (hk _ (by omega) (by omega)).trans h1, (hk _ (by omega) (by omega)).trans h2, (hk _ (by omega) (by omega)).trans h3, (hk _ (by omega) (by omega)).trans h4, (hk _ (by omega) (by omega)).trans h5⟩
theorem RTh.kept {G : aG} {t nt : Nat} {dy : Int32} {V : Nat → Nat × Int32 × Int32 × Int32} {σ σ' : aS} (h : RTh G t nt dy V σ) (hk : ∀ a, t ≤ a → a < t + 6 → σ'.2 a = σ.2 a) : RTh G t nt dy V σ' := by
  obtain ⟨sd, fs, fh, fl, fr, ft, h1, h2⟩ := h
  exact ⟨sd, fs, fh, fl, fr, ft, h1.kept hk, h2⟩
theorem RTh.fr {G : aG} {t nt lo hi : Nat} {dy : Int32} {V : Nat → Nat × Int32 × Int32 × Int32} {σ σ' : aS} (h : RTh G t nt dy V σ) (hf : Fr lo hi σ σ') (h2 : hi ≤ t ∨ t + 6 ≤ lo) : RTh G t nt dy V σ' := h.kept fun a _ _ => hf.2 a (by omega)
theorem RTy.kept {G : aG} {t nt sd : Nat} {dy : Int32} {V : Nat → Nat × Int32 × Int32 × Int32} {Y : Nat → Nat} {σ σ' : aS} (h : RTy G t nt dy V Y sd σ) (hk : ∀ a, t ≤ a → a < t + 6 → σ'.2 a = σ.2 a) : RTy G t nt dy V Y sd σ' := by
  obtain ⟨fs, fh, fl, fr, ft, h1, h2⟩ := h
  exact ⟨fs, fh, fl, fr, ft, h1.kept hk, h2⟩
def okV (nb nt : Nat) (V : Nat → Nat × Int32 × Int32 × Int32) : Prop := ∀ i, i < nt → (V i).1 < 512 ∧ ((V i).2.1 = -1 ∨ ∃ b, b < nb ∧ (V i).2.1 = nI b)
def inN (n : Nat) (x : Int32) : Bool := decide (0 ≤ x ∧ x < nI n)
theorem inN_t {n : Nat} {x : Int32} (hn : n < 2 ^ 31) (h : inN n x = true) : ∃ i, i < n ∧ x = nI i := by
  obtain ⟨h1, h2⟩ := of_decide_eq_true h
  obtain ⟨s, hs, rfl⟩ := nI_of (i_nlt.mpr h1)
  exact ⟨s, (nI_ltI hs hn).mp h2, rfl⟩
theorem inN_nI {n i : Nat} (hn : n < 2 ^ 31) (h : i < n) : inN n (nI i) = true := decide_eq_true ⟨nI_pos' (by omega), nI_lt h hn⟩
theorem nI_ne1 {i : Nat} (h : i < 2 ^ 31) : ¬ nI i = -1 := by
  intro q
  have := congrArg Int32.toInt q
  rw [nI_toInt h] at this
  have e : (-1 : Int32).toInt = -1 := by decide
  omega
def homeV (B : Nat → Nat × Nat × Nat × Nat) (v : Nat × Int32 × Int32 × Int32) : Nat := if v.2.1 = -1 then v.1 else mkB B v.2.1.toNatClampNeg v.1
theorem homeV_lt {nb nt : Nat} {B : Nat → Nat × Nat × Nat × Nat} {V : Nat → Nat × Int32 × Int32 × Int32} (hb : okB nb B) (hn : nb ≤ 6) (hv : okV nb nt V) {i : Nat} (hi : i < nt) : homeV B (V i) < 512 := by
  obtain ⟨h1, h2⟩ := hv i hi
  unfold homeV
  split
  · exact h1
  · rename_i q
    rcases h2 with h2 | ⟨b, h3, h4⟩
    · exact absurd h2 q
    · rw [h4, nI_clamp (by omega)]
      exact mkB_lt hb h3 h1
def hfind (V : Nat → Nat × Int32 × Int32 × Int32) (x : Int32) : Nat → Nat → Int32
  | 0, _ => -1
  | n + 1, i => if (V i).2.1 = x then nI i else hfind V x n (i + 1)
def heldBy (V : Nat → Nat × Int32 × Int32 × Int32) (nt : Nat) (x : Int32) : Int32 := hfind V x nt 0
theorem hfind_or (V : Nat → Nat × Int32 × Int32 × Int32) (x : Int32) : ∀ n i, hfind V x n i = -1 ∨ ∃ j, i ≤ j ∧ j < i + n ∧ hfind V x n i = nI j ∧ (V j).2.1 = x
  | 0, _ => .inl rfl
  | n + 1, i => by
    rw [hfind]
    split
    · rename_i h
      exact .inr ⟨i, Nat.le_refl _, by omega, rfl, h⟩
    · rcases hfind_or V x n (i + 1) with h | ⟨j, h1, h2, h3, h4⟩
      · exact .inl h
      · exact .inr ⟨j, by omega, by omega, h3, h4⟩
def leftAt (V : Nat → Nat × Int32 × Int32 × Int32) (nt : Nat) (x : Int32) : Int32 := if heldBy V nt x = -1 then 0 else (V (heldBy V nt x).toNatClampNeg).2.2.1
/-- one thing, a day on; whether it comes back -/
def stepV (B : Nat → Nat × Nat × Nat × Nat) (v : Nat × Int32 × Int32 × Int32) : Nat × Int32 × Int32 × Int32 := if v.2.1 = -1 then v else if v.2.2.1 - 1 = 0 then (homeV B v, -1, v.2.2.1 - 1, v.2.2.2 + 1) else (v.1, v.2.1, v.2.2.1 - 1, v.2.2.2)
def backV (v : Nat × Int32 × Int32 × Int32) : Bool := decide (¬ v.2.1 = -1 ∧ v.2.2.1 - 1 = 0)
def cntN (f : Nat → Bool) : Nat → Nat
  | 0 => 0
  | n + 1 => cntN f n + (if f n = true then 1 else 0)
def sumN (f : Nat → Nat) : Nat → Nat
  | 0 => 0
  | n + 1 => sumN f n + f n
set_option maxRecDepth 100000 in
set_option maxHeartbeats 1000000 in
theorem ct_has (l : Launch) (G : aG) {t nt : Nat} {dy : Int32} {V : Nat → Nat × Int32 × Int32 × Int32} {σ : aS} (hT : RTh G t nt dy V σ) {x : Int32} : ACt l G yX7_has cX7_has 2 (some (.boolean)) 0 0 0 [.ref t, .int x] σ (dP (some (.int (bI (inN nt x)))) σ) := by
  obtain ⟨sd, fs, fh, fl, fr, ft, ⟨a0, a1, a2, a3, a4, a5⟩, hnt, hv⟩ := id hT
  refine ACt.intro (own := RX7) (nm := "has") mk_X7_has rfl rfl [some (.ref t), some (.int x)] rfl (Nat.le_of_ble_eq_true rfl) (fun X hX hR => ?_)
  refine A_iload_n (pc := 0) rfl hX dX7_has_0 ?_
  refine A_if_lt (pc := 1) 16 hX dX7_has_1 rfl (fun c1 => ?_) (fun c1 => ?_)
  · refine A_iconst (pc := 16) (v := (nI 0)) (by decide) hX dX7_has_16 ?_
    refine A_iret (pc := 17) hX hR dX7_has_17 rfl rfl ?_
    exact bl_f (decide_eq_false fun q => i_nlt.mpr q.1 c1)
  · refine A_iload_n (pc := 4) rfl hX dX7_has_4 ?_
    refine A_aload_n (pc := 5) rfl hX dX7_has_5 ?_
    refine A_getf (pc := 6) hX fl_X7_27_7 dX7_has_6 (by repeat (first | assumption | exact aSet_s | exact aNew_s | refine lk_n ?_ (by omega) | refine lk_f (by assumption) ?_ (by omega) | refine lk_w ?_ (by omega))) (by exact rfl) ?_
    refine A_icmp_ge (pc := 9) 16 hX dX7_has_9 rfl (fun c9 => ?_) (fun c9 => ?_)
    · refine A_iconst (pc := 16) (v := (nI 0)) (by decide) hX dX7_has_16 ?_
      refine A_iret (pc := 17) hX hR dX7_has_17 rfl rfl ?_
      exact bl_f (decide_eq_false fun q => i_nle.mpr q.2 c9)
    · refine A_iconst (pc := 12) (v := (nI 1)) (by decide) hX dX7_has_12 ?_
      refine A_goto (pc := 13) 17 hX dX7_has_13 rfl ?_
      refine A_iret (pc := 17) hX hR dX7_has_17 rfl rfl ?_
      exact bl_t (decide_eq_true ⟨i_nlt.mp c1, i_nle.mp c9⟩)
set_option maxRecDepth 100000 in
set_option maxHeartbeats 1000000 in
theorem ct_stateOf (l : Launch) (G : aG) {t nt : Nat} {dy : Int32} {V : Nat → Nat × Int32 × Int32 × Int32} {σ : aS} (hT : RTh G t nt dy V σ) {i : Nat} (hi : i < nt) : ACt l G yX7_stateOf cX7_stateOf 2 (some .int) 1 0 0 [.ref t, .int (nI i)] σ (dP (some (.int (nI (V i).1))) σ) := by
  obtain ⟨sd, fs, fh, fl, fr, ft, ⟨a0, a1, a2, a3, a4, a5⟩, hnt, hv⟩ := id hT
  refine ACt.intro (own := RX7) (nm := "stateOf") mk_X7_stateOf rfl rfl [some (.ref t), some (.int (nI i))] rfl (Nat.le_of_ble_eq_true rfl) (fun X hX hR => ?_)
  refine A_aload_n (pc := 0) rfl hX dX7_stateOf_0 ?_
  refine A_getf (pc := 1) hX fl_X7_9_7 dX7_stateOf_1 (by repeat (first | assumption | exact aSet_s | exact aNew_s | refine lk_n ?_ (by omega) | refine lk_f (by assumption) ?_ (by omega) | refine lk_w ?_ (by omega))) (by exact rfl) ?_
  refine A_iload_n (pc := 4) rfl hX dX7_stateOf_4 ?_
  refine A_S2d (pc := 5) hX mk_X11_at ls_X7_34 dX7_stateOf_5 (ct_at l G (by repeat (first | assumption | exact aSet_s | exact aNew_s | refine lk_n ?_ (by omega) | refine lk_f (by assumption) ?_ (by omega) | refine lk_w ?_ (by omega))) (by decide)) rfl (Nat.le_of_ble_eq_true rfl) (Nat.le_of_ble_eq_true rfl) (Nat.le_of_ble_eq_true rfl) (Nat.le_of_ble_eq_true rfl) (Nat.le_of_ble_eq_true rfl) ?_
  refine A_iret (pc := 8) hX hR dX7_stateOf_8 rfl rfl ?_
  exact ⟨by rw [atS_nI (by omega) (by decide), (hv i hi).1], rfl⟩
set_option maxRecDepth 100000 in
set_option maxHeartbeats 1000000 in
theorem ct_holderOf (l : Launch) (G : aG) {t nt : Nat} {dy : Int32} {V : Nat → Nat × Int32 × Int32 × Int32} {σ : aS} (hT : RTh G t nt dy V σ) {i : Nat} (hi : i < nt) : ACt l G yX7_holderOf cX7_holderOf 2 (some .int) 1 0 0 [.ref t, .int (nI i)] σ (dP (some (.int ((V i).2.1))) σ) := by
  obtain ⟨sd, fs, fh, fl, fr, ft, ⟨a0, a1, a2, a3, a4, a5⟩, hnt, hv⟩ := id hT
  refine ACt.intro (own := RX7) (nm := "holderOf") mk_X7_holderOf rfl rfl [some (.ref t), some (.int (nI i))] rfl (Nat.le_of_ble_eq_true rfl) (fun X hX hR => ?_)
  refine A_aload_n (pc := 0) rfl hX dX7_holderOf_0 ?_
  refine A_getf (pc := 1) hX fl_X7_15_7 dX7_holderOf_1 (by repeat (first | assumption | exact aSet_s | exact aNew_s | refine lk_n ?_ (by omega) | refine lk_f (by assumption) ?_ (by omega) | refine lk_w ?_ (by omega))) (by exact rfl) ?_
  refine A_iload_n (pc := 4) rfl hX dX7_holderOf_4 ?_
  refine A_S2d (pc := 5) hX mk_X11_at ls_X7_34 dX7_holderOf_5 (ct_at l G (by repeat (first | assumption | exact aSet_s | exact aNew_s | refine lk_n ?_ (by omega) | refine lk_f (by assumption) ?_ (by omega) | refine lk_w ?_ (by omega))) (by decide)) rfl (Nat.le_of_ble_eq_true rfl) (Nat.le_of_ble_eq_true rfl) (Nat.le_of_ble_eq_true rfl) (Nat.le_of_ble_eq_true rfl) (Nat.le_of_ble_eq_true rfl) ?_
  refine A_iret (pc := 8) hX hR dX7_holderOf_8 rfl rfl ?_
  exact ⟨by rw [atS_nI (by omega) (by decide), (hv i hi).2.1], rfl⟩
set_option maxRecDepth 100000 in
set_option maxHeartbeats 1000000 in
theorem ct_returnsOf (l : Launch) (G : aG) {t nt : Nat} {dy : Int32} {V : Nat → Nat × Int32 × Int32 × Int32} {σ : aS} (hT : RTh G t nt dy V σ) {i : Nat} (hi : i < nt) : ACt l G yX7_returnsOf cX7_returnsOf 2 (some .int) 1 0 0 [.ref t, .int (nI i)] σ (dP (some (.int ((V i).2.2.2))) σ) := by
  obtain ⟨sd, fs, fh, fl, fr, ft, ⟨a0, a1, a2, a3, a4, a5⟩, hnt, hv⟩ := id hT
  refine ACt.intro (own := RX7) (nm := "returnsOf") mk_X7_returnsOf rfl rfl [some (.ref t), some (.int (nI i))] rfl (Nat.le_of_ble_eq_true rfl) (fun X hX hR => ?_)
  refine A_aload_n (pc := 0) rfl hX dX7_returnsOf_0 ?_
  refine A_getf (pc := 1) hX fl_X7_21_7 dX7_returnsOf_1 (by repeat (first | assumption | exact aSet_s | exact aNew_s | refine lk_n ?_ (by omega) | refine lk_f (by assumption) ?_ (by omega) | refine lk_w ?_ (by omega))) (by exact rfl) ?_
  refine A_iload_n (pc := 4) rfl hX dX7_returnsOf_4 ?_
  refine A_S2d (pc := 5) hX mk_X11_at ls_X7_34 dX7_returnsOf_5 (ct_at l G (by repeat (first | assumption | exact aSet_s | exact aNew_s | refine lk_n ?_ (by omega) | refine lk_f (by assumption) ?_ (by omega) | refine lk_w ?_ (by omega))) (by decide)) rfl (Nat.le_of_ble_eq_true rfl) (Nat.le_of_ble_eq_true rfl) (Nat.le_of_ble_eq_true rfl) (Nat.le_of_ble_eq_true rfl) (Nat.le_of_ble_eq_true rfl) ?_
  refine A_iret (pc := 8) hX hR dX7_returnsOf_8 rfl rfl ?_
  exact ⟨by rw [atS_nI (by omega) (by decide), (hv i hi).2.2.2], rfl⟩
set_option maxRecDepth 100000 in
set_option maxHeartbeats 1000000 in
theorem ct_isLent (l : Launch) (G : aG) {t nt : Nat} {dy : Int32} {V : Nat → Nat × Int32 × Int32 × Int32} {σ : aS} (hT : RTh G t nt dy V σ) {i : Nat} (hi : i < nt) : ACt l G yX7_isLent cX7_isLent 2 (some (.boolean)) 1 0 0 [.ref t, .int (nI i)] σ (dP (some (.int (bI (decide (¬ (V i).2.1 = -1))))) σ) := by
  obtain ⟨sd, fs, fh, fl, fr, ft, ⟨a0, a1, a2, a3, a4, a5⟩, hnt, hv⟩ := id hT
  refine ACt.intro (own := RX7) (nm := "isLent") mk_X7_isLent rfl rfl [some (.ref t), some (.int (nI i))] rfl (Nat.le_of_ble_eq_true rfl) (fun X hX hR => ?_)
  refine A_aload_n (pc := 0) rfl hX dX7_isLent_0 ?_
  refine A_getf (pc := 1) hX fl_X7_15_7 dX7_isLent_1 (by repeat (first | assumption | exact aSet_s | exact aNew_s | refine lk_n ?_ (by omega) | refine lk_f (by assumption) ?_ (by omega) | refine lk_w ?_ (by omega))) (by exact rfl) ?_
  refine A_iload_n (pc := 4) rfl hX dX7_isLent_4 ?_
  refine A_S2d (pc := 5) hX mk_X11_at ls_X7_34 dX7_isLent_5 (ct_at l G (by repeat (first | assumption | exact aSet_s | exact aNew_s | refine lk_n ?_ (by omega) | refine lk_f (by assumption) ?_ (by omega) | refine lk_w ?_ (by omega))) (by decide)) rfl (Nat.le_of_ble_eq_true rfl) (Nat.le_of_ble_eq_true rfl) (Nat.le_of_ble_eq_true rfl) (Nat.le_of_ble_eq_true rfl) (Nat.le_of_ble_eq_true rfl) ?_
  refine A_top (y := (V i).2.1) (by rw [atS_nI (by omega) (by decide), (hv i hi).2.1]) ?_
  refine A_iconst (pc := 8) (v := (-1)) (by decide) hX dX7_isLent_8 ?_
  refine A_icmp_eq (pc := 9) 16 hX dX7_isLent_9 rfl (fun c9 => ?_) (fun c9 => ?_)
  · refine A_iconst (pc := 16) (v := (nI 0)) (by decide) hX dX7_isLent_16 ?_
    refine A_iret (pc := 17) hX hR dX7_isLent_17 rfl rfl ?_
    exact bl_f (decide_eq_false fun q => q c9)
  · refine A_iconst (pc := 12) (v := (nI 1)) (by decide) hX dX7_isLent_12 ?_
    refine A_goto (pc := 13) 17 hX dX7_isLent_13 rfl ?_
    refine A_iret (pc := 17) hX hR dX7_isLent_17 rfl rfl ?_
    exact bl_t (decide_eq_true c9)
set_option maxRecDepth 100000 in
set_option maxHeartbeats 1000000 in
theorem ct_stateAtHome (l : Launch) (G : aG) {w tp nb : Nat} {B : Nat → Nat × Nat × Nat × Nat} {t nt : Nat} {dy : Int32} {V : Nat → Nat × Int32 × Int32 × Int32} {σ : aS} (hT : RTh G t nt dy V σ) (hw : RTw G w tp nb B σ) (hV : okV nb nt V) {i : Nat} (hi : i < nt) : ACt l G yX7_stateAtHome cX7_stateAtHome 4 (some .int) 2 0 0 [.ref t, .int (nI i), .ref w] σ (dP (some (.int (nI (homeV B (V i))))) σ) := by
  obtain ⟨sd, fs, fh, fl, fr, ft, ⟨a0, a1, a2, a3, a4, a5⟩, hnt, hv⟩ := id hT
  obtain ⟨hwt, hnb, hok, bor, fa, fo, fn, e0, e1, e2, e3, e4, e5, e6⟩ := id hw
  refine ACt.intro (own := RX7) (nm := "stateAtHome") mk_X7_stateAtHome rfl rfl [some (.ref t), some (.int (nI i)), some (.ref w), none] rfl (Nat.le_of_ble_eq_true rfl) (fun X hX hR => ?_)
  refine A_aload_n (pc := 0) rfl hX dX7_stateAtHome_0 ?_
  refine A_getf (pc := 1) hX fl_X7_9_7 dX7_stateAtHome_1 (by repeat (first | assumption | exact aSet_s | exact aNew_s | refine lk_n ?_ (by omega) | refine lk_f (by assumption) ?_ (by omega) | refine lk_w ?_ (by omega))) (by exact rfl) ?_
  refine A_iload_n (pc := 4) rfl hX dX7_stateAtHome_4 ?_
  refine A_S2d (pc := 5) hX mk_X11_at ls_X7_34 dX7_stateAtHome_5 (ct_at l G (by repeat (first | assumption | exact aSet_s | exact aNew_s | refine lk_n ?_ (by omega) | refine lk_f (by assumption) ?_ (by omega) | refine lk_w ?_ (by omega))) (by decide)) rfl (Nat.le_of_ble_eq_true rfl) (Nat.le_of_ble_eq_true rfl) (Nat.le_of_ble_eq_true rfl) (Nat.le_of_ble_eq_true rfl) (Nat.le_of_ble_eq_true rfl) ?_
  refine A_top (y := nI (V i).1) (by rw [atS_nI (by omega) (by decide), (hv i hi).1]) ?_
  refine A_istore_n (pc := 8) (lv' := [_, _, _, _]) hX dX7_stateAtHome_8 (Nat.le_of_ble_eq_true rfl) rfl rfl ?_
  refine A_aload_n (pc := 9) rfl hX dX7_stateAtHome_9 ?_
  refine A_iload_n (pc := 10) rfl hX dX7_stateAtHome_10 ?_
  refine A_V1d (pc := 11) hX mk_X7_isLent lv_X7_42 dX7_stateAtHome_11 (by repeat (first | assumption | exact aSet_s | exact aNew_s | refine lk_n ?_ (by omega) | refine lk_f (by assumption) ?_ (by omega) | refine lk_w ?_ (by omega))) (ct_isLent l G hT hi) rfl (Nat.le_of_ble_eq_true rfl) (Nat.le_of_ble_eq_true rfl) (Nat.le_of_ble_eq_true rfl) (Nat.le_of_ble_eq_true rfl) (Nat.le_of_ble_eq_true rfl) ?_
  refine A_if_eq (pc := 14) 33 hX dX7_stateAtHome_14 rfl (fun c14 => ?_) (fun c14 => ?_)
  · refine A_iload_n (pc := 33) rfl hX dX7_stateAtHome_33 ?_
    refine A_iret (pc := 34) hX hR dX7_stateAtHome_34 rfl rfl ?_
    have hl : (V i).2.1 = -1 := by
      have := of_decide_eq_false (bI_eq c14)
      exact Decidable.byContradiction this
    exact ⟨by rw [homeV, if_pos hl], rfl⟩
  · have hl := of_decide_eq_true (bI_ne c14)
    obtain ⟨b, hb, hbe⟩ := (hV i hi).2.resolve_left hl
    refine A_aload_n (pc := 17) rfl hX dX7_stateAtHome_17 ?_
    refine A_aload_n (pc := 18) rfl hX dX7_stateAtHome_18 ?_
    refine A_getf (pc := 19) hX fl_X7_15_7 dX7_stateAtHome_19 (by repeat (first | assumption | exact aSet_s | exact aNew_s | refine lk_n ?_ (by omega) | refine lk_f (by assumption) ?_ (by omega) | refine lk_w ?_ (by omega))) (by exact rfl) ?_
    refine A_iload_n (pc := 22) rfl hX dX7_stateAtHome_22 ?_
    refine A_S2d (pc := 23) hX mk_X11_at ls_X7_34 dX7_stateAtHome_23 (ct_at l G (by repeat (first | assumption | exact aSet_s | exact aNew_s | refine lk_n ?_ (by omega) | refine lk_f (by assumption) ?_ (by omega) | refine lk_w ?_ (by omega))) (by decide)) rfl (Nat.le_of_ble_eq_true rfl) (Nat.le_of_ble_eq_true rfl) (Nat.le_of_ble_eq_true rfl) (Nat.le_of_ble_eq_true rfl) (Nat.le_of_ble_eq_true rfl) ?_
    refine A_top (y := nI b) (by rw [atS_nI (by omega) (by decide), (hv i hi).2.1, hbe]) ?_
    refine A_iload_n (pc := 26) rfl hX dX7_stateAtHome_26 ?_
    refine A_V2d (pc := 27) hX mk_X8_after lv_X7_46 dX7_stateAtHome_27 (by repeat (first | assumption | exact aSet_s | exact aNew_s | refine lk_n ?_ (by omega) | refine lk_f (by assumption) ?_ (by omega) | refine lk_w ?_ (by omega))) (ct_after l G hw hb (hV i hi).1) rfl (Nat.le_of_ble_eq_true rfl) (Nat.le_of_ble_eq_true rfl) (Nat.le_of_ble_eq_true rfl) (Nat.le_of_ble_eq_true rfl) (Nat.le_of_ble_eq_true rfl) ?_
    refine A_goto (pc := 30) 34 hX dX7_stateAtHome_30 rfl ?_
    refine A_iret (pc := 34) hX hR dX7_stateAtHome_34 rfl rfl ?_
    exact ⟨by rw [homeV, if_neg hl, hbe, nI_clamp (by omega)], rfl⟩
set_option maxRecDepth 100000 in
set_option maxHeartbeats 1000000 in
theorem ct_Th_empty (l : Launch) (G : aG) {t nt : Nat} {dy : Int32} {V : Nat → Nat × Int32 × Int32 × Int32} {σ : aS} (hT : RTh G t nt dy V σ) : ACt l G yX7_empty cX7_empty 1 (none) 0 0 0 [.ref t] σ (vP (fun σ' => RTh G t (0) (0) (V) σ' ∧ Fr t (t + 6) σ σ')) := by
  obtain ⟨sd, fs, fh, fl, fr, ft, ⟨a0, a1, a2, a3, a4, a5⟩, hnt, hv⟩ := id hT
  refine ACt.intro (own := RX7) (nm := "empty") mk_X7_empty rfl rfl [some (.ref t)] rfl (Nat.le_of_ble_eq_true rfl) (fun X hX hR => ?_)
  refine A_aload_n (pc := 0) rfl hX dX7_empty_0 ?_
  refine A_iconst (pc := 1) (v := (nI 0)) (by decide) hX dX7_empty_1 ?_
  refine A_putf (pc := 2) (fs' := [_, _, _, _, _, _, _, _]) hX pl_X7_27_7 dX7_empty_2 (by repeat (first | assumption | exact aSet_s | exact aNew_s | refine lk_n ?_ (by omega) | refine lk_f (by assumption) ?_ (by omega) | refine lk_w ?_ (by omega))) (by exact Nat.le_of_ble_eq_true rfl) (by exact rfl) rfl rfl ?_
  refine A_aload_n (pc := 5) rfl hX dX7_empty_5 ?_
  refine A_iconst (pc := 6) (v := (nI 0)) (by decide) hX dX7_empty_6 ?_
  refine A_putf (pc := 7) (fs' := [_, _, _, _, _, _, _, _]) hX pl_X7_31_7 dX7_empty_7 (by repeat (first | assumption | exact aSet_s | exact aNew_s | refine lk_n ?_ (by omega) | refine lk_f (by assumption) ?_ (by omega) | refine lk_w ?_ (by omega))) (by exact Nat.le_of_ble_eq_true rfl) (by exact rfl) rfl rfl ?_
  refine A_ret (pc := 10) hX hR dX7_empty_10 ?_
  exact ⟨rfl, ⟨_, _, _, _, _, _, ⟨aSet_s, (by repeat (first | assumption | exact aSet_s | exact aNew_s | refine lk_n ?_ (by omega) | refine lk_f (by assumption) ?_ (by omega) | refine lk_w ?_ (by omega))), (by repeat (first | assumption | exact aSet_s | exact aNew_s | refine lk_n ?_ (by omega) | refine lk_f (by assumption) ?_ (by omega) | refine lk_w ?_ (by omega))), (by repeat (first | assumption | exact aSet_s | exact aNew_s | refine lk_n ?_ (by omega) | refine lk_f (by assumption) ?_ (by omega) | refine lk_w ?_ (by omega))), (by repeat (first | assumption | exact aSet_s | exact aNew_s | refine lk_n ?_ (by omega) | refine lk_f (by assumption) ?_ (by omega) | refine lk_w ?_ (by omega))), (by repeat (first | assumption | exact aSet_s | exact aNew_s | refine lk_n ?_ (by omega) | refine lk_f (by assumption) ?_ (by omega) | refine lk_w ?_ (by omega)))⟩, by omega, fun i hi => absurd hi (by omega)⟩, (by repeat (first | exact Fr.rf | refine Fr.set ?_ (by omega) (by omega) | refine Fr.tr ?_ (Fr.wd (by assumption) (by omega) (by omega))))⟩
set_option maxRecDepth 100000 in
set_option maxHeartbeats 1000000 in
theorem ct_Th_add (l : Launch) (G : aG) {t nt : Nat} {dy : Int32} {V : Nat → Nat × Int32 × Int32 × Int32} {σ : aS} (hT : RTh G t nt dy V σ) {s : Nat} (hs : s < 512) (hn : nt < 4) : ACt l G yX7_add cX7_add 3 (some .int) 1 0 0 [.ref t, .int (nI s)] σ (iP (fun x σ' => x = nI nt ∧ RTh G t (nt + 1) (dy) (fun i => if i = nt then (s, -1, 0, 0) else V i) σ' ∧ Fr t (t + 6) σ σ')) := by
  obtain ⟨sd, fs, fh, fl, fr, ft, ⟨a0, a1, a2, a3, a4, a5⟩, hnt, hv⟩ := id hT
  refine ACt.intro (own := RX7) (nm := "add") mk_X7_add rfl rfl [some (.ref t), some (.int (nI s)), none] rfl (Nat.le_of_ble_eq_true rfl) (fun X hX hR => ?_)
  refine A_aload_n (pc := 0) rfl hX dX7_add_0 ?_
  refine A_getf (pc := 1) hX fl_X7_27_7 dX7_add_1 (by repeat (first | assumption | exact aSet_s | exact aNew_s | refine lk_n ?_ (by omega) | refine lk_f (by assumption) ?_ (by omega) | refine lk_w ?_ (by omega))) (by exact rfl) ?_
  refine A_istore_n (pc := 4) (lv' := [_, _, _]) hX dX7_add_4 (Nat.le_of_ble_eq_true rfl) rfl rfl ?_
  refine A_aload_n (pc := 5) rfl hX dX7_add_5 ?_
  refine A_getf (pc := 6) hX fl_X7_9_7 dX7_add_6 (by repeat (first | assumption | exact aSet_s | exact aNew_s | refine lk_n ?_ (by omega) | refine lk_f (by assumption) ?_ (by omega) | refine lk_w ?_ (by omega))) (by exact rfl) ?_
  refine A_iload_n (pc := 9) rfl hX dX7_add_9 ?_
  refine A_iload_n (pc := 10) rfl hX dX7_add_10 ?_
  refine A_S3v (pc := 11) hX mk_X11_put ls_X7_38 dX7_add_11 (ct_put l G (by repeat (first | assumption | exact aSet_s | exact aNew_s | refine lk_n ?_ (by omega) | refine lk_f (by assumption) ?_ (by omega) | refine lk_w ?_ (by omega))) (by decide)) rfl (Nat.le_of_ble_eq_true rfl) (Nat.le_of_ble_eq_true rfl) (Nat.le_of_ble_eq_true rfl) (Nat.le_of_ble_eq_true rfl) (Nat.le_of_ble_eq_true rfl) (fun σ11 h11 => ?_)
  obtain ⟨h11, hf11⟩ := h11
  refine A_aload_n (pc := 14) rfl hX dX7_add_14 ?_
  refine A_getf (pc := 15) hX fl_X7_15_7 dX7_add_15 (by repeat (first | assumption | exact aSet_s | exact aNew_s | refine lk_n ?_ (by omega) | refine lk_f (by assumption) ?_ (by omega) | refine lk_w ?_ (by omega))) (by exact rfl) ?_
  refine A_iload_n (pc := 18) rfl hX dX7_add_18 ?_
  refine A_iconst (pc := 19) (v := (-1)) (by decide) hX dX7_add_19 ?_
  refine A_S3v (pc := 20) hX mk_X11_put ls_X7_38 dX7_add_20 (ct_put l G (by repeat (first | assumption | exact aSet_s | exact aNew_s | refine lk_n ?_ (by omega) | refine lk_f (by assumption) ?_ (by omega) | refine lk_w ?_ (by omega))) (by decide)) rfl (Nat.le_of_ble_eq_true rfl) (Nat.le_of_ble_eq_true rfl) (Nat.le_of_ble_eq_true rfl) (Nat.le_of_ble_eq_true rfl) (Nat.le_of_ble_eq_true rfl) (fun σ20 h20 => ?_)
  obtain ⟨h20, hf20⟩ := h20
  refine A_aload_n (pc := 23) rfl hX dX7_add_23 ?_
  refine A_getf (pc := 24) hX fl_X7_18_7 dX7_add_24 (by repeat (first | assumption | exact aSet_s | exact aNew_s | refine lk_n ?_ (by omega) | refine lk_f (by assumption) ?_ (by omega) | refine lk_w ?_ (by omega))) (by exact rfl) ?_
  refine A_iload_n (pc := 27) rfl hX dX7_add_27 ?_
  refine A_iconst (pc := 28) (v := (nI 0)) (by decide) hX dX7_add_28 ?_
  refine A_S3v (pc := 29) hX mk_X11_put ls_X7_38 dX7_add_29 (ct_put l G (by repeat (first | assumption | exact aSet_s | exact aNew_s | refine lk_n ?_ (by omega) | refine lk_f (by assumption) ?_ (by omega) | refine lk_w ?_ (by omega))) (by decide)) rfl (Nat.le_of_ble_eq_true rfl) (Nat.le_of_ble_eq_true rfl) (Nat.le_of_ble_eq_true rfl) (Nat.le_of_ble_eq_true rfl) (Nat.le_of_ble_eq_true rfl) (fun σ29 h29 => ?_)
  obtain ⟨h29, hf29⟩ := h29
  refine A_aload_n (pc := 32) rfl hX dX7_add_32 ?_
  refine A_getf (pc := 33) hX fl_X7_21_7 dX7_add_33 (by repeat (first | assumption | exact aSet_s | exact aNew_s | refine lk_n ?_ (by omega) | refine lk_f (by assumption) ?_ (by omega) | refine lk_w ?_ (by omega))) (by exact rfl) ?_
  refine A_iload_n (pc := 36) rfl hX dX7_add_36 ?_
  refine A_iconst (pc := 37) (v := (nI 0)) (by decide) hX dX7_add_37 ?_
  refine A_S3v (pc := 38) hX mk_X11_put ls_X7_38 dX7_add_38 (ct_put l G (by repeat (first | assumption | exact aSet_s | exact aNew_s | refine lk_n ?_ (by omega) | refine lk_f (by assumption) ?_ (by omega) | refine lk_w ?_ (by omega))) (by decide)) rfl (Nat.le_of_ble_eq_true rfl) (Nat.le_of_ble_eq_true rfl) (Nat.le_of_ble_eq_true rfl) (Nat.le_of_ble_eq_true rfl) (Nat.le_of_ble_eq_true rfl) (fun σ38 h38 => ?_)
  obtain ⟨h38, hf38⟩ := h38
  refine A_aload_n (pc := 41) rfl hX dX7_add_41 ?_
  refine A_dup (pc := 42) rfl hX dX7_add_42 ?_
  refine A_getf (pc := 43) hX fl_X7_27_7 dX7_add_43 (by repeat (first | assumption | exact aSet_s | exact aNew_s | refine lk_n ?_ (by omega) | refine lk_f (by assumption) ?_ (by omega) | refine lk_w ?_ (by omega))) (by exact rfl) ?_
  refine A_iconst (pc := 46) (v := (nI 1)) (by decide) hX dX7_add_46 ?_
  refine A_iadd (pc := 47) hX dX7_add_47 ?_
  refine A_top (y := nI (nt + 1)) (nI_succ nt).symm ?_
  refine A_putf (pc := 48) (fs' := [_, _, _, _, _, _, _, _]) hX pl_X7_27_7 dX7_add_48 (by repeat (first | assumption | exact aSet_s | exact aNew_s | refine lk_n ?_ (by omega) | refine lk_f (by assumption) ?_ (by omega) | refine lk_w ?_ (by omega))) (by exact Nat.le_of_ble_eq_true rfl) (by exact rfl) rfl rfl ?_
  refine A_iload_n (pc := 51) rfl hX dX7_add_51 ?_
  refine A_iret (pc := 52) hX hR dX7_add_52 rfl rfl ?_
  refine ⟨_, rfl, rfl, ⟨_, _, _, _, _, _, ⟨aSet_s, (by repeat (first | assumption | exact aSet_s | exact aNew_s | refine lk_n ?_ (by omega) | refine lk_f (by assumption) ?_ (by omega) | refine lk_w ?_ (by omega))), (by repeat (first | assumption | exact aSet_s | exact aNew_s | refine lk_n ?_ (by omega) | refine lk_f (by assumption) ?_ (by omega) | refine lk_w ?_ (by omega))), (by repeat (first | assumption | exact aSet_s | exact aNew_s | refine lk_n ?_ (by omega) | refine lk_f (by assumption) ?_ (by omega) | refine lk_w ?_ (by omega))), (by repeat (first | assumption | exact aSet_s | exact aNew_s | refine lk_n ?_ (by omega) | refine lk_f (by assumption) ?_ (by omega) | refine lk_w ?_ (by omega))), (by repeat (first | assumption | exact aSet_s | exact aNew_s | refine lk_n ?_ (by omega) | refine lk_f (by assumption) ?_ (by omega) | refine lk_w ?_ (by omega)))⟩, by omega, fun i hi => ?_⟩, (by repeat (first | exact Fr.rf | refine Fr.set ?_ (by omega) (by omega) | refine Fr.tr ?_ (Fr.wd (by assumption) (by omega) (by omega))))⟩
  rw [putS_nI (by omega) (by decide), putS_nI (by omega) (by decide), putS_nI (by omega) (by decide), putS_nI (by omega) (by decide)]
  by_cases q : i = nt
  · subst q; simp [upd]; decide
  · simp only [upd, if_neg q]
    exact hv i (by omega)
set_option maxRecDepth 100000 in
set_option maxHeartbeats 1000000 in
theorem ct_Th_give (l : Launch) (G : aG) {t nt : Nat} {dy : Int32} {V : Nat → Nat × Int32 × Int32 × Int32} {σ : aS} (hT : RTh G t nt dy V σ) {i : Nat} {x y : Int32} (hi : i < nt) : ACt l G yX7_give cX7_give 4 (none) 1 0 0 [.ref t, .int (nI i), .int x, .int y] σ (vP (fun σ' => RTh G t (nt) (dy) (fun j => if j = i then ((V i).1, x, y, (V i).2.2.2) else V j) σ' ∧ Fr t (t + 6) σ σ')) := by
  obtain ⟨sd, fs, fh, fl, fr, ft, ⟨a0, a1, a2, a3, a4, a5⟩, hnt, hv⟩ := id hT
  refine ACt.intro (own := RX7) (nm := "give") mk_X7_give rfl rfl [some (.ref t), some (.int (nI i)), some (.int x), some (.int y)] rfl (Nat.le_of_ble_eq_true rfl) (fun X hX hR => ?_)
  refine A_aload_n (pc := 0) rfl hX dX7_give_0 ?_
  refine A_getf (pc := 1) hX fl_X7_15_7 dX7_give_1 (by repeat (first | assumption | exact aSet_s | exact aNew_s | refine lk_n ?_ (by omega) | refine lk_f (by assumption) ?_ (by omega) | refine lk_w ?_ (by omega))) (by exact rfl) ?_
  refine A_iload_n (pc := 4) rfl hX dX7_give_4 ?_
  refine A_iload_n (pc := 5) rfl hX dX7_give_5 ?_
  refine A_S3v (pc := 6) hX mk_X11_put ls_X7_38 dX7_give_6 (ct_put l G (by repeat (first | assumption | exact aSet_s | exact aNew_s | refine lk_n ?_ (by omega) | refine lk_f (by assumption) ?_ (by omega) | refine lk_w ?_ (by omega))) (by decide)) rfl (Nat.le_of_ble_eq_true rfl) (Nat.le_of_ble_eq_true rfl) (Nat.le_of_ble_eq_true rfl) (Nat.le_of_ble_eq_true rfl) (Nat.le_of_ble_eq_true rfl) (fun σ6 h6 => ?_)
  obtain ⟨h6, hf6⟩ := h6
  refine A_aload_n (pc := 9) rfl hX dX7_give_9 ?_
  refine A_getf (pc := 10) hX fl_X7_18_7 dX7_give_10 (by repeat (first | assumption | exact aSet_s | exact aNew_s | refine lk_n ?_ (by omega) | refine lk_f (by assumption) ?_ (by omega) | refine lk_w ?_ (by omega))) (by exact rfl) ?_
  refine A_iload_n (pc := 13) rfl hX dX7_give_13 ?_
  refine A_iload_n (pc := 14) rfl hX dX7_give_14 ?_
  refine A_S3v (pc := 15) hX mk_X11_put ls_X7_38 dX7_give_15 (ct_put l G (by repeat (first | assumption | exact aSet_s | exact aNew_s | refine lk_n ?_ (by omega) | refine lk_f (by assumption) ?_ (by omega) | refine lk_w ?_ (by omega))) (by decide)) rfl (Nat.le_of_ble_eq_true rfl) (Nat.le_of_ble_eq_true rfl) (Nat.le_of_ble_eq_true rfl) (Nat.le_of_ble_eq_true rfl) (Nat.le_of_ble_eq_true rfl) (fun σ15 h15 => ?_)
  obtain ⟨h15, hf15⟩ := h15
  refine A_ret (pc := 18) hX hR dX7_give_18 ?_
  refine ⟨rfl, ⟨_, _, _, _, _, _, ⟨(by repeat (first | assumption | exact aSet_s | exact aNew_s | refine lk_n ?_ (by omega) | refine lk_f (by assumption) ?_ (by omega) | refine lk_w ?_ (by omega))), (by repeat (first | assumption | exact aSet_s | exact aNew_s | refine lk_n ?_ (by omega) | refine lk_f (by assumption) ?_ (by omega) | refine lk_w ?_ (by omega))), (by repeat (first | assumption | exact aSet_s | exact aNew_s | refine lk_n ?_ (by omega) | refine lk_f (by assumption) ?_ (by omega) | refine lk_w ?_ (by omega))), (by repeat (first | assumption | exact aSet_s | exact aNew_s | refine lk_n ?_ (by omega) | refine lk_f (by assumption) ?_ (by omega) | refine lk_w ?_ (by omega))), (by repeat (first | assumption | exact aSet_s | exact aNew_s | refine lk_n ?_ (by omega) | refine lk_f (by assumption) ?_ (by omega) | refine lk_w ?_ (by omega))), (by repeat (first | assumption | exact aSet_s | exact aNew_s | refine lk_n ?_ (by omega) | refine lk_f (by assumption) ?_ (by omega) | refine lk_w ?_ (by omega)))⟩, hnt, fun j hj => ?_⟩, (by repeat (first | exact Fr.rf | refine Fr.set ?_ (by omega) (by omega) | refine Fr.tr ?_ (Fr.wd (by assumption) (by omega) (by omega))))⟩
  rw [putS_nI (by omega) (by decide), putS_nI (by omega) (by decide)]
  have h1 := hv j hj
  by_cases q : j = i
  · subst q; simp only [upd, if_pos]; exact ⟨h1.1, trivial, trivial, h1.2.2.2⟩
  · simp only [upd, if_neg q]; exact h1
set_option maxRecDepth 100000 in
set_option maxHeartbeats 1000000 in
theorem ct_numberHeldBy (l : Launch) (G : aG) {t nt : Nat} {dy : Int32} {V : Nat → Nat × Int32 × Int32 × Int32} {σ : aS} (hT : RTh G t nt dy V σ) {x : Int32} : ACt l G yX7_numberHeldBy cX7_numberHeldBy 3 (some .int) 1 0 0 [.ref t, .int x] σ (dP (some (.int (heldBy V nt x))) σ) := by
  obtain ⟨sd, fs, fh, fl, fr, ft, ⟨a0, a1, a2, a3, a4, a5⟩, hnt, hv⟩ := id hT
  refine ACt.intro (own := RX7) (nm := "numberHeldBy") mk_X7_numberHeldBy rfl rfl [some (.ref t), some (.int x), none] rfl (Nat.le_of_ble_eq_true rfl) (fun X hX hR => ?_)
  refine A_iconst (pc := 0) (v := (nI 0)) (by decide) hX dX7_numberHeldBy_0 ?_
  refine A_istore_n (pc := 1) (lv' := [_, _, _]) hX dX7_numberHeldBy_1 (Nat.le_of_ble_eq_true rfl) rfl rfl ?_
  suffices hl : ∀ (m i : Nat), i ≤ nt → nt - i = m → hfind V x m i = heldBy V nt x → AA G X 0 0 2 [some (.ref t), some (.int x), some (.int (nI i))] [] σ from hl nt 0 (Nat.zero_le _) (by omega) rfl
  intro m
  induction m with
  | zero =>
    intro i hi hm hf
    refine A_iload_n (pc := 2) rfl hX dX7_numberHeldBy_2 ?_
    refine A_aload_n (pc := 3) rfl hX dX7_numberHeldBy_3 ?_
    refine A_getf (pc := 4) hX fl_X7_27_7 dX7_numberHeldBy_4 (by repeat (first | assumption | exact aSet_s | exact aNew_s | refine lk_n ?_ (by omega) | refine lk_f (by assumption) ?_ (by omega) | refine lk_w ?_ (by omega))) (by exact rfl) ?_
    refine A_icmp_ge (pc := 7) 30 hX dX7_numberHeldBy_7 rfl (fun c7 => ?_) (fun c7 => ?_)
    · refine A_iconst (pc := 30) (v := (-1)) (by decide) hX dX7_numberHeldBy_30 ?_
      refine A_iret (pc := 31) hX hR dX7_numberHeldBy_31 rfl rfl ?_
      exact ⟨by rw [← hf]; rfl, rfl⟩
    · exact absurd (nI_le (by omega) (by omega)) c7
  | succ m ih =>
    intro i hi hm hf
    have hlt : i < nt := by omega
    rw [hfind] at hf
    refine A_iload_n (pc := 2) rfl hX dX7_numberHeldBy_2 ?_
    refine A_aload_n (pc := 3) rfl hX dX7_numberHeldBy_3 ?_
    refine A_getf (pc := 4) hX fl_X7_27_7 dX7_numberHeldBy_4 (by repeat (first | assumption | exact aSet_s | exact aNew_s | refine lk_n ?_ (by omega) | refine lk_f (by assumption) ?_ (by omega) | refine lk_w ?_ (by omega))) (by exact rfl) ?_
    refine A_icmp_ge (pc := 7) 30 hX dX7_numberHeldBy_7 rfl (fun c7 => ?_) (fun c7 => ?_)
    · exact absurd c7 (nI_ge hlt (by omega))
    · refine A_aload_n (pc := 10) rfl hX dX7_numberHeldBy_10 ?_
      refine A_getf (pc := 11) hX fl_X7_15_7 dX7_numberHeldBy_11 (by repeat (first | assumption | exact aSet_s | exact aNew_s | refine lk_n ?_ (by omega) | refine lk_f (by assumption) ?_ (by omega) | refine lk_w ?_ (by omega))) (by exact rfl) ?_
      refine A_iload_n (pc := 14) rfl hX dX7_numberHeldBy_14 ?_
      refine A_S2d (pc := 15) hX mk_X11_at ls_X7_34 dX7_numberHeldBy_15 (ct_at l G (by repeat (first | assumption | exact aSet_s | exact aNew_s | refine lk_n ?_ (by omega) | refine lk_f (by assumption) ?_ (by omega) | refine lk_w ?_ (by omega))) (by decide)) rfl (Nat.le_of_ble_eq_true rfl) (Nat.le_of_ble_eq_true rfl) (Nat.le_of_ble_eq_true rfl) (Nat.le_of_ble_eq_true rfl) (Nat.le_of_ble_eq_true rfl) ?_
      refine A_top (y := (V i).2.1) (by rw [atS_nI (by omega) (by decide), (hv i hlt).2.1]) ?_
      refine A_iload_n (pc := 18) rfl hX dX7_numberHeldBy_18 ?_
      refine A_icmp_ne (pc := 19) 24 hX dX7_numberHeldBy_19 rfl (fun c19 => ?_) (fun c19 => ?_)
      · refine A_iinc (pc := 24) (v := (nI (i + 1))) (lv' := [_, _, _]) hX dX7_numberHeldBy_24 rfl (nI_succ i).symm rfl rfl ?_
        refine A_goto (pc := 27) 2 hX dX7_numberHeldBy_27 rfl ?_
        exact ih (i + 1) (by omega) (by omega) (by rw [if_neg c19] at hf; exact hf)
      · refine A_iload_n (pc := 22) rfl hX dX7_numberHeldBy_22 ?_
        refine A_iret (pc := 23) hX hR dX7_numberHeldBy_23 rfl rfl ?_
        exact ⟨by rw [if_pos c19] at hf; rw [← hf], rfl⟩
set_option maxRecDepth 100000 in
set_option maxHeartbeats 1000000 in
theorem ct_daysLeftAt (l : Launch) (G : aG) {t nt : Nat} {dy : Int32} {V : Nat → Nat × Int32 × Int32 × Int32} {σ : aS} (hT : RTh G t nt dy V σ) {x : Int32} : ACt l G yX7_daysLeftAt cX7_daysLeftAt 3 (some .int) 2 0 0 [.ref t, .int x] σ (dP (some (.int (leftAt V nt x))) σ) := by
  obtain ⟨sd, fs, fh, fl, fr, ft, ⟨a0, a1, a2, a3, a4, a5⟩, hnt, hv⟩ := id hT
  refine ACt.intro (own := RX7) (nm := "daysLeftAt") mk_X7_daysLeftAt rfl rfl [some (.ref t), some (.int x), none] rfl (Nat.le_of_ble_eq_true rfl) (fun X hX hR => ?_)
  refine A_aload_n (pc := 0) rfl hX dX7_daysLeftAt_0 ?_
  refine A_iload_n (pc := 1) rfl hX dX7_daysLeftAt_1 ?_
  refine A_V1d (pc := 2) hX mk_X7_numberHeldBy lv_X7_52 dX7_daysLeftAt_2 (by repeat (first | assumption | exact aSet_s | exact aNew_s | refine lk_n ?_ (by omega) | refine lk_f (by assumption) ?_ (by omega) | refine lk_w ?_ (by omega))) (ct_numberHeldBy l G hT) rfl (Nat.le_of_ble_eq_true rfl) (Nat.le_of_ble_eq_true rfl) (Nat.le_of_ble_eq_true rfl) (Nat.le_of_ble_eq_true rfl) (Nat.le_of_ble_eq_true rfl) ?_
  refine A_istore_n (pc := 5) (lv' := [_, _, _]) hX dX7_daysLeftAt_5 (Nat.le_of_ble_eq_true rfl) rfl rfl ?_
  refine A_iload_n (pc := 6) rfl hX dX7_daysLeftAt_6 ?_
  refine A_iconst (pc := 7) (v := (-1)) (by decide) hX dX7_daysLeftAt_7 ?_
  refine A_icmp_ne (pc := 8) 15 hX dX7_daysLeftAt_8 rfl (fun c8 => ?_) (fun c8 => ?_)
  · refine A_aload_n (pc := 15) rfl hX dX7_daysLeftAt_15 ?_
    refine A_getf (pc := 16) hX fl_X7_18_7 dX7_daysLeftAt_16 (by repeat (first | assumption | exact aSet_s | exact aNew_s | refine lk_n ?_ (by omega) | refine lk_f (by assumption) ?_ (by omega) | refine lk_w ?_ (by omega))) (by exact rfl) ?_
    refine A_iload_n (pc := 19) rfl hX dX7_daysLeftAt_19 ?_
    refine A_S2d (pc := 20) hX mk_X11_at ls_X7_34 dX7_daysLeftAt_20 (ct_at l G (by repeat (first | assumption | exact aSet_s | exact aNew_s | refine lk_n ?_ (by omega) | refine lk_f (by assumption) ?_ (by omega) | refine lk_w ?_ (by omega))) (by decide)) rfl (Nat.le_of_ble_eq_true rfl) (Nat.le_of_ble_eq_true rfl) (Nat.le_of_ble_eq_true rfl) (Nat.le_of_ble_eq_true rfl) (Nat.le_of_ble_eq_true rfl) ?_
    refine A_iret (pc := 23) hX hR dX7_daysLeftAt_23 rfl rfl ?_
    first
      | (rw [leftAt, if_pos c8]; exact ⟨rfl, rfl⟩)
      | (obtain ⟨j, -, j2, j3, -⟩ := (hfind_or V x nt 0).resolve_left c8
         have j3 : heldBy V nt x = nI j := j3
         exact ⟨by rw [leftAt, if_neg c8, j3, nI_clamp (by omega), atS_nI (by omega) (by decide), (hv j (by omega)).2.2.1], rfl⟩)
  · refine A_iconst (pc := 11) (v := (nI 0)) (by decide) hX dX7_daysLeftAt_11 ?_
    refine A_goto (pc := 12) 23 hX dX7_daysLeftAt_12 rfl ?_
    refine A_iret (pc := 23) hX hR dX7_daysLeftAt_23 rfl rfl ?_
    first
      | (rw [leftAt, if_pos c8]; exact ⟨rfl, rfl⟩)
      | (obtain ⟨j, -, j2, j3, -⟩ := (hfind_or V x nt 0).resolve_left c8
         have j3 : heldBy V nt x = nI j := j3
         exact ⟨by rw [leftAt, if_neg c8, j3, nI_clamp (by omega), atS_nI (by omega) (by decide), (hv j (by omega)).2.2.1], rfl⟩)
set_option maxRecDepth 100000 in
set_option maxHeartbeats 1000000 in
theorem ct_takeBack (l : Launch) (G : aG) {w tp nb : Nat} {B : Nat → Nat × Nat × Nat × Nat} {t nt : Nat} {dy : Int32} {V : Nat → Nat × Int32 × Int32 × Int32} {σ : aS} (hT : RTh G t nt dy V σ) (hw : RTw G w tp nb B σ) (hV : okV nb nt V) {i : Nat} (hi : i < nt) (hd : w + 5 ≤ t) (htp : t + 6 ≤ tp) : ACt l G yX7_takeBack cX7_takeBack 3 (none) 3 0 0 [.ref t, .int (nI i), .ref w] σ (vP (fun σ' => RTh G t (nt) (dy) (fun j => if j = i then (homeV B (V i), -1, (V i).2.2.1, (V i).2.2.2 + 1) else V j) σ' ∧ Fr t (t + 6) σ σ')) := by
  obtain ⟨sd, fs, fh, fl, fr, ft, ⟨a0, a1, a2, a3, a4, a5⟩, hnt, hv⟩ := id hT
  obtain ⟨hwt, hnb, hok, bor, fa, fo, fn, e0, e1, e2, e3, e4, e5, e6⟩ := id hw
  refine ACt.intro (own := RX7) (nm := "takeBack") mk_X7_takeBack rfl rfl [some (.ref t), some (.int (nI i)), some (.ref w)] rfl (Nat.le_of_ble_eq_true rfl) (fun X hX hR => ?_)
  refine A_aload_n (pc := 0) rfl hX dX7_takeBack_0 ?_
  refine A_getf (pc := 1) hX fl_X7_9_7 dX7_takeBack_1 (by repeat (first | assumption | exact aSet_s | exact aNew_s | refine lk_n ?_ (by omega) | refine lk_f (by assumption) ?_ (by omega) | refine lk_w ?_ (by omega))) (by exact rfl) ?_
  refine A_iload_n (pc := 4) rfl hX dX7_takeBack_4 ?_
  refine A_aload_n (pc := 5) rfl hX dX7_takeBack_5 ?_
  refine A_iload_n (pc := 6) rfl hX dX7_takeBack_6 ?_
  refine A_aload_n (pc := 7) rfl hX dX7_takeBack_7 ?_
  refine A_V2d (pc := 8) hX mk_X7_stateAtHome lv_X7_67 dX7_takeBack_8 (by repeat (first | assumption | exact aSet_s | exact aNew_s | refine lk_n ?_ (by omega) | refine lk_f (by assumption) ?_ (by omega) | refine lk_w ?_ (by omega))) (ct_stateAtHome l G hT hw hV hi) rfl (Nat.le_of_ble_eq_true rfl) (Nat.le_of_ble_eq_true rfl) (Nat.le_of_ble_eq_true rfl) (Nat.le_of_ble_eq_true rfl) (Nat.le_of_ble_eq_true rfl) ?_
  refine A_S3v (pc := 11) hX mk_X11_put ls_X7_38 dX7_takeBack_11 (ct_put l G (by repeat (first | assumption | exact aSet_s | exact aNew_s | refine lk_n ?_ (by omega) | refine lk_f (by assumption) ?_ (by omega) | refine lk_w ?_ (by omega))) (by decide)) rfl (Nat.le_of_ble_eq_true rfl) (Nat.le_of_ble_eq_true rfl) (Nat.le_of_ble_eq_true rfl) (Nat.le_of_ble_eq_true rfl) (Nat.le_of_ble_eq_true rfl) (fun σ11 h11 => ?_)
  obtain ⟨h11, hf11⟩ := h11
  refine A_aload_n (pc := 14) rfl hX dX7_takeBack_14 ?_
  refine A_getf (pc := 15) hX fl_X7_15_7 dX7_takeBack_15 (by repeat (first | assumption | exact aSet_s | exact aNew_s | refine lk_n ?_ (by omega) | refine lk_f (by assumption) ?_ (by omega) | refine lk_w ?_ (by omega))) (by exact rfl) ?_
  refine A_iload_n (pc := 18) rfl hX dX7_takeBack_18 ?_
  refine A_iconst (pc := 19) (v := (-1)) (by decide) hX dX7_takeBack_19 ?_
  refine A_S3v (pc := 20) hX mk_X11_put ls_X7_38 dX7_takeBack_20 (ct_put l G (by repeat (first | assumption | exact aSet_s | exact aNew_s | refine lk_n ?_ (by omega) | refine lk_f (by assumption) ?_ (by omega) | refine lk_w ?_ (by omega))) (by decide)) rfl (Nat.le_of_ble_eq_true rfl) (Nat.le_of_ble_eq_true rfl) (Nat.le_of_ble_eq_true rfl) (Nat.le_of_ble_eq_true rfl) (Nat.le_of_ble_eq_true rfl) (fun σ20 h20 => ?_)
  obtain ⟨h20, hf20⟩ := h20
  refine A_aload_n (pc := 23) rfl hX dX7_takeBack_23 ?_
  refine A_getf (pc := 24) hX fl_X7_21_7 dX7_takeBack_24 (by repeat (first | assumption | exact aSet_s | exact aNew_s | refine lk_n ?_ (by omega) | refine lk_f (by assumption) ?_ (by omega) | refine lk_w ?_ (by omega))) (by exact rfl) ?_
  refine A_iload_n (pc := 27) rfl hX dX7_takeBack_27 ?_
  refine A_aload_n (pc := 28) rfl hX dX7_takeBack_28 ?_
  refine A_getf (pc := 29) hX fl_X7_21_7 dX7_takeBack_29 (by repeat (first | assumption | exact aSet_s | exact aNew_s | refine lk_n ?_ (by omega) | refine lk_f (by assumption) ?_ (by omega) | refine lk_w ?_ (by omega))) (by exact rfl) ?_
  refine A_iload_n (pc := 32) rfl hX dX7_takeBack_32 ?_
  refine A_S2d (pc := 33) hX mk_X11_at ls_X7_34 dX7_takeBack_33 (ct_at l G (by repeat (first | assumption | exact aSet_s | exact aNew_s | refine lk_n ?_ (by omega) | refine lk_f (by assumption) ?_ (by omega) | refine lk_w ?_ (by omega))) (by decide)) rfl (Nat.le_of_ble_eq_true rfl) (Nat.le_of_ble_eq_true rfl) (Nat.le_of_ble_eq_true rfl) (Nat.le_of_ble_eq_true rfl) (Nat.le_of_ble_eq_true rfl) ?_
  refine A_top (y := (V i).2.2.2) (by rw [atS_nI (by omega) (by decide), (hv i hi).2.2.2]) ?_
  refine A_iconst (pc := 36) (v := (nI 1)) (by decide) hX dX7_takeBack_36 ?_
  refine A_iadd (pc := 37) hX dX7_takeBack_37 ?_
  refine A_S3v (pc := 38) hX mk_X11_put ls_X7_38 dX7_takeBack_38 (ct_put l G (by repeat (first | assumption | exact aSet_s | exact aNew_s | refine lk_n ?_ (by omega) | refine lk_f (by assumption) ?_ (by omega) | refine lk_w ?_ (by omega))) (by decide)) rfl (Nat.le_of_ble_eq_true rfl) (Nat.le_of_ble_eq_true rfl) (Nat.le_of_ble_eq_true rfl) (Nat.le_of_ble_eq_true rfl) (Nat.le_of_ble_eq_true rfl) (fun σ38 h38 => ?_)
  obtain ⟨h38, hf38⟩ := h38
  refine A_ret (pc := 41) hX hR dX7_takeBack_41 ?_
  refine ⟨rfl, ⟨_, _, _, _, _, _, ⟨(by repeat (first | assumption | exact aSet_s | exact aNew_s | refine lk_n ?_ (by omega) | refine lk_f (by assumption) ?_ (by omega) | refine lk_w ?_ (by omega))), (by repeat (first | assumption | exact aSet_s | exact aNew_s | refine lk_n ?_ (by omega) | refine lk_f (by assumption) ?_ (by omega) | refine lk_w ?_ (by omega))), (by repeat (first | assumption | exact aSet_s | exact aNew_s | refine lk_n ?_ (by omega) | refine lk_f (by assumption) ?_ (by omega) | refine lk_w ?_ (by omega))), (by repeat (first | assumption | exact aSet_s | exact aNew_s | refine lk_n ?_ (by omega) | refine lk_f (by assumption) ?_ (by omega) | refine lk_w ?_ (by omega))), (by repeat (first | assumption | exact aSet_s | exact aNew_s | refine lk_n ?_ (by omega) | refine lk_f (by assumption) ?_ (by omega) | refine lk_w ?_ (by omega))), (by repeat (first | assumption | exact aSet_s | exact aNew_s | refine lk_n ?_ (by omega) | refine lk_f (by assumption) ?_ (by omega) | refine lk_w ?_ (by omega)))⟩, hnt, fun j hj => ?_⟩, (by repeat (first | exact Fr.rf | refine Fr.set ?_ (by omega) (by omega) | refine Fr.tr ?_ (Fr.wd (by assumption) (by omega) (by omega))))⟩
  rw [putS_nI (by omega) (by decide), putS_nI (by omega) (by decide), putS_nI (by omega) (by decide)]
  have h1 := hv j hj
  by_cases q : j = i
  · subst q; simp only [upd, if_pos]; exact ⟨trivial, trivial, h1.2.2.1, rfl⟩
  · simp only [upd, if_neg q]; exact h1
theorem RTh.cg {G : aG} {t nt : Nat} {dy : Int32} {V V' : Nat → Nat × Int32 × Int32 × Int32} {σ : aS} (h : RTh G t nt dy V σ) (he : ∀ i, i < nt → V i = V' i) : RTh G t nt dy V' σ := by
  obtain ⟨sd, fs, fh, fl, fr, ft, h1, h2, h3⟩ := h
  exact ⟨sd, fs, fh, fl, fr, ft, h1, h2, fun i hi => by rw [← he i hi]; exact h3 i hi⟩
theorem stepV_ok {nb : Nat} {B : Nat → Nat × Nat × Nat × Nat} {nt : Nat} {V : Nat → Nat × Int32 × Int32 × Int32} (hb : okB nb B) (hn : nb ≤ 6) (hv : okV nb nt V) {i : Nat} (hi : i < nt) : (stepV B (V i)).1 < 512 ∧ ((stepV B (V i)).2.1 = -1 ∨ ∃ b, b < nb ∧ (stepV B (V i)).2.1 = nI b) := by
  unfold stepV
  split
  · exact hv i hi
  · split
    · exact ⟨homeV_lt hb hn hv hi, .inl rfl⟩
    · exact hv i hi
set_option maxRecDepth 100000 in
set_option maxHeartbeats 1000000 in
theorem ct_traitsOf (l : Launch) (G : aG) {t nt : Nat} {dy : Int32} {V : Nat → Nat × Int32 × Int32 × Int32} {σ : aS} (hT : RTh G t nt dy V σ) {r : Nat} {f : Nat → Int32} {Y : Nat → Nat} (hr : σ.2 r = some (aI G 4 f)) (hY : ∀ i, i < nt → f i = nI (Y i) ∧ Y i < 512) : ACt l G yX7_traitsOf cX7_traitsOf 4 (some .int) 2 0 0 [.ref t, .ref r] σ (dP (some (.int (nI (sumN (fun i => trS (Y i)) nt)))) σ) := by
  obtain ⟨sd, fs, fh, fl, fr, ft, ⟨a0, a1, a2, a3, a4, a5⟩, hnt, hv⟩ := id hT
  refine ACt.intro (own := RX7) (nm := "traitsOf") mk_X7_traitsOf rfl rfl [some (.ref t), some (.ref r), none, none] rfl (Nat.le_of_ble_eq_true rfl) (fun X hX hR => ?_)
  refine A_iconst (pc := 0) (v := (nI 0)) (by decide) hX dX7_traitsOf_0 ?_
  refine A_istore_n (pc := 1) (lv' := [_, _, _, _]) hX dX7_traitsOf_1 (Nat.le_of_ble_eq_true rfl) rfl rfl ?_
  refine A_iconst (pc := 2) (v := (nI 0)) (by decide) hX dX7_traitsOf_2 ?_
  refine A_istore_n (pc := 3) (lv' := [_, _, _, _]) hX dX7_traitsOf_3 (Nat.le_of_ble_eq_true rfl) rfl rfl ?_
  suffices hl : ∀ (m i : Nat), i ≤ nt → nt - i = m → AA G X 0 0 4 [some (.ref t), some (.ref r), some (.int (nI (sumN (fun i => trS (Y i)) i))), some (.int (nI i))] [] σ from hl nt 0 (Nat.zero_le _) (by omega)
  intro m
  induction m with
  | zero =>
    intro i hi hm
    have e : i = nt := by omega
    subst e
    refine A_iload_n (pc := 4) rfl hX dX7_traitsOf_4 ?_
    refine A_aload_n (pc := 5) rfl hX dX7_traitsOf_5 ?_
    refine A_getf (pc := 6) hX fl_X7_27_7 dX7_traitsOf_6 (by repeat (first | assumption | exact aSet_s | exact aNew_s | refine lk_n ?_ (by omega) | refine lk_f (by assumption) ?_ (by omega) | refine lk_w ?_ (by omega))) (by exact rfl) ?_
    refine A_icmp_ge (pc := 9) 29 hX dX7_traitsOf_9 rfl (fun c9 => ?_) (fun c9 => ?_)
    · refine A_iload_n (pc := 29) rfl hX dX7_traitsOf_29 ?_
      refine A_iret (pc := 30) hX hR dX7_traitsOf_30 rfl rfl ?_
      exact ⟨rfl, rfl⟩
    · exact absurd (nI_le (by omega) (by omega)) c9
  | succ m ih =>
    intro i hi hm
    have hlt : i < nt := by omega
    refine A_iload_n (pc := 4) rfl hX dX7_traitsOf_4 ?_
    refine A_aload_n (pc := 5) rfl hX dX7_traitsOf_5 ?_
    refine A_getf (pc := 6) hX fl_X7_27_7 dX7_traitsOf_6 (by repeat (first | assumption | exact aSet_s | exact aNew_s | refine lk_n ?_ (by omega) | refine lk_f (by assumption) ?_ (by omega) | refine lk_w ?_ (by omega))) (by exact rfl) ?_
    refine A_icmp_ge (pc := 9) 29 hX dX7_traitsOf_9 rfl (fun c9 => ?_) (fun c9 => ?_)
    · exact absurd c9 (nI_ge hlt (by omega))
    · refine A_iload_n (pc := 12) rfl hX dX7_traitsOf_12 ?_
      refine A_aload_n (pc := 13) rfl hX dX7_traitsOf_13 ?_
      refine A_iload_n (pc := 14) rfl hX dX7_traitsOf_14 ?_
      refine A_S2d (pc := 15) hX mk_X11_at ls_X7_34 dX7_traitsOf_15 (ct_at l G (by repeat (first | assumption | exact aSet_s | exact aNew_s | refine lk_n ?_ (by omega) | refine lk_f (by assumption) ?_ (by omega) | refine lk_w ?_ (by omega))) (by decide)) rfl (Nat.le_of_ble_eq_true rfl) (Nat.le_of_ble_eq_true rfl) (Nat.le_of_ble_eq_true rfl) (Nat.le_of_ble_eq_true rfl) (Nat.le_of_ble_eq_true rfl) ?_
      refine A_top (y := nI (Y i)) (by rw [atS_nI (by omega) (by decide), (hY i hlt).1]) ?_
      refine A_S1d (pc := 18) hX mk_X11_traitSum ls_X7_75 dX7_traitsOf_18 (ct_traitSum l G (hY i hlt).2) rfl (Nat.le_of_ble_eq_true rfl) (Nat.le_of_ble_eq_true rfl) (Nat.le_of_ble_eq_true rfl) (Nat.le_of_ble_eq_true rfl) (Nat.le_of_ble_eq_true rfl) ?_
      refine A_iadd (pc := 21) hX dX7_traitsOf_21 ?_
      refine A_top (y := nI (sumN (fun i => trS (Y i)) (i + 1))) (nI_add _ _) ?_
      refine A_istore_n (pc := 22) (lv' := [_, _, _, _]) hX dX7_traitsOf_22 (Nat.le_of_ble_eq_true rfl) rfl rfl ?_
      refine A_iinc (pc := 23) (v := (nI (i + 1))) (lv' := [_, _, _, _]) hX dX7_traitsOf_23 rfl (nI_succ i).symm rfl rfl ?_
      refine A_goto (pc := 26) 4 hX dX7_traitsOf_26 rfl ?_
      exact ih (i + 1) (by omega) (by omega)
set_option maxRecDepth 100000 in
set_option maxHeartbeats 1000000 in
theorem ct_traitsTogether (l : Launch) (G : aG) {t nt : Nat} {dy : Int32} {V : Nat → Nat × Int32 × Int32 × Int32} {σ : aS} (hT : RTh G t nt dy V σ) (hV : ∀ i, i < nt → (V i).1 < 512) : ACt l G yX7_traitsTogether cX7_traitsTogether 1 (some .int) 3 0 0 [.ref t] σ (dP (some (.int (nI (sumN (fun i => trS (V i).1) nt)))) σ) := by
  obtain ⟨sd, fs, fh, fl, fr, ft, ⟨a0, a1, a2, a3, a4, a5⟩, hnt, hv⟩ := id hT
  refine ACt.intro (own := RX7) (nm := "traitsTogether") mk_X7_traitsTogether rfl rfl [some (.ref t)] rfl (Nat.le_of_ble_eq_true rfl) (fun X hX hR => ?_)
  refine A_aload_n (pc := 0) rfl hX dX7_traitsTogether_0 ?_
  refine A_aload_n (pc := 1) rfl hX dX7_traitsTogether_1 ?_
  refine A_getf (pc := 2) hX fl_X7_9_7 dX7_traitsTogether_2 (by repeat (first | assumption | exact aSet_s | exact aNew_s | refine lk_n ?_ (by omega) | refine lk_f (by assumption) ?_ (by omega) | refine lk_w ?_ (by omega))) (by exact rfl) ?_
  refine A_V1d (pc := 5) hX mk_X7_traitsOf lv_X7_60 dX7_traitsTogether_5 (by repeat (first | assumption | exact aSet_s | exact aNew_s | refine lk_n ?_ (by omega) | refine lk_f (by assumption) ?_ (by omega) | refine lk_w ?_ (by omega))) (ct_traitsOf l G hT a1 (fun i hi => ⟨(hv i hi).1, hV i hi⟩)) rfl (Nat.le_of_ble_eq_true rfl) (Nat.le_of_ble_eq_true rfl) (Nat.le_of_ble_eq_true rfl) (Nat.le_of_ble_eq_true rfl) (Nat.le_of_ble_eq_true rfl) ?_
  refine A_iret (pc := 8) hX hR dX7_traitsTogether_8 rfl rfl ?_
  exact ⟨rfl, rfl⟩
set_option maxRecDepth 100000 in
set_option maxHeartbeats 1000000 in
theorem ct_howManyLent (l : Launch) (G : aG) {t nt : Nat} {dy : Int32} {V : Nat → Nat × Int32 × Int32 × Int32} {σ : aS} (hT : RTh G t nt dy V σ) : ACt l G yX7_howManyLent cX7_howManyLent 3 (some .int) 2 0 0 [.ref t] σ (dP (some (.int (nI (cntN (fun i => decide (¬ (V i).2.1 = -1)) nt)))) σ) := by
  obtain ⟨sd, fs, fh, fl, fr, ft, ⟨a0, a1, a2, a3, a4, a5⟩, hnt, hv⟩ := id hT
  refine ACt.intro (own := RX7) (nm := "howManyLent") mk_X7_howManyLent rfl rfl [some (.ref t), none, none] rfl (Nat.le_of_ble_eq_true rfl) (fun X hX hR => ?_)
  refine A_iconst (pc := 0) (v := (nI 0)) (by decide) hX dX7_howManyLent_0 ?_
  refine A_istore_n (pc := 1) (lv' := [_, _, _]) hX dX7_howManyLent_1 (Nat.le_of_ble_eq_true rfl) rfl rfl ?_
  refine A_iconst (pc := 2) (v := (nI 0)) (by decide) hX dX7_howManyLent_2 ?_
  refine A_istore_n (pc := 3) (lv' := [_, _, _]) hX dX7_howManyLent_3 (Nat.le_of_ble_eq_true rfl) rfl rfl ?_
  suffices hl : ∀ (m i : Nat), i ≤ nt → nt - i = m → AA G X 0 0 4 [some (.ref t), some (.int (nI (cntN (fun i => decide (¬ (V i).2.1 = -1)) i))), some (.int (nI i))] [] σ from hl nt 0 (Nat.zero_le _) (by omega)
  intro m
  induction m with
  | zero =>
    intro i hi hm
    have e : i = nt := by omega
    subst e
    refine A_iload_n (pc := 4) rfl hX dX7_howManyLent_4 ?_
    refine A_aload_n (pc := 5) rfl hX dX7_howManyLent_5 ?_
    refine A_getf (pc := 6) hX fl_X7_27_7 dX7_howManyLent_6 (by repeat (first | assumption | exact aSet_s | exact aNew_s | refine lk_n ?_ (by omega) | refine lk_f (by assumption) ?_ (by omega) | refine lk_w ?_ (by omega))) (by exact rfl) ?_
    refine A_icmp_ge (pc := 9) 29 hX dX7_howManyLent_9 rfl (fun c9 => ?_) (fun c9 => ?_)
    · refine A_iload_n (pc := 29) rfl hX dX7_howManyLent_29 ?_
      refine A_iret (pc := 30) hX hR dX7_howManyLent_30 rfl rfl ?_
      exact ⟨rfl, rfl⟩
    · exact absurd (nI_le (by omega) (by omega)) c9
  | succ m ih =>
    intro i hi hm
    have hlt : i < nt := by omega
    have ih := ih (i + 1) (by omega) (by omega)
    rw [cntN] at ih
    refine A_iload_n (pc := 4) rfl hX dX7_howManyLent_4 ?_
    refine A_aload_n (pc := 5) rfl hX dX7_howManyLent_5 ?_
    refine A_getf (pc := 6) hX fl_X7_27_7 dX7_howManyLent_6 (by repeat (first | assumption | exact aSet_s | exact aNew_s | refine lk_n ?_ (by omega) | refine lk_f (by assumption) ?_ (by omega) | refine lk_w ?_ (by omega))) (by exact rfl) ?_
    refine A_icmp_ge (pc := 9) 29 hX dX7_howManyLent_9 rfl (fun c9 => ?_) (fun c9 => ?_)
    · exact absurd c9 (nI_ge hlt (by omega))
    · refine A_aload_n (pc := 12) rfl hX dX7_howManyLent_12 ?_
      refine A_iload_n (pc := 13) rfl hX dX7_howManyLent_13 ?_
      refine A_V1d (pc := 14) hX mk_X7_isLent lv_X7_42 dX7_howManyLent_14 (by repeat (first | assumption | exact aSet_s | exact aNew_s | refine lk_n ?_ (by omega) | refine lk_f (by assumption) ?_ (by omega) | refine lk_w ?_ (by omega))) (ct_isLent l G hT hlt) rfl (Nat.le_of_ble_eq_true rfl) (Nat.le_of_ble_eq_true rfl) (Nat.le_of_ble_eq_true rfl) (Nat.le_of_ble_eq_true rfl) (Nat.le_of_ble_eq_true rfl) ?_
      refine A_if_eq (pc := 17) 23 hX dX7_howManyLent_17 rfl (fun c17 => ?_) (fun c17 => ?_)
      · rw [if_neg (by rw [bI_eq c17]; decide)] at ih
        refine A_iinc (pc := 23) (v := (nI (i + 1))) (lv' := [_, _, _]) hX dX7_howManyLent_23 rfl (nI_succ i).symm rfl rfl ?_
        refine A_goto (pc := 26) 4 hX dX7_howManyLent_26 rfl ?_
        exact ih
      · rw [if_pos (bI_ne c17)] at ih
        refine A_iinc (pc := 20) (v := (nI (cntN (fun i => decide (¬ (V i).2.1 = -1)) i + 1))) (lv' := [_, _, _]) hX dX7_howManyLent_20 rfl (nI_succ _).symm rfl rfl ?_
        refine A_iinc (pc := 23) (v := (nI (i + 1))) (lv' := [_, _, _]) hX dX7_howManyLent_23 rfl (nI_succ i).symm rfl rfl ?_
        refine A_goto (pc := 26) 4 hX dX7_howManyLent_26 rfl ?_
        exact ih
set_option maxRecDepth 100000 in
set_option maxHeartbeats 1000000 in
theorem ct_passDay (l : Launch) (G : aG) {w tp nb : Nat} {B : Nat → Nat × Nat × Nat × Nat} {t nt : Nat} {dy : Int32} {V : Nat → Nat × Int32 × Int32 × Int32} {σ : aS} (hT : RTh G t nt dy V σ) (hw : RTw G w tp nb B σ) (hV : okV nb nt V) (hd : w + 5 ≤ t) (htp : t + 6 ≤ tp) : ACt l G yX7_passDay cX7_passDay 4 (some .int) 4 0 0 [.ref t, .ref w] σ (iP (fun x σ' => x = nI (cntN (fun i => backV (V i)) nt) ∧ RTh G t (nt) (dy + 1) (fun i => stepV B (V i)) σ' ∧ Fr t (t + 6) σ σ')) := by
  obtain ⟨sd, fs, fh, fl, fr, ft, ⟨a0, a1, a2, a3, a4, a5⟩, hnt, hv⟩ := id hT
  obtain ⟨hwt, hnb, hok, bor, fa, fo, fn, e0, e1, e2, e3, e4, e5, e6⟩ := id hw
  refine ACt.intro (own := RX7) (nm := "passDay") mk_X7_passDay rfl rfl [some (.ref t), some (.ref w), none, none] rfl (Nat.le_of_ble_eq_true rfl) (fun X hX hR => ?_)
  refine A_aload_n (pc := 0) rfl hX dX7_passDay_0 ?_
  refine A_dup (pc := 1) rfl hX dX7_passDay_1 ?_
  refine A_getf (pc := 2) hX fl_X7_31_7 dX7_passDay_2 (by repeat (first | assumption | exact aSet_s | exact aNew_s | refine lk_n ?_ (by omega) | refine lk_f (by assumption) ?_ (by omega) | refine lk_w ?_ (by omega))) (by exact rfl) ?_
  refine A_iconst (pc := 5) (v := (nI 1)) (by decide) hX dX7_passDay_5 ?_
  refine A_iadd (pc := 6) hX dX7_passDay_6 ?_
  refine A_top (y := dy + 1) rfl ?_
  refine A_putf (pc := 7) (fs' := [_, _, _, _, _, _, _, _]) hX pl_X7_31_7 dX7_passDay_7 (by repeat (first | assumption | exact aSet_s | exact aNew_s | refine lk_n ?_ (by omega) | refine lk_f (by assumption) ?_ (by omega) | refine lk_w ?_ (by omega))) (by exact Nat.le_of_ble_eq_true rfl) (by exact rfl) rfl rfl ?_
  refine A_iconst (pc := 10) (v := (nI 0)) (by decide) hX dX7_passDay_10 ?_
  refine A_istore_n (pc := 11) (lv' := [_, _, _, _]) hX dX7_passDay_11 (Nat.le_of_ble_eq_true rfl) rfl rfl ?_
  refine A_iconst (pc := 12) (v := (nI 0)) (by decide) hX dX7_passDay_12 ?_
  refine A_istore_n (pc := 13) (lv' := [_, _, _, _]) hX dX7_passDay_13 (Nat.le_of_ble_eq_true rfl) rfl rfl ?_
  suffices hl : ∀ (m i : Nat) (σ1 : aS), i ≤ nt → nt - i = m → Fr t (t + 6) σ σ1 → RTh G t nt (dy + 1) (fun k => if k < i then stepV B (V k) else V k) σ1 → AA G X 0 0 14 [some (.ref t), some (.ref w), some (.int (nI (cntN (fun i => backV (V i)) i))), some (.int (nI i))] [] σ1 from hl nt 0 _ (Nat.zero_le _) (by omega) (Fr.rf.set (by omega) (by omega)) ⟨_, _, _, _, _, _, ⟨aSet_s, (by repeat (first | assumption | exact aSet_s | exact aNew_s | refine lk_n ?_ (by omega) | refine lk_f (by assumption) ?_ (by omega) | refine lk_w ?_ (by omega))), (by repeat (first | assumption | exact aSet_s | exact aNew_s | refine lk_n ?_ (by omega) | refine lk_f (by assumption) ?_ (by omega) | refine lk_w ?_ (by omega))), (by repeat (first | assumption | exact aSet_s | exact aNew_s | refine lk_n ?_ (by omega) | refine lk_f (by assumption) ?_ (by omega) | refine lk_w ?_ (by omega))), (by repeat (first | assumption | exact aSet_s | exact aNew_s | refine lk_n ?_ (by omega) | refine lk_f (by assumption) ?_ (by omega) | refine lk_w ?_ (by omega))), (by repeat (first | assumption | exact aSet_s | exact aNew_s | refine lk_n ?_ (by omega) | refine lk_f (by assumption) ?_ (by omega) | refine lk_w ?_ (by omega)))⟩, hnt, fun i hi => by simpa using hv i hi⟩
  intro m
  induction m with
  | zero =>
    intro i σ1 hi hm hF hT1
    have e : i = nt := by omega
    subst e
    have hT1' := id hT1
    obtain ⟨sd1, gs, gh, gl, gr, gt, ⟨b0, b1, b2, b3, b4, b5⟩, hnt1, hv1⟩ := hT1
    refine A_iload_n (pc := 14) rfl hX dX7_passDay_14 ?_
    refine A_aload_n (pc := 15) rfl hX dX7_passDay_15 ?_
    refine A_getf (pc := 16) hX fl_X7_27_7 dX7_passDay_16 (by first | assumption | exact b0) (by exact rfl) ?_
    refine A_icmp_ge (pc := 19) 74 hX dX7_passDay_19 rfl (fun c19 => ?_) (fun c19 => ?_)
    · refine A_iload_n (pc := 74) rfl hX dX7_passDay_74 ?_
      refine A_iret (pc := 75) hX hR dX7_passDay_75 rfl rfl ?_
      exact ⟨_, rfl, rfl, hT1'.cg (fun k hk => if_pos hk), hF⟩
    · exact absurd (nI_le (by omega) (by omega)) c19
  | succ m ih =>
    intro i σ1 hi hm hF hT1
    have hlt : i < nt := by omega
    have hw1 := hw.fr hF htp (.inr hd)
    have hT1' := id hT1
    obtain ⟨sd1, gs, gh, gl, gr, gt, ⟨b0, b1, b2, b3, b4, b5⟩, hnt1, hv1⟩ := hT1
    have hvi := hv1 i hlt
    simp only [if_neg (Nat.lt_irrefl i)] at hvi
    have hnx : ∀ (W : Nat → Nat × Int32 × Int32 × Int32) (σ2 : aS), RTh G t nt (dy + 1) W σ2 → (∀ k, k < nt → k ≠ i → W k = if k < i then stepV B (V k) else V k) → W i = stepV B (V i) → RTh G t nt (dy + 1) (fun k => if k < i + 1 then stepV B (V k) else V k) σ2 := fun W σ2 hW h1 h2 => hW.cg fun k hk => by
      by_cases q : k = i
      · subst q; rw [h2, if_pos (Nat.lt_succ_self _)]
      · rw [h1 k hk q]
        by_cases q2 : k < i
        · rw [if_pos q2, if_pos (by omega)]
        · rw [if_neg q2, if_neg (by omega)]
    have ih0 := fun σ2 => ih (i + 1) σ2 (by omega) (by omega)
    rw [cntN] at ih0
    refine A_iload_n (pc := 14) rfl hX dX7_passDay_14 ?_
    refine A_aload_n (pc := 15) rfl hX dX7_passDay_15 ?_
    refine A_getf (pc := 16) hX fl_X7_27_7 dX7_passDay_16 (by first | assumption | exact b0) (by exact rfl) ?_
    refine A_icmp_ge (pc := 19) 74 hX dX7_passDay_19 rfl (fun c19 => ?_) (fun c19 => ?_)
    · exact absurd c19 (nI_ge hlt (by omega))
    · refine A_aload_n (pc := 22) rfl hX dX7_passDay_22 ?_
      refine A_iload_n (pc := 23) rfl hX dX7_passDay_23 ?_
      refine A_V1d (pc := 24) hX mk_X7_isLent lv_X7_42 dX7_passDay_24 (by repeat (first | assumption | exact aSet_s | exact aNew_s | refine lk_n ?_ (by omega) | refine lk_f (by assumption) ?_ (by omega) | refine lk_w ?_ (by omega))) (ct_isLent l G hT1' hlt) rfl (Nat.le_of_ble_eq_true rfl) (Nat.le_of_ble_eq_true rfl) (Nat.le_of_ble_eq_true rfl) (Nat.le_of_ble_eq_true rfl) (Nat.le_of_ble_eq_true rfl) ?_
      refine A_if_eq (pc := 27) 68 hX dX7_passDay_27 rfl (fun c27 => ?_) (fun c27 => ?_)
      · have hl : (V i).2.1 = -1 := by
          have := of_decide_eq_false (bI_eq c27)
          simp only [if_neg (Nat.lt_irrefl i)] at this
          exact Decidable.byContradiction this
        rw [if_neg (by rw [backV, decide_eq_false (fun q => q.1 hl)]; decide)] at ih0
        refine A_iinc (pc := 68) (v := (nI (i + 1))) (lv' := [_, _, _, _]) hX dX7_passDay_68 rfl (nI_succ i).symm rfl rfl ?_
        refine A_goto (pc := 71) 14 hX dX7_passDay_71 rfl ?_
        exact ih0 σ1 hF (hnx _ σ1 hT1' (fun k hk q => rfl) (by rw [if_neg (Nat.lt_irrefl i), stepV, if_pos hl]))
      · have hl := of_decide_eq_true (bI_ne c27)
        simp only [if_neg (Nat.lt_irrefl i)] at hl
        refine A_aload_n (pc := 30) rfl hX dX7_passDay_30 ?_
        refine A_getf (pc := 31) hX fl_X7_18_7 dX7_passDay_31 (by repeat (first | assumption | exact aSet_s | exact aNew_s | refine lk_n ?_ (by omega) | refine lk_f (by assumption) ?_ (by omega) | refine lk_w ?_ (by omega))) (by exact rfl) ?_
        refine A_iload_n (pc := 34) rfl hX dX7_passDay_34 ?_
        refine A_aload_n (pc := 35) rfl hX dX7_passDay_35 ?_
        refine A_getf (pc := 36) hX fl_X7_18_7 dX7_passDay_36 (by repeat (first | assumption | exact aSet_s | exact aNew_s | refine lk_n ?_ (by omega) | refine lk_f (by assumption) ?_ (by omega) | refine lk_w ?_ (by omega))) (by exact rfl) ?_
        refine A_iload_n (pc := 39) rfl hX dX7_passDay_39 ?_
        refine A_S2d (pc := 40) hX mk_X11_at ls_X7_34 dX7_passDay_40 (ct_at l G b3 (by decide)) rfl (Nat.le_of_ble_eq_true rfl) (Nat.le_of_ble_eq_true rfl) (Nat.le_of_ble_eq_true rfl) (Nat.le_of_ble_eq_true rfl) (Nat.le_of_ble_eq_true rfl) ?_
        refine A_top (y := (V i).2.2.1) (by rw [atS_nI (by omega) (by decide), hvi.2.2.1]) ?_
        refine A_iconst (pc := 43) (v := (nI 1)) (by decide) hX dX7_passDay_43 ?_
        refine A_isub (pc := 44) hX dX7_passDay_44 ?_
        refine A_top (y := (V i).2.2.1 - 1) rfl ?_
        refine A_S3v (pc := 45) hX mk_X11_put ls_X7_38 dX7_passDay_45 (ct_put l G b3 (by decide)) rfl (Nat.le_of_ble_eq_true rfl) (Nat.le_of_ble_eq_true rfl) (Nat.le_of_ble_eq_true rfl) (Nat.le_of_ble_eq_true rfl) (Nat.le_of_ble_eq_true rfl) (fun σ45 h45 => ?_)
        obtain ⟨h45, hf45⟩ := h45
        have hT2 : RTh G t nt (dy + 1) (fun k => if k = i then ((V i).1, (V i).2.1, (V i).2.2.1 - 1, (V i).2.2.2) else if k < i then stepV B (V k) else V k) σ45 := by
          refine ⟨_, _, _, _, _, _, ⟨(by repeat (first | assumption | exact aSet_s | exact aNew_s | refine lk_n ?_ (by omega) | refine lk_f (by assumption) ?_ (by omega) | refine lk_w ?_ (by omega))), (by repeat (first | assumption | exact aSet_s | exact aNew_s | refine lk_n ?_ (by omega) | refine lk_f (by assumption) ?_ (by omega) | refine lk_w ?_ (by omega))), (by repeat (first | assumption | exact aSet_s | exact aNew_s | refine lk_n ?_ (by omega) | refine lk_f (by assumption) ?_ (by omega) | refine lk_w ?_ (by omega))), (by repeat (first | assumption | exact aSet_s | exact aNew_s | refine lk_n ?_ (by omega) | refine lk_f (by assumption) ?_ (by omega) | refine lk_w ?_ (by omega))), (by repeat (first | assumption | exact aSet_s | exact aNew_s | refine lk_n ?_ (by omega) | refine lk_f (by assumption) ?_ (by omega) | refine lk_w ?_ (by omega))), (by repeat (first | assumption | exact aSet_s | exact aNew_s | refine lk_n ?_ (by omega) | refine lk_f (by assumption) ?_ (by omega) | refine lk_w ?_ (by omega)))⟩, hnt, fun j hj => ?_⟩
          rw [putS_nI (by omega) (by decide)]
          by_cases q : j = i
          · subst q; simp only [upd, if_pos]; exact ⟨hvi.1, hvi.2.1, trivial, hvi.2.2.2⟩
          · simp only [upd, if_neg q]; exact hv1 j hj
        refine A_aload_n (pc := 48) rfl hX dX7_passDay_48 ?_
        refine A_getf (pc := 49) hX fl_X7_18_7 dX7_passDay_49 (by repeat (first | assumption | exact aSet_s | exact aNew_s | refine lk_n ?_ (by omega) | refine lk_f (by assumption) ?_ (by omega) | refine lk_w ?_ (by omega))) (by exact rfl) ?_
        refine A_iload_n (pc := 52) rfl hX dX7_passDay_52 ?_
        refine A_S2d (pc := 53) hX mk_X11_at ls_X7_34 dX7_passDay_53 (ct_at l G h45 (by decide)) rfl (Nat.le_of_ble_eq_true rfl) (Nat.le_of_ble_eq_true rfl) (Nat.le_of_ble_eq_true rfl) (Nat.le_of_ble_eq_true rfl) (Nat.le_of_ble_eq_true rfl) ?_
        refine A_top (y := (V i).2.2.1 - 1) (by rw [atS_nI (by omega) (by decide), putS_nI (by omega) (by decide)]; simp [upd]) ?_
        refine A_if_ne (pc := 56) 68 hX dX7_passDay_56 rfl (fun c56 => ?_) (fun c56 => ?_)
        · rw [if_neg (by rw [backV, decide_eq_false (fun q => c56 q.2)]; decide)] at ih0
          refine A_iinc (pc := 68) (v := (nI (i + 1))) (lv' := [_, _, _, _]) hX dX7_passDay_68 rfl (nI_succ i).symm rfl rfl ?_
          refine A_goto (pc := 71) 14 hX dX7_passDay_71 rfl ?_
          exact ih0 σ45 (hF.tr (hf45.wd (by omega) (by omega))) (hnx _ σ45 hT2 (fun k hk q => if_neg q) (by rw [if_pos rfl, stepV, if_neg hl, if_neg c56]))
        · have c56 : (V i).2.2.1 - 1 = 0 := Decidable.byContradiction fun q => absurd c56 (by simpa using q)
          rw [if_pos (show backV (V i) = true from decide_eq_true ⟨hl, c56⟩)] at ih0
          have hok2 : okV nb nt (fun k => if k = i then ((V i).1, (V i).2.1, (V i).2.2.1 - 1, (V i).2.2.2) else if k < i then stepV B (V k) else V k) := by
            intro k hk
            show (if k = i then _ else _ : Nat × Int32 × Int32 × Int32).1 < 512 ∧ _
            by_cases q : k = i
            · subst q; simp only [if_pos]; exact hV k hk
            · simp only [if_neg q]
              by_cases q2 : k < i
              · simp only [if_pos q2]; exact stepV_ok hok hnb hV hk
              · simp only [if_neg q2]; exact hV k hk
          refine A_aload_n (pc := 59) rfl hX dX7_passDay_59 ?_
          refine A_iload_n (pc := 60) rfl hX dX7_passDay_60 ?_
          refine A_aload_n (pc := 61) rfl hX dX7_passDay_61 ?_
          refine A_V2v (pc := 62) hX mk_X7_takeBack lv_X7_56 dX7_passDay_62 (by repeat (first | assumption | exact aSet_s | exact aNew_s | refine lk_n ?_ (by omega) | refine lk_f (by assumption) ?_ (by omega) | refine lk_w ?_ (by omega))) (ct_takeBack l G hT2 (hw1.fr hf45 (by omega) (by omega)) hok2 hlt (by omega) (by omega)) rfl (Nat.le_of_ble_eq_true rfl) (Nat.le_of_ble_eq_true rfl) (Nat.le_of_ble_eq_true rfl) (Nat.le_of_ble_eq_true rfl) (Nat.le_of_ble_eq_true rfl) (fun σ62 h62 => ?_)
          obtain ⟨h62, hf62⟩ := h62
          refine A_iinc (pc := 65) (v := (nI (cntN (fun i => backV (V i)) i + 1))) (lv' := [_, _, _, _]) hX dX7_passDay_65 rfl (nI_succ _).symm rfl rfl ?_
          refine A_iinc (pc := 68) (v := (nI (i + 1))) (lv' := [_, _, _, _]) hX dX7_passDay_68 rfl (nI_succ i).symm rfl rfl ?_
          refine A_goto (pc := 71) 14 hX dX7_passDay_71 rfl ?_
          exact ih0 σ62 ((hF.tr (hf45.wd (by omega) (by omega))).tr hf62) (hnx _ σ62 h62 (fun k hk q => by rw [if_neg q, if_neg q]) (by
            rw [if_pos rfl, if_pos rfl, stepV, if_neg hl, if_pos c56]
            rfl))
def nxtN (s : Nat) : Nat := (1103515245 * s + 12345) % 2147483648
theorem nxtN_lt (s : Nat) : nxtN s < 2147483648 := Nat.mod_lt _ (by decide)
theorem l_mask {m : Nat} (h : m < 2 ^ 63) : lN m &&& lN 2147483647 = lN (m % 2147483648) := by
  apply Int64.toBitVec_inj.mp
  rw [Int64.toBitVec_and]
  show BitVec.ofNat 64 m &&& BitVec.ofNat 64 2147483647 = BitVec.ofNat 64 (m % 2147483648)
  apply BitVec.eq_of_toNat_eq
  rw [BitVec.toNat_and, BitVec.toNat_ofNat, BitVec.toNat_ofNat, BitVec.toNat_ofNat, Nat.mod_eq_of_lt (show m < 2 ^ 64 by omega), Nat.mod_eq_of_lt (show 2147483647 < 2 ^ 64 by decide), Nat.mod_eq_of_lt (show m % 2147483648 < 2 ^ 64 by omega)]
  exact Nat.and_two_pow_sub_one_eq_mod m 31
theorem l_nxt {s : Nat} (h : s < 2147483648) : (((1103515245 : Int64) * (nI s).toInt64 + (12345 : Int64)) &&& (2147483647 : Int64)).toInt32 = nI (nxtN s) := by
  rw [nI_l (by omega), show (1103515245 : Int64) = lN 1103515245 from rfl, show (12345 : Int64) = lN 12345 from rfl, show (2147483647 : Int64) = lN 2147483647 from rfl, lN_mul, lN_add, l_mask (by omega), lN_i]
  rfl
/-- years: k times more, what is thought of each thing, the seed -/
def yrs (B : Nat → Nat × Nat × Nat × Nat) (nt nb : Nat) : Nat → (Nat → Nat) → Nat → (Nat → Nat) × Nat
  | 0, Y, s => (Y, s)
  | k + 1, Y, s => yrs B nt nb k (fun j => if j = nxtN s / 65536 % nt then mkB B (nxtN (nxtN s) / 65536 % nb) (Y (nxtN s / 65536 % nt)) else Y j) (nxtN (nxtN s))
set_option maxRecDepth 100000 in
set_option maxHeartbeats 1000000 in
theorem ct_drawOf (l : Launch) (G : aG) {t nt sd : Nat} {dy : Int32} {fs fh fl fr ft : Nat → Int32} {σ : aS} (hC : RTc G t nt dy (nI sd) fs fh fl fr ft σ) {n : Nat} (hn : 0 < n) (hn2 : n < 2 ^ 31) (hsd : sd < 2147483648) : ACt l G yX7_drawOf cX7_drawOf 2 (some .int) 0 0 0 [.ref t, .int (nI n)] σ (iP (fun x σ' => x = nI (nxtN sd / 65536 % n) ∧ RTc G t nt dy (nI (nxtN sd)) fs fh fl fr ft σ' ∧ Fr t (t + 6) σ σ')) := by
  obtain ⟨a0, a1, a2, a3, a4, a5⟩ := id hC
  have hx := nxtN_lt sd
  refine ACt.intro (own := RX7) (nm := "drawOf") mk_X7_drawOf rfl rfl [some (.ref t), some (.int (nI n))] rfl (Nat.le_of_ble_eq_true rfl) (fun X hX hR => ?_)
  refine A_aload_n (pc := 0) rfl hX dX7_drawOf_0 ?_
  refine A_ldc2 (pc := 1) k_X7_78 hX dX7_drawOf_1 ?_
  refine A_aload_n (pc := 4) rfl hX dX7_drawOf_4 ?_
  refine A_getf (pc := 5) hX fl_X7_64_7 dX7_drawOf_5 (by repeat (first | assumption | exact aSet_s | exact aNew_s | refine lk_n ?_ (by omega) | refine lk_f (by assumption) ?_ (by omega) | refine lk_w ?_ (by omega))) (by exact rfl) ?_
  refine A_i2l (pc := 8) hX dX7_drawOf_8 ?_
  refine A_lmul (pc := 9) hX dX7_drawOf_9 ?_
  refine A_ldc2 (pc := 10) k_X7_80 hX dX7_drawOf_10 ?_
  refine A_ladd (pc := 13) hX dX7_drawOf_13 ?_
  refine A_ldc2 (pc := 14) k_X7_82 hX dX7_drawOf_14 ?_
  refine A_land (pc := 17) hX dX7_drawOf_17 ?_
  refine A_l2i (pc := 18) hX dX7_drawOf_18 ?_
  refine A_top (y := nI (nxtN sd)) (l_nxt hsd) ?_
  refine A_putf (pc := 19) (fs' := [_, _, _, _, _, _, _, _]) hX pl_X7_64_7 dX7_drawOf_19 (by repeat (first | assumption | exact aSet_s | exact aNew_s | refine lk_n ?_ (by omega) | refine lk_f (by assumption) ?_ (by omega) | refine lk_w ?_ (by omega))) (by exact Nat.le_of_ble_eq_true rfl) (by exact rfl) rfl rfl ?_
  refine A_iload_n (pc := 22) rfl hX dX7_drawOf_22 ?_
  refine A_if_le (pc := 23) 38 hX dX7_drawOf_23 rfl (fun c23 => ?_) (fun c23 => ?_)
  · exact absurd c23 (nI_nle hn hn2)
  · refine A_aload_n (pc := 26) rfl hX dX7_drawOf_26 ?_
    refine A_getf (pc := 27) hX fl_X7_64_7 dX7_drawOf_27 (by repeat (first | assumption | exact aSet_s | exact aNew_s | refine lk_n ?_ (by omega) | refine lk_f (by assumption) ?_ (by omega) | refine lk_w ?_ (by omega))) (by exact rfl) ?_
    refine A_ldc (pc := 30) k_X7_84 hX dX7_drawOf_30 ?_
    refine A_idiv (pc := 32) (by decide) hX dX7_drawOf_32 ?_
    refine A_top (y := nI (nxtN sd / 65536)) (pk_div (by omega) (by decide) (by decide)) ?_
    refine A_iload_n (pc := 33) rfl hX dX7_drawOf_33 ?_
    refine A_irem (pc := 34) (nI_ne0 hn hn2) hX dX7_drawOf_34 ?_
    refine A_top (y := nI (nxtN sd / 65536 % n)) (pk_rem (by omega) hn hn2) ?_
    refine A_goto (pc := 35) 39 hX dX7_drawOf_35 rfl ?_
    refine A_iret (pc := 39) hX hR dX7_drawOf_39 rfl rfl ?_
    exact ⟨_, rfl, rfl, ⟨aSet_s, (by repeat (first | assumption | exact aSet_s | exact aNew_s | refine lk_n ?_ (by omega) | refine lk_f (by assumption) ?_ (by omega) | refine lk_w ?_ (by omega))), (by repeat (first | assumption | exact aSet_s | exact aNew_s | refine lk_n ?_ (by omega) | refine lk_f (by assumption) ?_ (by omega) | refine lk_w ?_ (by omega))), (by repeat (first | assumption | exact aSet_s | exact aNew_s | refine lk_n ?_ (by omega) | refine lk_f (by assumption) ?_ (by omega) | refine lk_w ?_ (by omega))), (by repeat (first | assumption | exact aSet_s | exact aNew_s | refine lk_n ?_ (by omega) | refine lk_f (by assumption) ?_ (by omega) | refine lk_w ?_ (by omega))), (by repeat (first | assumption | exact aSet_s | exact aNew_s | refine lk_n ?_ (by omega) | refine lk_f (by assumption) ?_ (by omega) | refine lk_w ?_ (by omega)))⟩, (by repeat (first | exact Fr.rf | refine Fr.set ?_ (by omega) (by omega) | refine Fr.tr ?_ (Fr.wd (by assumption) (by omega) (by omega))))⟩
set_option maxRecDepth 100000 in
set_option maxHeartbeats 1000000 in
theorem ct_dreamYears (l : Launch) (G : aG) {w tp nb : Nat} {B : Nat → Nat × Nat × Nat × Nat} {t nt : Nat} {dy : Int32} {V : Nat → Nat × Int32 × Int32 × Int32} {σ : aS} (hT : RTh G t nt dy V σ) (hw : RTw G w tp nb B σ) (hV : okV nb nt V) {k sd0 : Nat} (hk : k < 2 ^ 31) (hsd : sd0 < 2147483648) (hn1 : 0 < nt) (hb1 : 0 < nb) (hd : w + 5 ≤ t) (htp : t + 6 ≤ tp) : ACt l G yX7_dreamYears cX7_dreamYears 7 (none) 3 0 0 [.ref t, .ref w, .int (nI k), .int (nI sd0)] σ (vP (fun σ' => RTy G t nt dy V (yrs B nt nb k (fun i => homeV B (V i)) sd0).1 (yrs B nt nb k (fun i => homeV B (V i)) sd0).2 σ' ∧ Fr t (t + 6) σ σ')) := by
  obtain ⟨sd, fs, fh, fl, fr, ft, ⟨a0, a1, a2, a3, a4, a5⟩, hnt, hv⟩ := id hT
  obtain ⟨hwt, hnb, hok, bor, fa, fo, fn, e0, e1, e2, e3, e4, e5, e6⟩ := id hw
  refine ACt.intro (own := RX7) (nm := "dreamYears") mk_X7_dreamYears rfl rfl [some (.ref t), some (.ref w), some (.int (nI k)), some (.int (nI sd0)), none, none, none] rfl (Nat.le_of_ble_eq_true rfl) (fun X hX hR => ?_)
  refine A_aload_n (pc := 0) rfl hX dX7_dreamYears_0 ?_
  refine A_iload_n (pc := 1) rfl hX dX7_dreamYears_1 ?_
  refine A_putf (pc := 2) (fs' := [_, _, _, _, _, _, _, _]) hX pl_X7_64_7 dX7_dreamYears_2 (by repeat (first | assumption | exact aSet_s | exact aNew_s | refine lk_n ?_ (by omega) | refine lk_f (by assumption) ?_ (by omega) | refine lk_w ?_ (by omega))) (by exact Nat.le_of_ble_eq_true rfl) (by exact rfl) rfl rfl ?_
  refine A_iconst (pc := 5) (v := (nI 0)) (by decide) hX dX7_dreamYears_5 ?_
  refine A_istore (pc := 6) (lv' := [_, _, _, _, _, _, _]) hX dX7_dreamYears_6 (Nat.le_of_ble_eq_true rfl) rfl rfl ?_
  suffices hl : ∀ (m i : Nat) (σ1 : aS) (gt : Nat → Int32) (v5 v6 : Option Value), i ≤ nt → nt - i = m → Fr t (t + 6) σ σ1 → RTc G t nt dy (nI sd0) fs fh fl fr gt σ1 → (∀ j, j < i → gt j = nI (homeV B (V j))) → AA G X 0 0 8 [some (.ref t), some (.ref w), some (.int (nI k)), some (.int (nI sd0)), some (.int (nI i)), v5, v6] [] σ1 from hl nt 0 _ ft none none (Nat.zero_le _) (by omega) (Fr.rf.set (by omega) (by omega)) ⟨aSet_s, (by repeat (first | assumption | exact aSet_s | exact aNew_s | refine lk_n ?_ (by omega) | refine lk_f (by assumption) ?_ (by omega) | refine lk_w ?_ (by omega))), (by repeat (first | assumption | exact aSet_s | exact aNew_s | refine lk_n ?_ (by omega) | refine lk_f (by assumption) ?_ (by omega) | refine lk_w ?_ (by omega))), (by repeat (first | assumption | exact aSet_s | exact aNew_s | refine lk_n ?_ (by omega) | refine lk_f (by assumption) ?_ (by omega) | refine lk_w ?_ (by omega))), (by repeat (first | assumption | exact aSet_s | exact aNew_s | refine lk_n ?_ (by omega) | refine lk_f (by assumption) ?_ (by omega) | refine lk_w ?_ (by omega))), (by repeat (first | assumption | exact aSet_s | exact aNew_s | refine lk_n ?_ (by omega) | refine lk_f (by assumption) ?_ (by omega) | refine lk_w ?_ (by omega)))⟩ (fun j hj => absurd hj (by omega))
  intro m
  induction m with
  | zero =>
    intro i σ1 gt v5 v6 hi hm hF hC1 hg
    have e : i = nt := by omega
    subst e
    obtain ⟨b0, b1, b2, b3, b4, b5⟩ := id hC1
    refine A_iload (pc := 8) rfl hX dX7_dreamYears_8 ?_
    refine A_aload_n (pc := 10) rfl hX dX7_dreamYears_10 ?_
    refine A_getf (pc := 11) hX fl_X7_27_7 dX7_dreamYears_11 (by repeat (first | assumption | exact aSet_s | exact aNew_s | refine lk_n ?_ (by omega) | refine lk_f (by assumption) ?_ (by omega) | refine lk_w ?_ (by omega))) (by exact rfl) ?_
    refine A_icmp_ge (pc := 14) 39 hX dX7_dreamYears_14 rfl (fun c14 => ?_) (fun c14 => ?_)
    · refine A_iconst (pc := 39) (v := (nI 0)) (by decide) hX dX7_dreamYears_39 ?_
      refine A_istore (pc := 40) (lv' := [_, _, _, _, _, _, _]) hX dX7_dreamYears_40 (Nat.le_of_ble_eq_true rfl) rfl rfl ?_
      suffices hl2 : ∀ (n j : Nat) (Y : Nat → Nat) (s : Nat) (σ2 : aS) (gt : Nat → Int32) (v5 v6 : Option Value), j + n = k → s < 2147483648 → Fr t (t + 6) σ σ2 → RTc G t i dy (nI s) fs fh fl fr gt σ2 → (∀ q, q < i → gt q = nI (Y q) ∧ Y q < 512) → yrs B i nb n Y s = yrs B i nb k (fun i => homeV B (V i)) sd0 → AA G X 0 0 42 [some (.ref t), some (.ref w), some (.int (nI k)), some (.int (nI sd0)), some (.int (nI j)), v5, v6] [] σ2 from hl2 k 0 (fun i => homeV B (V i)) sd0 σ1 gt _ _ (by omega) hsd hF hC1 (fun q hq => ⟨hg q hq, homeV_lt hok hnb hV hq⟩) rfl
      intro n
      induction n with
      | zero =>
        intro j Y s σ2 gt v5 v6 hj hs hF2 hC2 hY hyr
        refine A_iload (pc := 42) rfl hX dX7_dreamYears_42 ?_
        refine A_iload_n (pc := 44) rfl hX dX7_dreamYears_44 ?_
        refine A_icmp_ge (pc := 45) 98 hX dX7_dreamYears_45 rfl (fun c45 => ?_) (fun c45 => ?_)
        · refine A_ret (pc := 98) hX hR dX7_dreamYears_98 ?_
          rw [← hyr]
          exact ⟨rfl, ⟨fs, fh, fl, fr, gt, hC2, ⟨hnt, hv⟩, hY⟩, hF2⟩
        · exact absurd (nI_le (by omega) (by omega)) c45
      | succ n ih2 =>
        intro j Y s σ2 gt v5 v6 hj hs hF2 hC2 hY hyr
        have hjk : j < k := by omega
        obtain ⟨c0, c1, c2, c3, c4, c5⟩ := id hC2
        rw [yrs] at hyr
        have hx1 := nxtN_lt s
        have ht1 : nxtN s / 65536 % i < i := Nat.mod_lt _ hn1
        have ht2 : nxtN (nxtN s) / 65536 % nb < nb := Nat.mod_lt _ hb1
        have hw2 := hw.fr hF2 htp (.inr hd)
        refine A_iload (pc := 42) rfl hX dX7_dreamYears_42 ?_
        refine A_iload_n (pc := 44) rfl hX dX7_dreamYears_44 ?_
        refine A_icmp_ge (pc := 45) 98 hX dX7_dreamYears_45 rfl (fun c45 => ?_) (fun c45 => ?_)
        · exact absurd c45 (nI_ge hjk (by omega))
        · refine A_aload_n (pc := 48) rfl hX dX7_dreamYears_48 ?_
          refine A_aload_n (pc := 49) rfl hX dX7_dreamYears_49 ?_
          refine A_getf (pc := 50) hX fl_X7_27_7 dX7_dreamYears_50 (by repeat (first | assumption | exact aSet_s | exact aNew_s | refine lk_n ?_ (by omega) | refine lk_f (by assumption) ?_ (by omega) | refine lk_w ?_ (by omega))) (by exact rfl) ?_
          refine A_V1i (pc := 53) hX mk_X7_drawOf lv_X7_71 dX7_dreamYears_53 (by repeat (first | assumption | exact aSet_s | exact aNew_s | refine lk_n ?_ (by omega) | refine lk_f (by assumption) ?_ (by omega) | refine lk_w ?_ (by omega))) (ct_drawOf l G hC2 hn1 (by omega) hs) rfl (Nat.le_of_ble_eq_true rfl) (Nat.le_of_ble_eq_true rfl) (Nat.le_of_ble_eq_true rfl) (Nat.le_of_ble_eq_true rfl) (Nat.le_of_ble_eq_true rfl) (fun x53 σ53 h53 => ?_)
          obtain ⟨rfl, h53, hf53⟩ := h53
          have c0 := h53.1
          refine A_istore (pc := 56) (lv' := [_, _, _, _, _, _, _]) hX dX7_dreamYears_56 (Nat.le_of_ble_eq_true rfl) rfl rfl ?_
          refine A_aload_n (pc := 58) rfl hX dX7_dreamYears_58 ?_
          refine A_aload_n (pc := 59) rfl hX dX7_dreamYears_59 ?_
          refine A_getf (pc := 60) hX fl_X7_74_8 dX7_dreamYears_60 (by first | exact (hw2.fr hf53 htp (.inr hd)).choose_spec.2 | exact lk_f hf53 (lk_f hF2 e0 (by omega)) (by omega)) (by exact rfl) ?_
          refine A_V1i (pc := 63) hX mk_X7_drawOf lv_X7_71 dX7_dreamYears_63 (by repeat (first | assumption | exact aSet_s | exact aNew_s | refine lk_n ?_ (by omega) | refine lk_f (by assumption) ?_ (by omega) | refine lk_w ?_ (by omega))) (ct_drawOf l G h53 hb1 (by omega) hx1) rfl (Nat.le_of_ble_eq_true rfl) (Nat.le_of_ble_eq_true rfl) (Nat.le_of_ble_eq_true rfl) (Nat.le_of_ble_eq_true rfl) (Nat.le_of_ble_eq_true rfl) (fun x63 σ63 h63 => ?_)
          obtain ⟨rfl, h63, hf63⟩ := h63
          obtain ⟨c0, c1, c2, c3, c4, c5⟩ := id h63
          have hw3 := (hw2.fr hf53 htp (.inr hd)).fr hf63 htp (.inr hd)
          refine A_istore (pc := 66) (lv' := [_, _, _, _, _, _, _]) hX dX7_dreamYears_66 (Nat.le_of_ble_eq_true rfl) rfl rfl ?_
          refine A_aload_n (pc := 68) rfl hX dX7_dreamYears_68 ?_
          refine A_getf (pc := 69) hX fl_X7_24_7 dX7_dreamYears_69 (by repeat (first | assumption | exact aSet_s | exact aNew_s | refine lk_n ?_ (by omega) | refine lk_f (by assumption) ?_ (by omega) | refine lk_w ?_ (by omega))) (by exact rfl) ?_
          refine A_iload (pc := 72) rfl hX dX7_dreamYears_72 ?_
          refine A_aload_n (pc := 74) rfl hX dX7_dreamYears_74 ?_
          refine A_iload (pc := 75) rfl hX dX7_dreamYears_75 ?_
          refine A_aload_n (pc := 77) rfl hX dX7_dreamYears_77 ?_
          refine A_getf (pc := 78) hX fl_X7_24_7 dX7_dreamYears_78 (by repeat (first | assumption | exact aSet_s | exact aNew_s | refine lk_n ?_ (by omega) | refine lk_f (by assumption) ?_ (by omega) | refine lk_w ?_ (by omega))) (by exact rfl) ?_
          refine A_iload (pc := 81) rfl hX dX7_dreamYears_81 ?_
          refine A_S2d (pc := 83) hX mk_X11_at ls_X7_34 dX7_dreamYears_83 (ct_at l G c5 (by decide)) rfl (Nat.le_of_ble_eq_true rfl) (Nat.le_of_ble_eq_true rfl) (Nat.le_of_ble_eq_true rfl) (Nat.le_of_ble_eq_true rfl) (Nat.le_of_ble_eq_true rfl) ?_
          refine A_top (y := nI (Y (nxtN s / 65536 % i))) (by rw [atS_nI (by omega) (by decide), (hY _ ht1).1]) ?_
          refine A_V2d (pc := 86) hX mk_X8_after lv_X7_46 dX7_dreamYears_86 (by repeat (first | assumption | exact aSet_s | exact aNew_s | refine lk_n ?_ (by omega) | refine lk_f (by assumption) ?_ (by omega) | refine lk_w ?_ (by omega))) (ct_after l G hw3 ht2 (hY _ ht1).2) rfl (Nat.le_of_ble_eq_true rfl) (Nat.le_of_ble_eq_true rfl) (Nat.le_of_ble_eq_true rfl) (Nat.le_of_ble_eq_true rfl) (Nat.le_of_ble_eq_true rfl) ?_
          refine A_S3v (pc := 89) hX mk_X11_put ls_X7_38 dX7_dreamYears_89 (ct_put l G c5 (by decide)) rfl (Nat.le_of_ble_eq_true rfl) (Nat.le_of_ble_eq_true rfl) (Nat.le_of_ble_eq_true rfl) (Nat.le_of_ble_eq_true rfl) (Nat.le_of_ble_eq_true rfl) (fun σ89 h89 => ?_)
          obtain ⟨h89, hf89⟩ := h89
          refine A_iinc (pc := 92) (v := (nI (j + 1))) (lv' := [_, _, _, _, _, _, _]) hX dX7_dreamYears_92 rfl (nI_succ j).symm rfl rfl ?_
          refine A_goto (pc := 95) 42 hX dX7_dreamYears_95 rfl ?_
          refine ih2 (j + 1) _ _ σ89 _ _ _ (by omega) (nxtN_lt _) (((hF2.tr hf53).tr hf63).tr (hf89.wd (by omega) (by omega))) ⟨(by repeat (first | assumption | exact aSet_s | exact aNew_s | refine lk_n ?_ (by omega) | refine lk_f (by assumption) ?_ (by omega) | refine lk_w ?_ (by omega))), (by repeat (first | assumption | exact aSet_s | exact aNew_s | refine lk_n ?_ (by omega) | refine lk_f (by assumption) ?_ (by omega) | refine lk_w ?_ (by omega))), (by repeat (first | assumption | exact aSet_s | exact aNew_s | refine lk_n ?_ (by omega) | refine lk_f (by assumption) ?_ (by omega) | refine lk_w ?_ (by omega))), (by repeat (first | assumption | exact aSet_s | exact aNew_s | refine lk_n ?_ (by omega) | refine lk_f (by assumption) ?_ (by omega) | refine lk_w ?_ (by omega))), (by repeat (first | assumption | exact aSet_s | exact aNew_s | refine lk_n ?_ (by omega) | refine lk_f (by assumption) ?_ (by omega) | refine lk_w ?_ (by omega))), h89⟩ (fun q hq => ?_) hyr
          rw [putS_nI (by omega) (by decide)]
          by_cases e : q = nxtN s / 65536 % i
          · subst e
            simp only [upd, if_pos]
            exact ⟨trivial, mkB_lt hok ht2 (hY _ ht1).2⟩
          · simp only [upd, if_neg e]
            exact hY q hq
    · exact absurd (nI_le (by omega) (by omega)) c14
  | succ m ih =>
    intro i σ1 gt v5 v6 hi hm hF hC1 hg
    have hlt : i < nt := by omega
    obtain ⟨b0, b1, b2, b3, b4, b5⟩ := id hC1
    have hw1 := hw.fr hF htp (.inr hd)
    have hT1 : RTh G t nt dy V σ1 := ⟨_, _, _, _, _, _, hC1, hnt, hv⟩
    refine A_iload (pc := 8) rfl hX dX7_dreamYears_8 ?_
    refine A_aload_n (pc := 10) rfl hX dX7_dreamYears_10 ?_
    refine A_getf (pc := 11) hX fl_X7_27_7 dX7_dreamYears_11 (by repeat (first | assumption | exact aSet_s | exact aNew_s | refine lk_n ?_ (by omega) | refine lk_f (by assumption) ?_ (by omega) | refine lk_w ?_ (by omega))) (by exact rfl) ?_
    refine A_icmp_ge (pc := 14) 39 hX dX7_dreamYears_14 rfl (fun c14 => ?_) (fun c14 => ?_)
    · exact absurd c14 (nI_ge hlt (by omega))
    · refine A_aload_n (pc := 17) rfl hX dX7_dreamYears_17 ?_
      refine A_getf (pc := 18) hX fl_X7_24_7 dX7_dreamYears_18 (by repeat (first | assumption | exact aSet_s | exact aNew_s | refine lk_n ?_ (by omega) | refine lk_f (by assumption) ?_ (by omega) | refine lk_w ?_ (by omega))) (by exact rfl) ?_
      refine A_iload (pc := 21) rfl hX dX7_dreamYears_21 ?_
      refine A_aload_n (pc := 23) rfl hX dX7_dreamYears_23 ?_
      refine A_iload (pc := 24) rfl hX dX7_dreamYears_24 ?_
      refine A_aload_n (pc := 26) rfl hX dX7_dreamYears_26 ?_
      refine A_V2d (pc := 27) hX mk_X7_stateAtHome lv_X7_67 dX7_dreamYears_27 (by repeat (first | assumption | exact aSet_s | exact aNew_s | refine lk_n ?_ (by omega) | refine lk_f (by assumption) ?_ (by omega) | refine lk_w ?_ (by omega))) (ct_stateAtHome l G hT1 hw1 hV hlt) rfl (Nat.le_of_ble_eq_true rfl) (Nat.le_of_ble_eq_true rfl) (Nat.le_of_ble_eq_true rfl) (Nat.le_of_ble_eq_true rfl) (Nat.le_of_ble_eq_true rfl) ?_
      refine A_S3v (pc := 30) hX mk_X11_put ls_X7_38 dX7_dreamYears_30 (ct_put l G b5 (by decide)) rfl (Nat.le_of_ble_eq_true rfl) (Nat.le_of_ble_eq_true rfl) (Nat.le_of_ble_eq_true rfl) (Nat.le_of_ble_eq_true rfl) (Nat.le_of_ble_eq_true rfl) (fun σ30 h30 => ?_)
      obtain ⟨h30, hf30⟩ := h30
      refine A_iinc (pc := 33) (v := (nI (i + 1))) (lv' := [_, _, _, _, _, _, _]) hX dX7_dreamYears_33 rfl (nI_succ i).symm rfl rfl ?_
      refine A_goto (pc := 36) 8 hX dX7_dreamYears_36 rfl ?_
      refine ih (i + 1) σ30 _ _ _ (by omega) (by omega) (hF.tr (hf30.wd (by omega) (by omega))) ⟨(by repeat (first | assumption | exact aSet_s | exact aNew_s | refine lk_n ?_ (by omega) | refine lk_f (by assumption) ?_ (by omega) | refine lk_w ?_ (by omega))), (by repeat (first | assumption | exact aSet_s | exact aNew_s | refine lk_n ?_ (by omega) | refine lk_f (by assumption) ?_ (by omega) | refine lk_w ?_ (by omega))), (by repeat (first | assumption | exact aSet_s | exact aNew_s | refine lk_n ?_ (by omega) | refine lk_f (by assumption) ?_ (by omega) | refine lk_w ?_ (by omega))), (by repeat (first | assumption | exact aSet_s | exact aNew_s | refine lk_n ?_ (by omega) | refine lk_f (by assumption) ?_ (by omega) | refine lk_w ?_ (by omega))), (by repeat (first | assumption | exact aSet_s | exact aNew_s | refine lk_n ?_ (by omega) | refine lk_f (by assumption) ?_ (by omega) | refine lk_w ?_ (by omega))), h30⟩ (fun j hj => ?_)
      rw [putS_nI (by omega) (by decide)]
      by_cases q : j = i
      · subst q; simp [upd]
      · simp only [upd, if_neg q]; exact hg j (by omega)
set_option maxRecDepth 100000 in
set_option maxHeartbeats 1000000 in
theorem ct_stateOfFirstThen (l : Launch) (G : aG) {t nt sd : Nat} {dy : Int32} {V : Nat → Nat × Int32 × Int32 × Int32} {Y : Nat → Nat} {σ : aS} (hT : RTy G t nt dy V Y sd σ) (hn : 0 < nt) : ACt l G yX7_stateOfFirstThen cX7_stateOfFirstThen 1 (some .int) 1 0 0 [.ref t] σ (dP (some (.int (nI (Y 0)))) σ) := by
  obtain ⟨fs, fh, fl, fr, ft, ⟨a0, a1, a2, a3, a4, a5⟩, hnt, hY⟩ := id hT
  refine ACt.intro (own := RX7) (nm := "stateOfFirstThen") mk_X7_stateOfFirstThen rfl rfl [some (.ref t)] rfl (Nat.le_of_ble_eq_true rfl) (fun X hX hR => ?_)
  refine A_aload_n (pc := 0) rfl hX dX7_stateOfFirstThen_0 ?_
  refine A_getf (pc := 1) hX fl_X7_24_7 dX7_stateOfFirstThen_1 (by repeat (first | assumption | exact aSet_s | exact aNew_s | refine lk_n ?_ (by omega) | refine lk_f (by assumption) ?_ (by omega) | refine lk_w ?_ (by omega))) (by exact rfl) ?_
  refine A_iconst (pc := 4) (v := (nI 0)) (by decide) hX dX7_stateOfFirstThen_4 ?_
  refine A_S2d (pc := 5) hX mk_X11_at ls_X7_34 dX7_stateOfFirstThen_5 (ct_at l G (by repeat (first | assumption | exact aSet_s | exact aNew_s | refine lk_n ?_ (by omega) | refine lk_f (by assumption) ?_ (by omega) | refine lk_w ?_ (by omega))) (by decide)) rfl (Nat.le_of_ble_eq_true rfl) (Nat.le_of_ble_eq_true rfl) (Nat.le_of_ble_eq_true rfl) (Nat.le_of_ble_eq_true rfl) (Nat.le_of_ble_eq_true rfl) ?_
  refine A_iret (pc := 8) hX hR dX7_stateOfFirstThen_8 rfl rfl ?_
  exact ⟨by rw [atS_nI (by decide) (by decide), (hY 0 hn).1], rfl⟩
set_option maxRecDepth 100000 in
set_option maxHeartbeats 1000000 in
theorem ct_traitsTogetherThen (l : Launch) (G : aG) {t nt sd : Nat} {dy : Int32} {V : Nat → Nat × Int32 × Int32 × Int32} {Y : Nat → Nat} {σ : aS} (hT : RTy G t nt dy V Y sd σ) : ACt l G yX7_traitsTogetherThen cX7_traitsTogetherThen 1 (some .int) 3 0 0 [.ref t] σ (dP (some (.int (nI (sumN (fun i => trS (Y i)) nt)))) σ) := by
  obtain ⟨fs, fh, fl, fr, ft, ⟨a0, a1, a2, a3, a4, a5⟩, hnt, hY⟩ := id hT
  refine ACt.intro (own := RX7) (nm := "traitsTogetherThen") mk_X7_traitsTogetherThen rfl rfl [some (.ref t)] rfl (Nat.le_of_ble_eq_true rfl) (fun X hX hR => ?_)
  refine A_aload_n (pc := 0) rfl hX dX7_traitsTogetherThen_0 ?_
  refine A_aload_n (pc := 1) rfl hX dX7_traitsTogetherThen_1 ?_
  refine A_getf (pc := 2) hX fl_X7_24_7 dX7_traitsTogetherThen_2 (by repeat (first | assumption | exact aSet_s | exact aNew_s | refine lk_n ?_ (by omega) | refine lk_f (by assumption) ?_ (by omega) | refine lk_w ?_ (by omega))) (by exact rfl) ?_
  refine A_V1d (pc := 5) hX mk_X7_traitsOf lv_X7_60 dX7_traitsTogetherThen_5 (by repeat (first | assumption | exact aSet_s | exact aNew_s | refine lk_n ?_ (by omega) | refine lk_f (by assumption) ?_ (by omega) | refine lk_w ?_ (by omega))) (ct_traitsOf l G hT.th a5 hY) rfl (Nat.le_of_ble_eq_true rfl) (Nat.le_of_ble_eq_true rfl) (Nat.le_of_ble_eq_true rfl) (Nat.le_of_ble_eq_true rfl) (Nat.le_of_ble_eq_true rfl) ?_
  refine A_iret (pc := 8) hX hR dX7_traitsTogetherThen_8 rfl rfl ?_
  exact ⟨rfl, rfl⟩
set_option maxRecDepth 100000 in
set_option maxHeartbeats 1000000 in
theorem ct_copyFrom (l : Launch) (G : aG) {t nt : Nat} {dy : Int32} {V : Nat → Nat × Int32 × Int32 × Int32} {σ : aS} (hT : RTh G t nt dy V σ) {k n2 : Nat} {d2 : Int32} {V2 : Nat → Nat × Int32 × Int32 × Int32} (hK : RTh G k n2 d2 V2 σ) (hd : t + 6 ≤ k ∨ k + 6 ≤ t) : ACt l G yX7_copyFrom cX7_copyFrom 3 (none) 1 0 0 [.ref t, .ref k] σ (vP (fun σ' => RTh G t (n2) (d2) (V2) σ' ∧ Fr t (t + 6) σ σ')) := by
  obtain ⟨sd, fs, fh, fl, fr, ft, ⟨a0, a1, a2, a3, a4, a5⟩, hnt, hv⟩ := id hT
  obtain ⟨sd2, gs, gh, gl, gr, gt, ⟨k0, k1, k2, k3, k4, k5⟩, hn2, hv2⟩ := id hK
  refine ACt.intro (own := RX7) (nm := "copyFrom") mk_X7_copyFrom rfl rfl [some (.ref t), some (.ref k), none] rfl (Nat.le_of_ble_eq_true rfl) (fun X hX hR => ?_)
  refine A_aload_n (pc := 0) rfl hX dX7_copyFrom_0 ?_
  refine A_aload_n (pc := 1) rfl hX dX7_copyFrom_1 ?_
  refine A_getf (pc := 2) hX fl_X7_27_7 dX7_copyFrom_2 (by repeat (first | assumption | exact aSet_s | exact aNew_s | refine lk_n ?_ (by omega) | refine lk_f (by assumption) ?_ (by omega) | refine lk_w ?_ (by omega))) (by exact rfl) ?_
  refine A_putf (pc := 5) (fs' := [_, _, _, _, _, _, _, _]) hX pl_X7_27_7 dX7_copyFrom_5 (by repeat (first | assumption | exact aSet_s | exact aNew_s | refine lk_n ?_ (by omega) | refine lk_f (by assumption) ?_ (by omega) | refine lk_w ?_ (by omega))) (by exact Nat.le_of_ble_eq_true rfl) (by exact rfl) rfl rfl ?_
  refine A_aload_n (pc := 8) rfl hX dX7_copyFrom_8 ?_
  refine A_aload_n (pc := 9) rfl hX dX7_copyFrom_9 ?_
  refine A_getf (pc := 10) hX fl_X7_31_7 dX7_copyFrom_10 (by repeat (first | assumption | exact aSet_s | exact aNew_s | refine lk_n ?_ (by omega) | refine lk_f (by assumption) ?_ (by omega) | refine lk_w ?_ (by omega))) (by exact rfl) ?_
  refine A_putf (pc := 13) (fs' := [_, _, _, _, _, _, _, _]) hX pl_X7_31_7 dX7_copyFrom_13 (by repeat (first | assumption | exact aSet_s | exact aNew_s | refine lk_n ?_ (by omega) | refine lk_f (by assumption) ?_ (by omega) | refine lk_w ?_ (by omega))) (by exact Nat.le_of_ble_eq_true rfl) (by exact rfl) rfl rfl ?_
  refine A_iconst (pc := 16) (v := (nI 0)) (by decide) hX dX7_copyFrom_16 ?_
  refine A_istore_n (pc := 17) (lv' := [_, _, _]) hX dX7_copyFrom_17 (Nat.le_of_ble_eq_true rfl) rfl rfl ?_
  suffices hl : ∀ (m i : Nat) (σ1 : aS) (f1 f2 f3 f4 : Nat → Int32), i ≤ 4 → 4 - i = m → Fr t (t + 6) σ σ1 → RTc G t n2 d2 sd f1 f2 f3 f4 ft σ1 → (∀ j, j < i → f1 j = gs j ∧ f2 j = gh j ∧ f3 j = gl j ∧ f4 j = gr j) → AA G X 0 0 18 [some (.ref t), some (.ref k), some (.int (nI i))] [] σ1 from hl 4 0 _ fs fh fl fr (by omega) rfl (by repeat (first | exact Fr.rf | refine Fr.set ?_ (by omega) (by omega) | refine Fr.tr ?_ (Fr.wd (by assumption) (by omega) (by omega)))) ⟨aSet_s, (by repeat (first | assumption | exact aSet_s | exact aNew_s | refine lk_n ?_ (by omega) | refine lk_f (by assumption) ?_ (by omega) | refine lk_w ?_ (by omega))), (by repeat (first | assumption | exact aSet_s | exact aNew_s | refine lk_n ?_ (by omega) | refine lk_f (by assumption) ?_ (by omega) | refine lk_w ?_ (by omega))), (by repeat (first | assumption | exact aSet_s | exact aNew_s | refine lk_n ?_ (by omega) | refine lk_f (by assumption) ?_ (by omega) | refine lk_w ?_ (by omega))), (by repeat (first | assumption | exact aSet_s | exact aNew_s | refine lk_n ?_ (by omega) | refine lk_f (by assumption) ?_ (by omega) | refine lk_w ?_ (by omega))), (by repeat (first | assumption | exact aSet_s | exact aNew_s | refine lk_n ?_ (by omega) | refine lk_f (by assumption) ?_ (by omega) | refine lk_w ?_ (by omega)))⟩ (fun j hj => absurd hj (by omega))
  intro m
  induction m with
  | zero =>
    intro i σ1 f1 f2 f3 f4 hi hm hF hC hj
    have e : i = 4 := by omega
    subst e
    refine A_iload_n (pc := 18) rfl hX dX7_copyFrom_18 ?_
    refine A_iconst (pc := 19) (v := (nI 4)) (by decide) hX dX7_copyFrom_19 ?_
    refine A_icmp_ge (pc := 20) 93 hX dX7_copyFrom_20 rfl (fun c20 => ?_) (fun c20 => ?_)
    · refine A_ret (pc := 93) hX hR dX7_copyFrom_93 ?_
      exact ⟨rfl, ⟨_, _, _, _, _, _, hC, hn2, fun j hj2 => by
        obtain ⟨q1, q2, q3, q4⟩ := hj j (by omega)
        rw [q1, q2, q3, q4]; exact hv2 j hj2⟩, hF⟩
    · exact absurd (nI_le (by omega) (by omega)) c20
  | succ m ih =>
    intro i σ1 f1 f2 f3 f4 hi hm hF hC hj
    have hlt : i < 4 := by omega
    obtain ⟨b0, b1, b2, b3, b4, b5⟩ := id hC
    have c0 := lk_f hF k0 (by omega)
    have c1 := lk_f hF k1 (by omega)
    have c2 := lk_f hF k2 (by omega)
    have c3 := lk_f hF k3 (by omega)
    have c4 := lk_f hF k4 (by omega)
    refine A_iload_n (pc := 18) rfl hX dX7_copyFrom_18 ?_
    refine A_iconst (pc := 19) (v := (nI 4)) (by decide) hX dX7_copyFrom_19 ?_
    refine A_icmp_ge (pc := 20) 93 hX dX7_copyFrom_20 rfl (fun c20 => ?_) (fun c20 => ?_)
    · exact absurd c20 (nI_ge hlt (by decide))
    · refine A_aload_n (pc := 23) rfl hX dX7_copyFrom_23 ?_
      refine A_getf (pc := 24) hX fl_X7_9_7 dX7_copyFrom_24 (by repeat (first | assumption | exact aSet_s | exact aNew_s | refine lk_n ?_ (by omega) | refine lk_f (by assumption) ?_ (by omega) | refine lk_w ?_ (by omega))) (by exact rfl) ?_
      refine A_iload_n (pc := 27) rfl hX dX7_copyFrom_27 ?_
      refine A_aload_n (pc := 28) rfl hX dX7_copyFrom_28 ?_
      refine A_getf (pc := 29) hX fl_X7_9_7 dX7_copyFrom_29 (by repeat (first | assumption | exact aSet_s | exact aNew_s | refine lk_n ?_ (by omega) | refine lk_f (by assumption) ?_ (by omega) | refine lk_w ?_ (by omega))) (by exact rfl) ?_
      refine A_iload_n (pc := 32) rfl hX dX7_copyFrom_32 ?_
      refine A_S2d (pc := 33) hX mk_X11_at ls_X7_34 dX7_copyFrom_33 (ct_at l G (by repeat (first | assumption | exact aSet_s | exact aNew_s | refine lk_n ?_ (by omega) | refine lk_f (by assumption) ?_ (by omega) | refine lk_w ?_ (by omega))) (by decide)) rfl (Nat.le_of_ble_eq_true rfl) (Nat.le_of_ble_eq_true rfl) (Nat.le_of_ble_eq_true rfl) (Nat.le_of_ble_eq_true rfl) (Nat.le_of_ble_eq_true rfl) ?_
      refine A_S3v (pc := 36) hX mk_X11_put ls_X7_38 dX7_copyFrom_36 (ct_put l G (by repeat (first | assumption | exact aSet_s | exact aNew_s | refine lk_n ?_ (by omega) | refine lk_f (by assumption) ?_ (by omega) | refine lk_w ?_ (by omega))) (by decide)) rfl (Nat.le_of_ble_eq_true rfl) (Nat.le_of_ble_eq_true rfl) (Nat.le_of_ble_eq_true rfl) (Nat.le_of_ble_eq_true rfl) (Nat.le_of_ble_eq_true rfl) (fun σ36 h36 => ?_)
      obtain ⟨h36, hf36⟩ := h36
      refine A_aload_n (pc := 39) rfl hX dX7_copyFrom_39 ?_
      refine A_getf (pc := 40) hX fl_X7_15_7 dX7_copyFrom_40 (by repeat (first | assumption | exact aSet_s | exact aNew_s | refine lk_n ?_ (by omega) | refine lk_f (by assumption) ?_ (by omega) | refine lk_w ?_ (by omega))) (by exact rfl) ?_
      refine A_iload_n (pc := 43) rfl hX dX7_copyFrom_43 ?_
      refine A_aload_n (pc := 44) rfl hX dX7_copyFrom_44 ?_
      refine A_getf (pc := 45) hX fl_X7_15_7 dX7_copyFrom_45 (by repeat (first | assumption | exact aSet_s | exact aNew_s | refine lk_n ?_ (by omega) | refine lk_f (by assumption) ?_ (by omega) | refine lk_w ?_ (by omega))) (by exact rfl) ?_
      refine A_iload_n (pc := 48) rfl hX dX7_copyFrom_48 ?_
      refine A_S2d (pc := 49) hX mk_X11_at ls_X7_34 dX7_copyFrom_49 (ct_at l G (by repeat (first | assumption | exact aSet_s | exact aNew_s | refine lk_n ?_ (by omega) | refine lk_f (by assumption) ?_ (by omega) | refine lk_w ?_ (by omega))) (by decide)) rfl (Nat.le_of_ble_eq_true rfl) (Nat.le_of_ble_eq_true rfl) (Nat.le_of_ble_eq_true rfl) (Nat.le_of_ble_eq_true rfl) (Nat.le_of_ble_eq_true rfl) ?_
      refine A_S3v (pc := 52) hX mk_X11_put ls_X7_38 dX7_copyFrom_52 (ct_put l G (by repeat (first | assumption | exact aSet_s | exact aNew_s | refine lk_n ?_ (by omega) | refine lk_f (by assumption) ?_ (by omega) | refine lk_w ?_ (by omega))) (by decide)) rfl (Nat.le_of_ble_eq_true rfl) (Nat.le_of_ble_eq_true rfl) (Nat.le_of_ble_eq_true rfl) (Nat.le_of_ble_eq_true rfl) (Nat.le_of_ble_eq_true rfl) (fun σ52 h52 => ?_)
      obtain ⟨h52, hf52⟩ := h52
      refine A_aload_n (pc := 55) rfl hX dX7_copyFrom_55 ?_
      refine A_getf (pc := 56) hX fl_X7_18_7 dX7_copyFrom_56 (by repeat (first | assumption | exact aSet_s | exact aNew_s | refine lk_n ?_ (by omega) | refine lk_f (by assumption) ?_ (by omega) | refine lk_w ?_ (by omega))) (by exact rfl) ?_
      refine A_iload_n (pc := 59) rfl hX dX7_copyFrom_59 ?_
      refine A_aload_n (pc := 60) rfl hX dX7_copyFrom_60 ?_
      refine A_getf (pc := 61) hX fl_X7_18_7 dX7_copyFrom_61 (by repeat (first | assumption | exact aSet_s | exact aNew_s | refine lk_n ?_ (by omega) | refine lk_f (by assumption) ?_ (by omega) | refine lk_w ?_ (by omega))) (by exact rfl) ?_
      refine A_iload_n (pc := 64) rfl hX dX7_copyFrom_64 ?_
      refine A_S2d (pc := 65) hX mk_X11_at ls_X7_34 dX7_copyFrom_65 (ct_at l G (by repeat (first | assumption | exact aSet_s | exact aNew_s | refine lk_n ?_ (by omega) | refine lk_f (by assumption) ?_ (by omega) | refine lk_w ?_ (by omega))) (by decide)) rfl (Nat.le_of_ble_eq_true rfl) (Nat.le_of_ble_eq_true rfl) (Nat.le_of_ble_eq_true rfl) (Nat.le_of_ble_eq_true rfl) (Nat.le_of_ble_eq_true rfl) ?_
      refine A_S3v (pc := 68) hX mk_X11_put ls_X7_38 dX7_copyFrom_68 (ct_put l G (by repeat (first | assumption | exact aSet_s | exact aNew_s | refine lk_n ?_ (by omega) | refine lk_f (by assumption) ?_ (by omega) | refine lk_w ?_ (by omega))) (by decide)) rfl (Nat.le_of_ble_eq_true rfl) (Nat.le_of_ble_eq_true rfl) (Nat.le_of_ble_eq_true rfl) (Nat.le_of_ble_eq_true rfl) (Nat.le_of_ble_eq_true rfl) (fun σ68 h68 => ?_)
      obtain ⟨h68, hf68⟩ := h68
      refine A_aload_n (pc := 71) rfl hX dX7_copyFrom_71 ?_
      refine A_getf (pc := 72) hX fl_X7_21_7 dX7_copyFrom_72 (by repeat (first | assumption | exact aSet_s | exact aNew_s | refine lk_n ?_ (by omega) | refine lk_f (by assumption) ?_ (by omega) | refine lk_w ?_ (by omega))) (by exact rfl) ?_
      refine A_iload_n (pc := 75) rfl hX dX7_copyFrom_75 ?_
      refine A_aload_n (pc := 76) rfl hX dX7_copyFrom_76 ?_
      refine A_getf (pc := 77) hX fl_X7_21_7 dX7_copyFrom_77 (by repeat (first | assumption | exact aSet_s | exact aNew_s | refine lk_n ?_ (by omega) | refine lk_f (by assumption) ?_ (by omega) | refine lk_w ?_ (by omega))) (by exact rfl) ?_
      refine A_iload_n (pc := 80) rfl hX dX7_copyFrom_80 ?_
      refine A_S2d (pc := 81) hX mk_X11_at ls_X7_34 dX7_copyFrom_81 (ct_at l G (by repeat (first | assumption | exact aSet_s | exact aNew_s | refine lk_n ?_ (by omega) | refine lk_f (by assumption) ?_ (by omega) | refine lk_w ?_ (by omega))) (by decide)) rfl (Nat.le_of_ble_eq_true rfl) (Nat.le_of_ble_eq_true rfl) (Nat.le_of_ble_eq_true rfl) (Nat.le_of_ble_eq_true rfl) (Nat.le_of_ble_eq_true rfl) ?_
      refine A_S3v (pc := 84) hX mk_X11_put ls_X7_38 dX7_copyFrom_84 (ct_put l G (by repeat (first | assumption | exact aSet_s | exact aNew_s | refine lk_n ?_ (by omega) | refine lk_f (by assumption) ?_ (by omega) | refine lk_w ?_ (by omega))) (by decide)) rfl (Nat.le_of_ble_eq_true rfl) (Nat.le_of_ble_eq_true rfl) (Nat.le_of_ble_eq_true rfl) (Nat.le_of_ble_eq_true rfl) (Nat.le_of_ble_eq_true rfl) (fun σ84 h84 => ?_)
      obtain ⟨h84, hf84⟩ := h84
      refine A_iinc (pc := 87) (v := (nI (i + 1))) (lv' := [_, _, _]) hX dX7_copyFrom_87 rfl (nI_succ i).symm rfl rfl ?_
      refine A_goto (pc := 90) 18 hX dX7_copyFrom_90 rfl ?_
      refine ih (i + 1) σ84 _ _ _ _ (by omega) (by omega) (hF.tr (by repeat (first | exact Fr.rf | refine Fr.set ?_ (by omega) (by omega) | refine Fr.tr ?_ (Fr.wd (by assumption) (by omega) (by omega))))) ⟨(by repeat (first | assumption | exact aSet_s | exact aNew_s | refine lk_n ?_ (by omega) | refine lk_f (by assumption) ?_ (by omega) | refine lk_w ?_ (by omega))), (by repeat (first | assumption | exact aSet_s | exact aNew_s | refine lk_n ?_ (by omega) | refine lk_f (by assumption) ?_ (by omega) | refine lk_w ?_ (by omega))), (by repeat (first | assumption | exact aSet_s | exact aNew_s | refine lk_n ?_ (by omega) | refine lk_f (by assumption) ?_ (by omega) | refine lk_w ?_ (by omega))), (by repeat (first | assumption | exact aSet_s | exact aNew_s | refine lk_n ?_ (by omega) | refine lk_f (by assumption) ?_ (by omega) | refine lk_w ?_ (by omega))), h84, (by repeat (first | assumption | exact aSet_s | exact aNew_s | refine lk_n ?_ (by omega) | refine lk_f (by assumption) ?_ (by omega) | refine lk_w ?_ (by omega)))⟩ (fun j hj2 => ?_)
      rw [putS_nI hlt (by decide), putS_nI hlt (by decide), putS_nI hlt (by decide), putS_nI hlt (by decide)]
      by_cases q : j = i
      · subst q; simp only [upd, if_pos, atS_nI hlt (show 4 < 2 ^ 31 by decide)]; exact ⟨trivial, trivial, trivial, trivial⟩
      · simp only [upd, if_neg q]; exact hj j (by omega)
set_option maxRecDepth 100000 in
set_option maxHeartbeats 1000000 in
theorem ct_Th_init (l : Launch) (G : aG) {t : Nat} {σ : aS} (ho : σ.2 t = some (aO 7 [.null, .null, .null, .null, .int 0, .int 0, .null, .int 0])) (hz : σ.1 = t + 1) : ACt l G yX7_init cX7_init 1 (none) 1 5 20 [.ref t] σ (vP (fun σ' => σ'.1 = t + 6 ∧ (∀ a, a < t → σ'.2 a = σ.2 a) ∧ RTh G t 0 0 (fun _ => (0, 0, 0, 0)) σ')) := by
  have hl : ∀ a, a < t → σ.2 a = σ.2 a := fun _ _ => rfl
  refine ACt.intro (own := RX7) (nm := "<init>") mk_X7_init rfl rfl [some (.ref t)] rfl (Nat.le_of_ble_eq_true rfl) (fun X hX hR => ?_)
  refine A_aload_n (pc := 0) rfl hX dX7_init_0 ?_
  refine A_objInit (pc := 1) hX lo_X7_3 dX7_init_1 rfl (Nat.le_of_ble_eq_true rfl) (Nat.le_of_ble_eq_true rfl) ?_
  refine A_aload_n (pc := 4) rfl hX dX7_init_4 ?_
  refine A_iconst (pc := 5) (v := (nI 4)) (by decide) hX dX7_init_5 ?_
  refine A_newI (pc := 6) (N := 4) hX dX7_init_6 (by decide) (by decide) (by decide) (Nat.le_of_ble_eq_true rfl) (Nat.le_of_ble_eq_true rfl) ?_
  refine A_putF (pc := 8) (fs' := [_, _, _, _, _, _, _, _]) hX pl_X7_9_7 dX7_init_8 (by repeat (first | assumption | exact aSet_s | exact aNew_s | refine lk_n ?_ (by omega) | refine lk_f (by assumption) ?_ (by omega) | refine lk_w ?_ (by omega))) (by exact Nat.le_of_ble_eq_true rfl) (by exact rfl) rfl rfl ?_
  refine A_gen (fun z => z.1 = t + 2 ∧ (∀ a, a < t → z.2 a = σ.2 a) ∧ z.2 t = some (aO 7 [.ref (t + 1), .null, .null, .null, .int 0, .int 0, .null, .int 0]) ∧ z.2 (t + 1) = some (aI G 4 (fun _ => 0))) ⟨by show _ + 1 = _; omega, fun a ha => (aSet_n (by omega)).trans ((aNew_n (by omega)).trans (hl a ha)), by rw [aSet_s, hz], lk_n (aNew_s' (by omega)) (by omega)⟩ (fun σ11 hg => ?_)
  obtain ⟨hz, hl, ho, hc1⟩ := hg
  refine A_aload_n (pc := 11) rfl hX dX7_init_11 ?_
  refine A_iconst (pc := 12) (v := (nI 4)) (by decide) hX dX7_init_12 ?_
  refine A_newI (pc := 13) (N := 4) hX dX7_init_13 (by decide) (by decide) (by decide) (Nat.le_of_ble_eq_true rfl) (Nat.le_of_ble_eq_true rfl) ?_
  refine A_putF (pc := 15) (fs' := [_, _, _, _, _, _, _, _]) hX pl_X7_15_7 dX7_init_15 (by repeat (first | assumption | exact aSet_s | exact aNew_s | refine lk_n ?_ (by omega) | refine lk_f (by assumption) ?_ (by omega) | refine lk_w ?_ (by omega))) (by exact Nat.le_of_ble_eq_true rfl) (by exact rfl) rfl rfl ?_
  refine A_gen (fun z => z.1 = t + 3 ∧ (∀ a, a < t → z.2 a = σ.2 a) ∧ z.2 t = some (aO 7 [.ref (t + 1), .ref (t + 2), .null, .null, .int 0, .int 0, .null, .int 0]) ∧ z.2 (t + 1) = some (aI G 4 (fun _ => 0)) ∧ z.2 (t + 2) = some (aI G 4 (fun _ => 0))) ⟨by show _ + 1 = _; omega, fun a ha => (aSet_n (by omega)).trans ((aNew_n (by omega)).trans (hl a ha)), by rw [aSet_s, hz], lk_n (lk_w hc1 (by omega)) (by omega), lk_n (aNew_s' (by omega)) (by omega)⟩ (fun σ18 hg => ?_)
  obtain ⟨hz, hl, ho, hc1, hc2⟩ := hg
  refine A_aload_n (pc := 18) rfl hX dX7_init_18 ?_
  refine A_iconst (pc := 19) (v := (nI 4)) (by decide) hX dX7_init_19 ?_
  refine A_newI (pc := 20) (N := 4) hX dX7_init_20 (by decide) (by decide) (by decide) (Nat.le_of_ble_eq_true rfl) (Nat.le_of_ble_eq_true rfl) ?_
  refine A_putF (pc := 22) (fs' := [_, _, _, _, _, _, _, _]) hX pl_X7_18_7 dX7_init_22 (by repeat (first | assumption | exact aSet_s | exact aNew_s | refine lk_n ?_ (by omega) | refine lk_f (by assumption) ?_ (by omega) | refine lk_w ?_ (by omega))) (by exact Nat.le_of_ble_eq_true rfl) (by exact rfl) rfl rfl ?_
  refine A_gen (fun z => z.1 = t + 4 ∧ (∀ a, a < t → z.2 a = σ.2 a) ∧ z.2 t = some (aO 7 [.ref (t + 1), .ref (t + 2), .ref (t + 3), .null, .int 0, .int 0, .null, .int 0]) ∧ z.2 (t + 1) = some (aI G 4 (fun _ => 0)) ∧ z.2 (t + 2) = some (aI G 4 (fun _ => 0)) ∧ z.2 (t + 3) = some (aI G 4 (fun _ => 0))) ⟨by show _ + 1 = _; omega, fun a ha => (aSet_n (by omega)).trans ((aNew_n (by omega)).trans (hl a ha)), by rw [aSet_s, hz], lk_n (lk_w hc1 (by omega)) (by omega), lk_n (lk_w hc2 (by omega)) (by omega), lk_n (aNew_s' (by omega)) (by omega)⟩ (fun σ25 hg => ?_)
  obtain ⟨hz, hl, ho, hc1, hc2, hc3⟩ := hg
  refine A_aload_n (pc := 25) rfl hX dX7_init_25 ?_
  refine A_iconst (pc := 26) (v := (nI 4)) (by decide) hX dX7_init_26 ?_
  refine A_newI (pc := 27) (N := 4) hX dX7_init_27 (by decide) (by decide) (by decide) (Nat.le_of_ble_eq_true rfl) (Nat.le_of_ble_eq_true rfl) ?_
  refine A_putF (pc := 29) (fs' := [_, _, _, _, _, _, _, _]) hX pl_X7_21_7 dX7_init_29 (by repeat (first | assumption | exact aSet_s | exact aNew_s | refine lk_n ?_ (by omega) | refine lk_f (by assumption) ?_ (by omega) | refine lk_w ?_ (by omega))) (by exact Nat.le_of_ble_eq_true rfl) (by exact rfl) rfl rfl ?_
  refine A_gen (fun z => z.1 = t + 5 ∧ (∀ a, a < t → z.2 a = σ.2 a) ∧ z.2 t = some (aO 7 [.ref (t + 1), .ref (t + 2), .ref (t + 3), .ref (t + 4), .int 0, .int 0, .null, .int 0]) ∧ z.2 (t + 1) = some (aI G 4 (fun _ => 0)) ∧ z.2 (t + 2) = some (aI G 4 (fun _ => 0)) ∧ z.2 (t + 3) = some (aI G 4 (fun _ => 0)) ∧ z.2 (t + 4) = some (aI G 4 (fun _ => 0))) ⟨by show _ + 1 = _; omega, fun a ha => (aSet_n (by omega)).trans ((aNew_n (by omega)).trans (hl a ha)), by rw [aSet_s, hz], lk_n (lk_w hc1 (by omega)) (by omega), lk_n (lk_w hc2 (by omega)) (by omega), lk_n (lk_w hc3 (by omega)) (by omega), lk_n (aNew_s' (by omega)) (by omega)⟩ (fun σ32 hg => ?_)
  obtain ⟨hz, hl, ho, hc1, hc2, hc3, hc4⟩ := hg
  refine A_aload_n (pc := 32) rfl hX dX7_init_32 ?_
  refine A_iconst (pc := 33) (v := (nI 4)) (by decide) hX dX7_init_33 ?_
  refine A_newI (pc := 34) (N := 4) hX dX7_init_34 (by decide) (by decide) (by decide) (Nat.le_of_ble_eq_true rfl) (Nat.le_of_ble_eq_true rfl) ?_
  refine A_putF (pc := 36) (fs' := [_, _, _, _, _, _, _, _]) hX pl_X7_24_7 dX7_init_36 (by repeat (first | assumption | exact aSet_s | exact aNew_s | refine lk_n ?_ (by omega) | refine lk_f (by assumption) ?_ (by omega) | refine lk_w ?_ (by omega))) (by exact Nat.le_of_ble_eq_true rfl) (by exact rfl) rfl rfl ?_
  refine A_gen (fun z => z.1 = t + 6 ∧ (∀ a, a < t → z.2 a = σ.2 a) ∧ z.2 t = some (aO 7 [.ref (t + 1), .ref (t + 2), .ref (t + 3), .ref (t + 4), .int 0, .int 0, .ref (t + 5), .int 0]) ∧ z.2 (t + 1) = some (aI G 4 (fun _ => 0)) ∧ z.2 (t + 2) = some (aI G 4 (fun _ => 0)) ∧ z.2 (t + 3) = some (aI G 4 (fun _ => 0)) ∧ z.2 (t + 4) = some (aI G 4 (fun _ => 0)) ∧ z.2 (t + 5) = some (aI G 4 (fun _ => 0))) ⟨by show _ + 1 = _; omega, fun a ha => (aSet_n (by omega)).trans ((aNew_n (by omega)).trans (hl a ha)), by rw [aSet_s, hz], lk_n (lk_w hc1 (by omega)) (by omega), lk_n (lk_w hc2 (by omega)) (by omega), lk_n (lk_w hc3 (by omega)) (by omega), lk_n (lk_w hc4 (by omega)) (by omega), lk_n (aNew_s' (by omega)) (by omega)⟩ (fun σ39 hg => ?_)
  obtain ⟨hz, hl, ho, hc1, hc2, hc3, hc4, hc5⟩ := hg
  refine A_ret (pc := 39) hX hR dX7_init_39 ?_
  exact ⟨rfl, hz, hl, _, _, _, _, _, _, ⟨ho, hc1, hc2, hc3, hc4, hc5⟩, by omega, fun i hi => absurd hi (by omega)⟩
