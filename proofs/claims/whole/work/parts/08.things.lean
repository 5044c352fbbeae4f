/-! the things: t the object, t + 1 .. t + 5 its rows. V: of each thing its state, who has it (-1: nobody), how long still, how often it came back -/
def RTc (G : aG) (t nt : Nat) (dy sd : Int32) (fs fh fl fr ft : Nat → Int32) (σ : aS) : Prop := σ.2 t = some (aO 7 [.ref (t + 1), .ref (t + 2), .ref (t + 3), .ref (t + 4), .int (nI nt), .int dy, .ref (t + 5), .int sd]) ∧ σ.2 (t + 1) = some (aI G 4 fs) ∧ σ.2 (t + 2) = some (aI G 4 fh) ∧ σ.2 (t + 3) = some (aI G 4 fl) ∧ σ.2 (t + 4) = some (aI G 4 fr) ∧ σ.2 (t + 5) = some (aI G 4 ft)
def lkV (nt : Nat) (V : Nat → Nat × Int32 × Int32 × Int32) (fs fh fl fr : Nat → Int32) : Prop := nt ≤ 4 ∧ ∀ i, i < nt → fs i = nI (V i).1 ∧ fh i = (V i).2.1 ∧ fl i = (V i).2.2.1 ∧ fr i = (V i).2.2.2
def RTh (G : aG) (t nt : Nat) (dy : Int32) (V : Nat → Nat × Int32 × Int32 × Int32) (σ : aS) : Prop := ∃ (sd : Int32) (fs fh fl fr ft : Nat → Int32), RTc G t nt dy sd fs fh fl fr ft σ ∧ lkV nt V fs fh fl fr
def RTy (G : aG) (t nt : Nat) (dy : Int32) (V : Nat → Nat × Int32 × Int32 × Int32) (Y : Nat → Nat) (sd : Nat) (σ : aS) : Prop := ∃ (fs fh fl fr ft : Nat → Int32), RTc G t nt dy (nI sd) fs fh fl fr ft σ ∧ lkV nt V fs fh fl fr ∧ ∀ i, i < nt → ft i = nI (Y i) ∧ Y i < 512
theorem RTy.th {G : aG} {t nt sd : Nat} {dy : Int32} {V : Nat → Nat × Int32 × Int32 × Int32} {Y : Nat → Nat} {σ : aS} (h : RTy G t nt dy V Y sd σ) : RTh G t nt dy V σ := by
  obtain ⟨fs, fh, fl, fr, ft, h1, h2, -⟩ := h
  exact ⟨_, fs, fh, fl, fr, ft, h1, h2⟩
theorem RTc.kept {G : aG} {t nt : Nat} {dy sd : Int32} {fs fh fl fr ft : Nat → Int32} {σ σ' : aS} (h : RTc G t nt dy sd fs fh fl fr ft σ) (hk : ∀ a, t ≤ a → a < t + 6 → σ'.2 a = σ.2 a) : RTc G t nt dy sd fs fh fl fr ft σ' := by
  obtain ⟨h0, h1, h2, h3, h4, h5⟩ := h
  exact ⟨(hk t (by omega) (by omega)).trans h0, (hk _ (by omega) (by omega)).trans h1, (hk _ (by omega) (by omega)).trans h2, (hk _ (by omega) (by omega)).trans h3, (hk _ (by omega) (by omega)).trans h4, (hk _ (by omega) (by omega)).trans h5⟩
theorem RTh.kept {G : aG} {t nt : Nat} {dy : Int32} {V : Nat → Nat × Int32 × Int32 × Int32} {σ σ' : aS} (h : RTh G t nt dy V σ) (hk : ∀ a, t ≤ a → a < t + 6 → σ'.2 a = σ.2 a) : RTh G t nt dy V σ' := by
  obtain ⟨sd, fs, fh, fl, fr, ft, h1, h2⟩ := h
  exact ⟨sd, fs, fh, fl, fr, ft, h1.kept hk, h2⟩
theorem RTh.fr {G : aG} {t nt lo hi : Nat} {dy : Int32} {V : Nat → Nat × Int32 × Int32 × Int32} {σ σ' : aS} (h : RTh G t nt dy V σ) (hf : Fr lo hi σ σ') (h2 : hi ≤ t ∨ t + 6 ≤ lo) : RTh G t nt dy V σ' := h.kept fun a _ _ => hf.2 a (by omega)
theorem RTy.kept {G : aG} {t nt sd : Nat} {dy : Int32} {V : Nat → Nat × Int32 × Int32 × Int32} {Y : Nat → Nat} {σ σ' : aS} (h : RTy G t nt dy V Y sd σ) (hk : ∀ a, t ≤ a → a < t + 6 → σ'.2 a = σ.2 a) : RTy G t nt dy V Y sd σ' := by
  obtain ⟨fs, fh, fl, fr, ft, h1, h2⟩ := h
  exact ⟨fs, fh, fl, fr, ft, h1.kept hk, h2⟩
def okV (nb nt : Nat) (V : Nat → Nat × Int32 × Int32 × Int32) : Prop := ∀ i, i < nt → (V i).1 < 512 ∧ ((V i).2.1 = -1 ∨ ∃ b, b < nb ∧ (V i).2.1 = nI b)
def inN (n : Nat) (x : Int32) : Bool := decide (0 ≤ x ∧ x < nI n)
theorem inN_t {n : Nat} {x : Int32} (hn : n < 2 ^ 31) (h : inN n x = true) : ∃ i, i < n ∧ x = nI i := by
  obtain ⟨h1, h2⟩ := of_decide_eq_true h
  obtain ⟨s, hs, rfl⟩ := nI_of (i_nlt.mpr h1)
  exact ⟨s, (nI_ltI hs hn).mp h2, rfl⟩
theorem inN_nI {n i : Nat} (hn : n < 2 ^ 31) (h : i < n) : inN n (nI i) = true := decide_eq_true ⟨nI_pos' (by omega), nI_lt h hn⟩
theorem nI_ne1 {i : Nat} (h : i < 2 ^ 31) : ¬ nI i = -1 := by
  intro q
  have := congrArg Int32.toInt q
  rw [nI_toInt h] at this
  have e : (-1 : Int32).toInt = -1 := by decide
  omega
def homeV (B : Nat → Nat × Nat × Nat × Nat) (v : Nat × Int32 × Int32 × Int32) : Nat := if v.2.1 = -1 then v.1 else mkB B v.2.1.toNatClampNeg v.1
theorem homeV_lt {nb nt : Nat} {B : Nat → Nat × Nat × Nat × Nat} {V : Nat → Nat × Int32 × Int32 × Int32} (hb : okB nb B) (hn : nb ≤ 6) (hv : okV nb nt V) {i : Nat} (hi : i < nt) : homeV B (V i) < 512 := by
  obtain ⟨h1, h2⟩ := hv i hi
  unfold homeV
  split
  · exact h1
  · rename_i q
    rcases h2 with h2 | ⟨b, h3, h4⟩
    · exact absurd h2 q
    · rw [h4, nI_clamp (by omega)]
      exact mkB_lt hb h3 h1
def hfind (V : Nat → Nat × Int32 × Int32 × Int32) (x : Int32) : Nat → Nat → Int32
  | 0, _ => -1
  | n + 1, i => if (V i).2.1 = x then nI i else hfind V x n (i + 1)
def heldBy (V : Nat → Nat × Int32 × Int32 × Int32) (nt : Nat) (x : Int32) : Int32 := hfind V x nt 0
theorem hfind_or (V : Nat → Nat × Int32 × Int32 × Int32) (x : Int32) : ∀ n i, hfind V x n i = -1 ∨ ∃ j, i ≤ j ∧ j < i + n ∧ hfind V x n i = nI j ∧ (V j).2.1 = x
  | 0, _ => .inl rfl
  | n + 1, i => by
    rw [hfind]
    split
    · rename_i h
      exact .inr ⟨i, Nat.le_refl _, by omega, rfl, h⟩
    · rcases hfind_or V x n (i + 1) with h | ⟨j, h1, h2, h3, h4⟩
      · exact .inl h
      · exact .inr ⟨j, by omega, by omega, h3, h4⟩
def leftAt (V : Nat → Nat × Int32 × Int32 × Int32) (nt : Nat) (x : Int32) : Int32 := if heldBy V nt x = -1 then 0 else (V (heldBy V nt x).toNatClampNeg).2.2.1
/-- one thing, a day on; whether it comes back -/
def stepV (B : Nat → Nat × Nat × Nat × Nat) (v : Nat × Int32 × Int32 × Int32) : Nat × Int32 × Int32 × Int32 := if v.2.1 = -1 then v else if v.2.2.1 - 1 = 0 then (homeV B v, -1, v.2.2.1 - 1, v.2.2.2 + 1) else (v.1, v.2.1, v.2.2.1 - 1, v.2.2.2)
def backV (v : Nat × Int32 × Int32 × Int32) : Bool := decide (¬ v.2.1 = -1 ∧ v.2.2.1 - 1 = 0)
def cntN (f : Nat → Bool) : Nat → Nat
  | 0 => 0
  | n + 1 => cntN f n + (if f n = true then 1 else 0)
def sumN (f : Nat → Nat) : Nat → Nat
  | 0 => 0
  | n + 1 => sumN f n + f n
set_option maxRecDepth 100000 in
set_option maxHeartbeats 1000000 in
theorem ct_has (l : Launch) (G : aG) {t nt : Nat} {dy : Int32} {V : Nat → Nat × Int32 × Int32 × Int32} {σ : aS} (hT : RTh G t nt dy V σ) {x : Int32} : ACt l G yX7_has cX7_has 2 (some (.boolean)) 0 0 0 [.ref t, .int x] σ (dP (some (.int (bI (inN nt x)))) σ) := by
  obtain ⟨sd, fs, fh, fl, fr, ft, ⟨a0, a1, a2, a3, a4, a5⟩, hnt, hv⟩ := id hT
  refine ACt.intro (own := RX7) (nm := "has") mk_X7_has rfl rfl [some (.ref t), some (.int x)] rfl (Nat.le_of_ble_eq_true rfl) (fun X hX hR => ?_)
  refine A_iload_n (pc := 0) rfl hX dX7_has_0 ?_
  refine A_if_lt (pc := 1) 16 hX dX7_has_1 rfl (fun c1 => ?_) (fun c1 => ?_)
  · refine A_iconst (pc := 16) (v := (nI 0)) (by decide) hX dX7_has_16 ?_
    refine A_iret (pc := 17) hX hR dX7_has_17 rfl rfl ?_
    exact bl_f (decide_eq_false fun q => i_nlt.mpr q.1 c1)
  · refine A_iload_n (pc := 4) rfl hX dX7_has_4 ?_
    refine A_aload_n (pc := 5) rfl hX dX7_has_5 ?_
    refine A_getf (pc := 6) hX fl_X7_27_7 dX7_has_6 (by repeat (first | assumption | exact aSet_s | exact aNew_s | refine lk_n ?_ (by omega) | refine lk_f (by assumption) ?_ (by omega) | refine lk_w ?_ (by omega))) (by exact rfl) ?_
    refine A_icmp_ge (pc := 9) 16 hX dX7_has_9 rfl (fun c9 => ?_) (fun c9 => ?_)
    · refine A_iconst (pc := 16) (v := (nI 0)) (by decide) hX dX7_has_16 ?_
      refine A_iret (pc := 17) hX hR dX7_has_17 rfl rfl ?_
      exact bl_f (decide_eq_false fun q => i_nle.mpr q.2 c9)
    · refine A_iconst (pc := 12) (v := (nI 1)) (by decide) hX dX7_has_12 ?_
      refine A_goto (pc := 13) 17 hX dX7_has_13 rfl ?_
      refine A_iret (pc := 17) hX hR dX7_has_17 rfl rfl ?_
      exact bl_t (decide_eq_true ⟨i_nlt.mp c1, i_nle.mp c9⟩)
set_option maxRecDepth 100000 in
set_option maxHeartbeats 1000000 in
theorem ct_stateOf (l : Launch) (G : aG) {t nt : Nat} {dy : Int32} {V : Nat → Nat × Int32 × Int32 × Int32} {σ : aS} (hT : RTh G t nt dy V σ) {i : Nat} (hi : i < nt) : ACt l G yX7_stateOf cX7_stateOf 2 (some .int) 1 0 0 [.ref t, .int (nI i)] σ (dP (some (.int (nI (V i).1))) σ) := by
  obtain ⟨sd, fs, fh, fl, fr, ft, ⟨a0, a1, a2, a3, a4, a5⟩, hnt, hv⟩ := id hT
  refine ACt.intro (own := RX7) (nm := "stateOf") mk_X7_stateOf rfl rfl [some (.ref t), some (.int (nI i))] rfl (Nat.le_of_ble_eq_true rfl) (fun X hX hR => ?_)
  refine A_aload_n (pc := 0) rfl hX dX7_stateOf_0 ?_
  refine A_getf (pc := 1) hX fl_X7_9_7 dX7_stateOf_1 (by repeat (first | assumption | exact aSet_s | exact aNew_s | refine lk_n ?_ (by omega) | refine lk_f (by assumption) ?_ (by omega) | refine lk_w ?_ (by omega))) (by exact rfl) ?_
  refine A_iload_n (pc := 4) rfl hX dX7_stateOf_4 ?_
  refine A_S2d (pc := 5) hX mk_X11_at ls_X7_34 dX7_stateOf_5 (ct_at l G (by repeat (first | assumption | exact aSet_s | exact aNew_s | refine lk_n ?_ (by omega) | refine lk_f (by assumption) ?_ (by omega) | refine lk_w ?_ (by omega))) (by decide)) rfl (Nat.le_of_ble_eq_true rfl) (Nat.le_of_ble_eq_true rfl) (Nat.le_of_ble_eq_true rfl) (Nat.le_of_ble_eq_true rfl) (Nat.le_of_ble_eq_true rfl) ?_
  refine A_iret (pc := 8) hX hR dX7_stateOf_8 rfl rfl ?_
  exact ⟨by rw [atS_nI (by omega) (by decide), (hv i hi).1], rfl⟩
set_option maxRecDepth 100000 in
set_option maxHeartbeats 1000000 in
theorem ct_holderOf (l : Launch) (G : aG) {t nt : Nat} {dy : Int32} {V : Nat → Nat × Int32 × Int32 × Int32} {σ : aS} (hT : RTh G t nt dy V σ) {i : Nat} (hi : i < nt) : ACt l G yX7_holderOf cX7_holderOf 2 (some .int) 1 0 0 [.ref t, .int (nI i)] σ (dP (some (.int ((V i).2.1))) σ) := by
  obtain ⟨sd, fs, fh, fl, fr, ft, ⟨a0, a1, a2, a3, a4, a5⟩, hnt, hv⟩ := id hT
  refine ACt.intro (own := RX7) (nm := "holderOf") mk_X7_holderOf rfl rfl [some (.ref t), some (.int (nI i))] rfl (Nat.le_of_ble_eq_true rfl) (fun X hX hR => ?_)
  refine A_aload_n (pc := 0) rfl hX dX7_holderOf_0 ?_
  refine A_getf (pc := 1) hX fl_X7_15_7 dX7_holderOf_1 (by repeat (first | assumption | exact aSet_s | exact aNew_s | refine lk_n ?_ (by omega) | refine lk_f (by assumption) ?_ (by omega) | refine lk_w ?_ (by omega))) (by exact rfl) ?_
  refine A_iload_n (pc := 4) rfl hX dX7_holderOf_4 ?_
  refine A_S2d (pc := 5) hX mk_X11_at ls_X7_34 dX7_holderOf_5 (ct_at l G (by repeat (first | assumption | exact aSet_s | exact aNew_s | refine lk_n ?_ (by omega) | refine lk_f (by assumption) ?_ (by omega) | refine lk_w ?_ (by omega))) (by decide)) rfl (Nat.le_of_ble_eq_true rfl) (Nat.le_of_ble_eq_true rfl) (Nat.le_of_ble_eq_true rfl) (Nat.le_of_ble_eq_true rfl) (Nat.le_of_ble_eq_true rfl) ?_
  refine A_iret (pc := 8) hX hR dX7_holderOf_8 rfl rfl ?_
  exact ⟨by rw [atS_nI (by omega) (by decide), (hv i hi).2.1], rfl⟩
set_option maxRecDepth 100000 in
set_option maxHeartbeats 1000000 in
theorem ct_returnsOf (l : Launch) (G : aG) {t nt : Nat} {dy : Int32} {V : Nat → Nat × Int32 × Int32 × Int32} {σ : aS} (hT : RTh G t nt dy V σ) {i : Nat} (hi : i < nt) : ACt l G yX7_returnsOf cX7_returnsOf 2 (some .int) 1 0 0 [.ref t, .int (nI i)] σ (dP (some (.int ((V i).2.2.2))) σ) := by
  obtain ⟨sd, fs, fh, fl, fr, ft, ⟨a0, a1, a2, a3, a4, a5⟩, hnt, hv⟩ := id hT
  refine ACt.intro (own := RX7) (nm := "returnsOf") mk_X7_returnsOf rfl rfl [some (.ref t), some (.int (nI i))] rfl (Nat.le_of_ble_eq_true rfl) (fun X hX hR => ?_)
  refine A_aload_n (pc := 0) rfl hX dX7_returnsOf_0 ?_
  refine A_getf (pc := 1) hX fl_X7_21_7 dX7_returnsOf_1 (by repeat (first | assumption | exact aSet_s | exact aNew_s | refine lk_n ?_ (by omega) | refine lk_f (by assumption) ?_ (by omega) | refine lk_w ?_ (by omega))) (by exact rfl) ?_
  refine A_iload_n (pc := 4) rfl hX dX7_returnsOf_4 ?_
  refine A_S2d (pc := 5) hX mk_X11_at ls_X7_34 dX7_returnsOf_5 (ct_at l G (by repeat (first | assumption | exact aSet_s | exact aNew_s | refine lk_n ?_ (by omega) | refine lk_f (by assumption) ?_ (by omega) | refine lk_w ?_ (by omega))) (by decide)) rfl (Nat.le_of_ble_eq_true rfl) (Nat.le_of_ble_eq_true rfl) (Nat.le_of_ble_eq_true rfl) (Nat.le_of_ble_eq_true rfl) (Nat.le_of_ble_eq_true rfl) ?_
  refine A_iret (pc := 8) hX hR dX7_returnsOf_8 rfl rfl ?_
  exact ⟨by rw [atS_nI (by omega) (by decide), (hv i hi).2.2.2], rfl⟩
set_option maxRecDepth 100000 in
set_option maxHeartbeats 1000000 in
theorem ct_isLent (l : Launch) (G : aG) {t nt : Nat} {dy : Int32} {V : Nat → Nat × Int32 × Int32 × Int32} {σ : aS} (hT : RTh G t nt dy V σ) {i : Nat} (hi : i < nt) : ACt l G yX7_isLent cX7_isLent 2 (some (.boolean)) 1 0 0 [.ref t, .int (nI i)] σ (dP (some (.int (bI (decide (¬ (V i).2.1 = -1))))) σ) := by
  obtain ⟨sd, fs, fh, fl, fr, ft, ⟨a0, a1, a2, a3, a4, a5⟩, hnt, hv⟩ := id hT
  refine ACt.intro (own := RX7) (nm := "isLent") mk_X7_isLent rfl rfl [some (.ref t), some (.int (nI i))] rfl (Nat.le_of_ble_eq_true rfl) (fun X hX hR => ?_)
  refine A_aload_n (pc := 0) rfl hX dX7_isLent_0 ?_
  refine A_getf (pc := 1) hX fl_X7_15_7 dX7_isLent_1 (by repeat (first | assumption | exact aSet_s | exact aNew_s | refine lk_n ?_ (by omega) | refine lk_f (by assumption) ?_ (by omega) | refine lk_w ?_ (by omega))) (by exact rfl) ?_
  refine A_iload_n (pc := 4) rfl hX dX7_isLent_4 ?_
  refine A_S2d (pc := 5) hX mk_X11_at ls_X7_34 dX7_isLent_5 (ct_at l G (by repeat (first | assumption | exact aSet_s | exact aNew_s | refine lk_n ?_ (by omega) | refine lk_f (by assumption) ?_ (by omega) | refine lk_w ?_ (by omega))) (by decide)) rfl (Nat.le_of_ble_eq_true rfl) (Nat.le_of_ble_eq_true rfl) (Nat.le_of_ble_eq_true rfl) (Nat.le_of_ble_eq_true rfl) (Nat.le_of_ble_eq_true rfl) ?_
  refine A_top (y := (V i).2.1) (by rw [atS_nI (by omega) (by decide), (hv i hi).2.1]) ?_
  refine A_iconst (pc := 8) (v := (-1)) (by decide) hX dX7_isLent_8 ?_
  refine A_icmp_eq (pc := 9) 16 hX dX7_isLent_9 rfl (fun c9 => ?_) (fun c9 => ?_)
  · refine A_iconst (pc := 16) (v := (nI 0)) (by decide) hX dX7_isLent_16 ?_
    refine A_iret (pc := 17) hX hR dX7_isLent_17 rfl rfl ?_
    exact bl_f (decide_eq_false fun q => q c9)
  · refine A_iconst (pc := 12) (v := (nI 1)) (by decide) hX dX7_isLent_12 ?_
    refine A_goto (pc := 13) 17 hX dX7_isLent_13 rfl ?_
    refine A_iret (pc := 17) hX hR dX7_isLent_17 rfl rfl ?_
    exact bl_t (decide_eq_true c9)
set_option maxRecDepth 100000 in
set_option maxHeartbeats 1000000 in
theorem ct_stateAtHome (l : Launch) (G : aG) {w tp nb : Nat} {B : Nat → Nat × Nat × Nat × Nat} {t nt : Nat} {dy : Int32} {V : Nat → Nat × Int32 × Int32 × Int32} {σ : aS} (hT : RTh G t nt dy V σ) (hw : RTw G w tp nb B σ) (hV : okV nb nt V) {i : Nat} (hi : i < nt) : ACt l G yX7_stateAtHome cX7_stateAtHome 4 (some .int) 2 0 0 [.ref t, .int (nI i), .ref w] σ (dP (some (.int (nI (homeV B (V i))))) σ) := by
  obtain ⟨sd, fs, fh, fl, fr, ft, ⟨a0, a1, a2, a3, a4, a5⟩, hnt, hv⟩ := id hT
  obtain ⟨hwt, hnb, hok, bor, fa, fo, fn, e0, e1, e2, e3, e4, e5, e6⟩ := id hw
  refine ACt.intro (own := RX7) (nm := "stateAtHome") mk_X7_stateAtHome rfl rfl [some (.ref t), some (.int (nI i)), some (.ref w), none] rfl (Nat.le_of_ble_eq_true rfl) (fun X hX hR => ?_)
  refine A_aload_n (pc := 0) rfl hX dX7_stateAtHome_0 ?_
  refine A_getf (pc := 1) hX fl_X7_9_7 dX7_stateAtHome_1 (by repeat (first | assumption | exact aSet_s | exact aNew_s | refine lk_n ?_ (by omega) | refine lk_f (by assumption) ?_ (by omega) | refine lk_w ?_ (by omega))) (by exact rfl) ?_
  refine A_iload_n (pc := 4) rfl hX dX7_stateAtHome_4 ?_
  refine A_S2d (pc := 5) hX mk_X11_at ls_X7_34 dX7_stateAtHome_5 (ct_at l G (by repeat (first | assumption | exact aSet_s | exact aNew_s | refine lk_n ?_ (by omega) | refine lk_f (by assumption) ?_ (by omega) | refine lk_w ?_ (by omega))) (by decide)) rfl (Nat.le_of_ble_eq_true rfl) (Nat.le_of_ble_eq_true rfl) (Nat.le_of_ble_eq_true rfl) (Nat.le_of_ble_eq_true rfl) (Nat.le_of_ble_eq_true rfl) ?_
  refine A_top (y := nI (V i).1) (by rw [atS_nI (by omega) (by decide), (hv i hi).1]) ?_
  refine A_istore_n (pc := 8) (lv' := [_, _, _, _]) hX dX7_stateAtHome_8 (Nat.le_of_ble_eq_true rfl) rfl rfl ?_
  refine A_aload_n (pc := 9) rfl hX dX7_stateAtHome_9 ?_
  refine A_iload_n (pc := 10) rfl hX dX7_stateAtHome_10 ?_
  refine A_V1d (pc := 11) hX mk_X7_isLent lv_X7_42 dX7_stateAtHome_11 (by repeat (first | assumption | exact aSet_s | exact aNew_s | refine lk_n ?_ (by omega) | refine lk_f (by assumption) ?_ (by omega) | refine lk_w ?_ (by omega))) (ct_isLent l G hT hi) rfl (Nat.le_of_ble_eq_true rfl) (Nat.le_of_ble_eq_true rfl) (Nat.le_of_ble_eq_true rfl) (Nat.le_of_ble_eq_true rfl) (Nat.le_of_ble_eq_true rfl) ?_
  refine A_if_eq (pc := 14) 33 hX dX7_stateAtHome_14 rfl (fun c14 => ?_) (fun c14 => ?_)
  · refine A_iload_n (pc := 33) rfl hX dX7_stateAtHome_33 ?_
    refine A_iret (pc := 34) hX hR dX7_stateAtHome_34 rfl rfl ?_
    have hl : (V i).2.1 = -1 := by
      have := of_decide_eq_false (bI_eq c14)
      exact Decidable.byContradiction this
    exact ⟨by rw [homeV, if_pos hl], rfl⟩
  · have hl := of_decide_eq_true (bI_ne c14)
    obtain ⟨b, hb, hbe⟩ := (hV i hi).2.resolve_left hl
    refine A_aload_n (pc := 17) rfl hX dX7_stateAtHome_17 ?_
    refine A_aload_n (pc := 18) rfl hX dX7_stateAtHome_18 ?_
    refine A_getf (pc := 19) hX fl_X7_15_7 dX7_stateAtHome_19 (by repeat (first | assumption | exact aSet_s | exact aNew_s | refine lk_n ?_ (by omega) | refine lk_f (by assumption) ?_ (by omega) | refine lk_w ?_ (by omega))) (by exact rfl) ?_
    refine A_iload_n (pc := 22) rfl hX dX7_stateAtHome_22 ?_
    refine A_S2d (pc := 23) hX mk_X11_at ls_X7_34 dX7_stateAtHome_23 (ct_at l G (by repeat (first | assumption | exact aSet_s | exact aNew_s | refine lk_n ?_ (by omega) | refine lk_f (by assumption) ?_ (by omega) | refine lk_w ?_ (by omega))) (by decide)) rfl (Nat.le_of_ble_eq_true rfl) (Nat.le_of_ble_eq_true rfl) (Nat.le_of_ble_eq_true rfl) (Nat.le_of_ble_eq_true rfl) (Nat.le_of_ble_eq_true rfl) ?_
    refine A_top (y := nI b) (by rw [atS_nI (by omega) (by decide), (hv i hi).2.1, hbe]) ?_
    refine A_iload_n (pc := 26) rfl hX dX7_stateAtHome_26 ?_
    refine A_V2d (pc := 27) hX mk_X8_after lv_X7_46 dX7_stateAtHome_27 (by repeat (first | assumption | exact aSet_s | exact aNew_s | refine lk_n ?_ (by omega) | refine lk_f (by assumption) ?_ (by omega) | refine lk_w ?_ (by omega))) (ct_after l G hw hb (hV i hi).1) rfl (Nat.le_of_ble_eq_true rfl) (Nat.le_of_ble_eq_true rfl) (Nat.le_of_ble_eq_true rfl) (Nat.le_of_ble_eq_true rfl) (Nat.le_of_ble_eq_true rfl) ?_
    refine A_goto (pc := 30) 34 hX dX7_stateAtHome_30 rfl ?_
    refine A_iret (pc := 34) hX hR dX7_stateAtHome_34 rfl rfl ?_
    exact ⟨by rw [homeV, if_neg hl, hbe, nI_clamp (by omega)], rfl⟩
set_option maxRecDepth 100000 in
set_option maxHeartbeats 1000000 in
theorem ct_Th_empty (l : Launch) (G : aG) {t nt : Nat} {dy : Int32} {V : Nat → Nat × Int32 × Int32 × Int32} {σ : aS} (hT : RTh G t nt dy V σ) : ACt l G yX7_empty cX7_empty 1 (none) 0 0 0 [.ref t] σ (vP (fun σ' => RTh G t (0) (0) (V) σ' ∧ Fr t (t + 6) σ σ')) := by
  obtain ⟨sd, fs, fh, fl, fr, ft, ⟨a0, a1, a2, a3, a4, a5⟩, hnt, hv⟩ := id hT
  refine ACt.intro (own := RX7) (nm := "empty") mk_X7_empty rfl rfl [some (.ref t)] rfl (Nat.le_of_ble_eq_true rfl) (fun X hX hR => ?_)
  refine A_aload_n (pc := 0) rfl hX dX7_empty_0 ?_
  refine A_iconst (pc := 1) (v := (nI 0)) (by decide) hX dX7_empty_1 ?_
  refine A_putf (pc := 2) (fs' := [_, _, _, _, _, _, _, _]) hX pl_X7_27_7 dX7_empty_2 (by repeat (first | assumption | exact aSet_s | exact aNew_s | refine lk_n ?_ (by omega) | refine lk_f (by assumption) ?_ (by omega) | refine lk_w ?_ (by omega))) (by exact Nat.le_of_ble_eq_true rfl) (by exact rfl) rfl rfl ?_
  refine A_aload_n (pc := 5) rfl hX dX7_empty_5 ?_
  refine A_iconst (pc := 6) (v := (nI 0)) (by decide) hX dX7_empty_6 ?_
  refine A_putf (pc := 7) (fs' := [_, _, _, _, _, _, _, _]) hX pl_X7_31_7 dX7_empty_7 (by repeat (first | assumption | exact aSet_s | exact aNew_s | refine lk_n ?_ (by omega) | refine lk_f (by assumption) ?_ (by omega) | refine lk_w ?_ (by omega))) (by exact Nat.le_of_ble_eq_true rfl) (by exact rfl) rfl rfl ?_
  refine A_ret (pc := 10) hX hR dX7_empty_10 ?_
  exact ⟨rfl, ⟨_, _, _, _, _, _, ⟨aSet_s, (by repeat (first | assumption | exact aSet_s | exact aNew_s | refine lk_n ?_ (by omega) | refine lk_f (by assumption) ?_ (by omega) | refine lk_w ?_ (by omega))), (by repeat (first | assumption | exact aSet_s | exact aNew_s | refine lk_n ?_ (by omega) | refine lk_f (by assumption) ?_ (by omega) | refine lk_w ?_ (by omega))), (by repeat (first | assumption | exact aSet_s | exact aNew_s | refine lk_n ?_ (by omega) | refine lk_f (by assumption) ?_ (by omega) | refine lk_w ?_ (by omega))), (by repeat (first | assumption | exact aSet_s | exact aNew_s | refine lk_n ?_ (by omega) | refine lk_f (by assumption) ?_ (by omega) | refine lk_w ?_ (by omega))), (by repeat (first | assumption | exact aSet_s | exact aNew_s | refine lk_n ?_ (by omega) | refine lk_f (by assumption) ?_ (by omega) | refine lk_w ?_ (by omega)))⟩, by omega, fun i hi => absurd hi (by omega)⟩, (by repeat (first | exact Fr.rf | refine Fr.set ?_ (by omega) (by omega) | refine Fr.tr ?_ (Fr.wd (by assumption) (by omega) (by omega))))⟩
set_option maxRecDepth 100000 in
set_option maxHeartbeats 1000000 in
theorem ct_Th_add (l : Launch) (G : aG) {t nt : Nat} {dy : Int32} {V : Nat → Nat × Int32 × Int32 × Int32} {σ : aS} (hT : RTh G t nt dy V σ) {s : Nat} (hs : s < 512) (hn : nt < 4) : ACt l G yX7_add cX7_add 3 (some .int) 1 0 0 [.ref t, .int (nI s)] σ (iP (fun x σ' => x = nI nt ∧ RTh G t (nt + 1) (dy) (fun i => if i = nt then (s, -1, 0, 0) else V i) σ' ∧ Fr t (t + 6) σ σ')) := by
  obtain ⟨sd, fs, fh, fl, fr, ft, ⟨a0, a1, a2, a3, a4, a5⟩, hnt, hv⟩ := id hT
  refine ACt.intro (own := RX7) (nm := "add") mk_X7_add rfl rfl [some (.ref t), some (.int (nI s)), none] rfl (Nat.le_of_ble_eq_true rfl) (fun X hX hR => ?_)
  refine A_aload_n (pc := 0) rfl hX dX7_add_0 ?_
  refine A_getf (pc := 1) hX fl_X7_27_7 dX7_add_1 (by repeat (first | assumption | exact aSet_s | exact aNew_s | refine lk_n ?_ (by omega) | refine lk_f (by assumption) ?_ (by omega) | refine lk_w ?_ (by omega))) (by exact rfl) ?_
  refine A_istore_n (pc := 4) (lv' := [_, _, _]) hX dX7_add_4 (Nat.le_of_ble_eq_true rfl) rfl rfl ?_
  refine A_aload_n (pc := 5) rfl hX dX7_add_5 ?_
  refine A_getf (pc := 6) hX fl_X7_9_7 dX7_add_6 (by repeat (first | assumption | exact aSet_s | exact aNew_s | refine lk_n ?_ (by omega) | refine lk_f (by assumption) ?_ (by omega) | refine lk_w ?_ (by omega))) (by exact rfl) ?_
  refine A_iload_n (pc := 9) rfl hX dX7_add_9 ?_
  refine A_iload_n (pc := 10) rfl hX dX7_add_10 ?_
  refine A_S3v (pc := 11) hX mk_X11_put ls_X7_38 dX7_add_11 (ct_put l G (by repeat (first | assumption | exact aSet_s | exact aNew_s | refine lk_n ?_ (by omega) | refine lk_f (by assumption) ?_ (by omega) | refine lk_w ?_ (by omega))) (by decide)) rfl (Nat.le_of_ble_eq_true rfl) (Nat.le_of_ble_eq_true rfl) (Nat.le_of_ble_eq_true rfl) (Nat.le_of_ble_eq_true rfl) (Nat.le_of_ble_eq_true rfl) (fun σ11 h11 => ?_)
  obtain ⟨h11, hf11⟩ := h11
  refine A_aload_n (pc := 14) rfl hX dX7_add_14 ?_
  refine A_getf (pc := 15) hX fl_X7_15_7 dX7_add_15 (by repeat (first | assumption | exact aSet_s | exact aNew_s | refine lk_n ?_ (by omega) | refine lk_f (by assumption) ?_ (by omega) | refine lk_w ?_ (by omega))) (by exact rfl) ?_
  refine A_iload_n (pc := 18) rfl hX dX7_add_18 ?_
  refine A_iconst (pc := 19) (v := (-1)) (by decide) hX dX7_add_19 ?_
  refine A_S3v (pc := 20) hX mk_X11_put ls_X7_38 dX7_add_20 (ct_put l G (by repeat (first | assumption | exact aSet_s | exact aNew_s | refine lk_n ?_ (by omega) | refine lk_f (by assumption) ?_ (by omega) | refine lk_w ?_ (by omega))) (by decide)) rfl (Nat.le_of_ble_eq_true rfl) (Nat.le_of_ble_eq_true rfl) (Nat.le_of_ble_eq_true rfl) (Nat.le_of_ble_eq_true rfl) (Nat.le_of_ble_eq_true rfl) (fun σ20 h20 => ?_)
  obtain ⟨h20, hf20⟩ := h20
  refine A_aload_n (pc := 23) rfl hX dX7_add_23 ?_
  refine A_getf (pc := 24) hX fl_X7_18_7 dX7_add_24 (by repeat (first | assumption | exact aSet_s | exact aNew_s | refine lk_n ?_ (by omega) | refine lk_f (by assumption) ?_ (by omega) | refine lk_w ?_ (by omega))) (by exact rfl) ?_
  refine A_iload_n (pc := 27) rfl hX dX7_add_27 ?_
  refine A_iconst (pc := 28) (v := (nI 0)) (by decide) hX dX7_add_28 ?_
  refine A_S3v (pc := 29) hX mk_X11_put ls_X7_38 dX7_add_29 (ct_put l G (by repeat (first | assumption | exact aSet_s | exact aNew_s | refine lk_n ?_ (by omega) | refine lk_f (by assumption) ?_ (by omega) | refine lk_w ?_ (by omega))) (by decide)) rfl (Nat.le_of_ble_eq_true rfl) (Nat.le_of_ble_eq_true rfl) (Nat.le_of_ble_eq_true rfl) (Nat.le_of_ble_eq_true rfl) (Nat.le_of_ble_eq_true rfl) (fun σ29 h29 => ?_)
  obtain ⟨h29, hf29⟩ := h29
  refine A_aload_n (pc := 32) rfl hX dX7_add_32 ?_
  refine A_getf (pc := 33) hX fl_X7_21_7 dX7_add_33 (by repeat (first | assumption | exact aSet_s | exact aNew_s | refine lk_n ?_ (by omega) | refine lk_f (by assumption) ?_ (by omega) | refine lk_w ?_ (by omega))) (by exact rfl) ?_
  refine A_iload_n (pc := 36) rfl hX dX7_add_36 ?_
  refine A_iconst (pc := 37) (v := (nI 0)) (by decide) hX dX7_add_37 ?_
  refine A_S3v (pc := 38) hX mk_X11_put ls_X7_38 dX7_add_38 (ct_put l G (by repeat (first | assumption | exact aSet_s | exact aNew_s | refine lk_n ?_ (by omega) | refine lk_f (by assumption) ?_ (by omega) | refine lk_w ?_ (by omega))) (by decide)) rfl (Nat.le_of_ble_eq_true rfl) (Nat.le_of_ble_eq_true rfl) (Nat.le_of_ble_eq_true rfl) (Nat.le_of_ble_eq_true rfl) (Nat.le_of_ble_eq_true rfl) (fun σ38 h38 => ?_)
  obtain ⟨h38, hf38⟩ := h38
  refine A_aload_n (pc := 41) rfl hX dX7_add_41 ?_
  refine A_dup (pc := 42) rfl hX dX7_add_42 ?_
  refine A_getf (pc := 43) hX fl_X7_27_7 dX7_add_43 (by repeat (first | assumption | exact aSet_s | exact aNew_s | refine lk_n ?_ (by omega) | refine lk_f (by assumption) ?_ (by omega) | refine lk_w ?_ (by omega))) (by exact rfl) ?_
  refine A_iconst (pc := 46) (v := (nI 1)) (by decide) hX dX7_add_46 ?_
  refine A_iadd (pc := 47) hX dX7_add_47 ?_
  refine A_top (y := nI (nt + 1)) (nI_succ nt).symm ?_
  refine A_putf (pc := 48) (fs' := [_, _, _, _, _, _, _, _]) hX pl_X7_27_7 dX7_add_48 (by repeat (first | assumption | exact aSet_s | exact aNew_s | refine lk_n ?_ (by omega) | refine lk_f (by assumption) ?_ (by omega) | refine lk_w ?_ (by omega))) (by exact Nat.le_of_ble_eq_true rfl) (by exact rfl) rfl rfl ?_
  refine A_iload_n (pc := 51) rfl hX dX7_add_51 ?_
  refine A_iret (pc := 52) hX hR dX7_add_52 rfl rfl ?_
  refine ⟨_, rfl, rfl, ⟨_, _, _, _, _, _, ⟨aSet_s, (by repeat (first | assumption | exact aSet_s | exact aNew_s | refine lk_n ?_ (by omega) | refine lk_f (by assumption) ?_ (by omega) | refine lk_w ?_ (by omega))), (by repeat (first | assumption | exact aSet_s | exact aNew_s | refine lk_n ?_ (by omega) | refine lk_f (by assumption) ?_ (by omega) | refine lk_w ?_ (by omega))), (by repeat (first | assumption | exact aSet_s | exact aNew_s | refine lk_n ?_ (by omega) | refine lk_f (by assumption) ?_ (by omega) | refine lk_w ?_ (by omega))), (by repeat (first | assumption | exact aSet_s | exact aNew_s | refine lk_n ?_ (by omega) | refine lk_f (by assumption) ?_ (by omega) | refine lk_w ?_ (by omega))), (by repeat (first | assumption | exact aSet_s | exact aNew_s | refine lk_n ?_ (by omega) | refine lk_f (by assumption) ?_ (by omega) | refine lk_w ?_ (by omega)))⟩, by omega, fun i hi => ?_⟩, (by repeat (first | exact Fr.rf | refine Fr.set ?_ (by omega) (by omega) | refine Fr.tr ?_ (Fr.wd (by assumption) (by omega) (by omega))))⟩
  rw [putS_nI (by omega) (by decide), putS_nI (by omega) (by decide), putS_nI (by omega) (by decide), putS_nI (by omega) (by decide)]
  by_cases q : i = nt
  · subst q; simp [upd]; decide
  · simp only [upd, if_neg q]
    exact hv i (by omega)
set_option maxRecDepth 100000 in
set_option maxHeartbeats 1000000 in
theorem ct_Th_give (l : Launch) (G : aG) {t nt : Nat} {dy : Int32} {V : Nat → Nat × Int32 × Int32 × Int32} {σ : aS} (hT : RTh G t nt dy V σ) {i : Nat} {x y : Int32} (hi : i < nt) : ACt l G yX7_give cX7_give 4 (none) 1 0 0 [.ref t, .int (nI i), .int x, .int y] σ (vP (fun σ' => RTh G t (nt) (dy) (fun j => if j = i then ((V i).1, x, y, (V i).2.2.2) else V j) σ' ∧ Fr t (t + 6) σ σ')) := by
  obtain ⟨sd, fs, fh, fl, fr, ft, ⟨a0, a1, a2, a3, a4, a5⟩, hnt, hv⟩ := id hT
  refine ACt.intro (own := RX7) (nm := "give") mk_X7_give rfl rfl [some (.ref t), some (.int (nI i)), some (.int x), some (.int y)] rfl (Nat.le_of_ble_eq_true rfl) (fun X hX hR => ?_)
  refine A_aload_n (pc := 0) rfl hX dX7_give_0 ?_
  refine A_getf (pc := 1) hX fl_X7_15_7 dX7_give_1 (by repeat (first | assumption | exact aSet_s | exact aNew_s | refine lk_n ?_ (by omega) | refine lk_f (by assumption) ?_ (by omega) | refine lk_w ?_ (by omega))) (by exact rfl) ?_
  refine A_iload_n (pc := 4) rfl hX dX7_give_4 ?_
  refine A_iload_n (pc := 5) rfl hX dX7_give_5 ?_
  refine A_S3v (pc := 6) hX mk_X11_put ls_X7_38 dX7_give_6 (ct_put l G (by repeat (first | assumption | exact aSet_s | exact aNew_s | refine lk_n ?_ (by omega) | refine lk_f (by assumption) ?_ (by omega) | refine lk_w ?_ (by omega))) (by decide)) rfl (Nat.le_of_ble_eq_true rfl) (Nat.le_of_ble_eq_true rfl) (Nat.le_of_ble_eq_true rfl) (Nat.le_of_ble_eq_true rfl) (Nat.le_of_ble_eq_true rfl) (fun σ6 h6 => ?_)
  obtain ⟨h6, hf6⟩ := h6
  refine A_aload_n (pc := 9) rfl hX dX7_give_9 ?_
  refine A_getf (pc := 10) hX fl_X7_18_7 dX7_give_10 (by repeat (first | assumption | exact aSet_s | exact aNew_s | refine lk_n ?_ (by omega) | refine lk_f (by assumption) ?_ (by omega) | refine lk_w ?_ (by omega))) (by exact rfl) ?_
  refine A_iload_n (pc := 13) rfl hX dX7_give_13 ?_
  refine A_iload_n (pc := 14) rfl hX dX7_give_14 ?_
  refine A_S3v (pc := 15) hX mk_X11_put ls_X7_38 dX7_give_15 (ct_put l G (by repeat (first | assumption | exact aSet_s | exact aNew_s | refine lk_n ?_ (by omega) | refine lk_f (by assumption) ?_ (by omega) | refine lk_w ?_ (by omega))) (by decide)) rfl (Nat.le_of_ble_eq_true rfl) (Nat.le_of_ble_eq_true rfl) (Nat.le_of_ble_eq_true rfl) (Nat.le_of_ble_eq_true rfl) (Nat.le_of_ble_eq_true rfl) (fun σ15 h15 => ?_)
  obtain ⟨h15, hf15⟩ := h15
  refine A_ret (pc := 18) hX hR dX7_give_18 ?_
  refine ⟨rfl, ⟨_, _, _, _, _, _, ⟨(by repeat (first | assumption | exact aSet_s | exact aNew_s | refine lk_n ?_ (by omega) | refine lk_f (by assumption) ?_ (by omega) | refine lk_w ?_ (by omega))), (by repeat (first | assumption | exact aSet_s | exact aNew_s | refine lk_n ?_ (by omega) | refine lk_f (by assumption) ?_ (by omega) | refine lk_w ?_ (by omega))), (by repeat (first | assumption | exact aSet_s | exact aNew_s | refine lk_n ?_ (by omega) | refine lk_f (by assumption) ?_ (by omega) | refine lk_w ?_ (by omega))), (by repeat (first | assumption | exact aSet_s | exact aNew_s | refine lk_n ?_ (by omega) | refine lk_f (by assumption) ?_ (by omega) | refine lk_w ?_ (by omega))), (by repeat (first | assumption | exact aSet_s | exact aNew_s | refine lk_n ?_ (by omega) | refine lk_f (by assumption) ?_ (by omega) | refine lk_w ?_ (by omega))), (by repeat (first | assumption | exact aSet_s | exact aNew_s | refine lk_n ?_ (by omega) | refine lk_f (by assumption) ?_ (by omega) | refine lk_w ?_ (by omega)))⟩, hnt, fun j hj => ?_⟩, (by repeat (first | exact Fr.rf | refine Fr.set ?_ (by omega) (by omega) | refine Fr.tr ?_ (Fr.wd (by assumption) (by omega) (by omega))))⟩
  rw [putS_nI (by omega) (by decide), putS_nI (by omega) (by decide)]
  have h1 := hv j hj
  by_cases q : j = i
  · subst q; simp only [upd, if_pos]; exact ⟨h1.1, trivial, trivial, h1.2.2.2⟩
  · simp only [upd, if_neg q]; exact h1
set_option maxRecDepth 100000 in
set_option maxHeartbeats 1000000 in
theorem ct_numberHeldBy (l : Launch) (G : aG) {t nt : Nat} {dy : Int32} {V : Nat → Nat × Int32 × Int32 × Int32} {σ : aS} (hT : RTh G t nt dy V σ) {x : Int32} : ACt l G yX7_numberHeldBy cX7_numberHeldBy 3 (some .int) 1 0 0 [.ref t, .int x] σ (dP (some (.int (heldBy V nt x))) σ) := by
  obtain ⟨sd, fs, fh, fl, fr, ft, ⟨a0, a1, a2, a3, a4, a5⟩, hnt, hv⟩ := id hT
  refine ACt.intro (own := RX7) (nm := "numberHeldBy") mk_X7_numberHeldBy rfl rfl [some (.ref t), some (.int x), none] rfl (Nat.le_of_ble_eq_true rfl) (fun X hX hR => ?_)
  refine A_iconst (pc := 0) (v := (nI 0)) (by decide) hX dX7_numberHeldBy_0 ?_
  refine A_istore_n (pc := 1) (lv' := [_, _, _]) hX dX7_numberHeldBy_1 (Nat.le_of_ble_eq_true rfl) rfl rfl ?_
  suffices hl : ∀ (m i : Nat), i ≤ nt → nt - i = m → hfind V x m i = heldBy V nt x → AA G X 0 0 2 [some (.ref t), some (.int x), some (.int (nI i))] [] σ from hl nt 0 (Nat.zero_le _) (by omega) rfl
  intro m
  induction m with
  | zero =>
    intro i hi hm hf
    refine A_iload_n (pc := 2) rfl hX dX7_numberHeldBy_2 ?_
    refine A_aload_n (pc := 3) rfl hX dX7_numberHeldBy_3 ?_
    refine A_getf (pc := 4) hX fl_X7_27_7 dX7_numberHeldBy_4 (by repeat (first | assumption | exact aSet_s | exact aNew_s | refine lk_n ?_ (by omega) | refine lk_f (by assumption) ?_ (by omega) | refine lk_w ?_ (by omega))) (by exact rfl) ?_
    refine A_icmp_ge (pc := 7) 30 hX dX7_numberHeldBy_7 rfl (fun c7 => ?_) (fun c7 => ?_)
    · refine A_iconst (pc := 30) (v := (-1)) (by decide) hX dX7_numberHeldBy_30 ?_
      refine A_iret (pc := 31) hX hR dX7_numberHeldBy_31 rfl rfl ?_
      exact ⟨by rw [← hf]; rfl, rfl⟩
    · exact absurd (nI_le (by omega) (by omega)) c7
  | succ m ih =>
    intro i hi hm hf
    have hlt : i < nt := by omega
    rw [hfind] at hf
    refine A_iload_n (pc := 2) rfl hX dX7_numberHeldBy_2 ?_
    refine A_aload_n (pc := 3) rfl hX dX7_numberHeldBy_3 ?_
    refine A_getf (pc := 4) hX fl_X7_27_7 dX7_numberHeldBy_4 (by repeat (first | assumption | exact aSet_s | exact aNew_s | refine lk_n ?_ (by omega) | refine lk_f (by assumption) ?_ (by omega) | refine lk_w ?_ (by omega))) (by exact rfl) ?_
    refine A_icmp_ge (pc := 7) 30 hX dX7_numberHeldBy_7 rfl (fun c7 => ?_) (fun c7 => ?_)
    · exact absurd c7 (nI_ge hlt (by omega))
    · refine A_aload_n (pc := 10) rfl hX dX7_numberHeldBy_10 ?_
      refine A_getf (pc := 11) hX fl_X7_15_7 dX7_numberHeldBy_11 (by repeat (first | assumption | exact aSet_s | exact aNew_s | refine lk_n ?_ (by omega) | refine lk_f (by assumption) ?_ (by omega) | refine lk_w ?_ (by omega))) (by exact rfl) ?_
      refine A_iload_n (pc := 14) rfl hX dX7_numberHeldBy_14 ?_
      refine A_S2d (pc := 15) hX mk_X11_at ls_X7_34 dX7_numberHeldBy_15 (ct_at l G (by repeat (first | assumption | exact aSet_s | exact aNew_s | refine lk_n ?_ (by omega) | refine lk_f (by assumption) ?_ (by omega) | refine lk_w ?_ (by omega))) (by decide)) rfl (Nat.le_of_ble_eq_true rfl) (Nat.le_of_ble_eq_true rfl) (Nat.le_of_ble_eq_true rfl) (Nat.le_of_ble_eq_true rfl) (Nat.le_of_ble_eq_true rfl) ?_
      refine A_top (y := (V i).2.1) (by rw [atS_nI (by omega) (by decide), (hv i hlt).2.1]) ?_
      refine A_iload_n (pc := 18) rfl hX dX7_numberHeldBy_18 ?_
      refine A_icmp_ne (pc := 19) 24 hX dX7_numberHeldBy_19 rfl (fun c19 => ?_) (fun c19 => ?_)
      · refine A_iinc (pc := 24) (v := (nI (i + 1))) (lv' := [_, _, _]) hX dX7_numberHeldBy_24 rfl (nI_succ i).symm rfl rfl ?_
        refine A_goto (pc := 27) 2 hX dX7_numberHeldBy_27 rfl ?_
        exact ih (i + 1) (by omega) (by omega) (by rw [if_neg c19] at hf; exact hf)
      · refine A_iload_n (pc := 22) rfl hX dX7_numberHeldBy_22 ?_
        refine A_iret (pc := 23) hX hR dX7_numberHeldBy_23 rfl rfl ?_
        exact ⟨by rw [if_pos c19] at hf; rw [← hf], rfl⟩
set_option maxRecDepth 100000 in
set_option maxHeartbeats 1000000 in
theorem ct_daysLeftAt (l : Launch) (G : aG) {t nt : Nat} {dy : Int32} {V : Nat → Nat × Int32 × Int32 × Int32} {σ : aS} (hT : RTh G t nt dy V σ) {x : Int32} : ACt l G yX7_daysLeftAt cX7_daysLeftAt 3 (some .int) 2 0 0 [.ref t, .int x] σ (dP (some (.int (leftAt V nt x))) σ) := by
  obtain ⟨sd, fs, fh, fl, fr, ft, ⟨a0, a1, a2, a3, a4, a5⟩, hnt, hv⟩ := id hT
  refine ACt.intro (own := RX7) (nm := "daysLeftAt") mk_X7_daysLeftAt rfl rfl [some (.ref t), some (.int x), none] rfl (Nat.le_of_ble_eq_true rfl) (fun X hX hR => ?_)
  refine A_aload_n (pc := 0) rfl hX dX7_daysLeftAt_0 ?_
  refine A_iload_n (pc := 1) rfl hX dX7_daysLeftAt_1 ?_
  refine A_V1d (pc := 2) hX mk_X7_numberHeldBy lv_X7_52 dX7_daysLeftAt_2 (by repeat (first | assumption | exact aSet_s | exact aNew_s | refine lk_n ?_ (by omega) | refine lk_f (by assumption) ?_ (by omega) | refine lk_w ?_ (by omega))) (ct_numberHeldBy l G hT) rfl (Nat.le_of_ble_eq_true rfl) (Nat.le_of_ble_eq_true rfl) (Nat.le_of_ble_eq_true rfl) (Nat.le_of_ble_eq_true rfl) (Nat.le_of_ble_eq_true rfl) ?_
  refine A_istore_n (pc := 5) (lv' := [_, _, _]) hX dX7_daysLeftAt_5 (Nat.le_of_ble_eq_true rfl) rfl rfl ?_
  refine A_iload_n (pc := 6) rfl hX dX7_daysLeftAt_6 ?_
  refine A_iconst (pc := 7) (v := (-1)) (by decide) hX dX7_daysLeftAt_7 ?_
  refine A_icmp_ne (pc := 8) 15 hX dX7_daysLeftAt_8 rfl (fun c8 => ?_) (fun c8 => ?_)
  · refine A_aload_n (pc := 15) rfl hX dX7_daysLeftAt_15 ?_
    refine A_getf (pc := 16) hX fl_X7_18_7 dX7_daysLeftAt_16 (by repeat (first | assumption | exact aSet_s | exact aNew_s | refine lk_n ?_ (by omega) | refine lk_f (by assumption) ?_ (by omega) | refine lk_w ?_ (by omega))) (by exact rfl) ?_
    refine A_iload_n (pc := 19) rfl hX dX7_daysLeftAt_19 ?_
    refine A_S2d (pc := 20) hX mk_X11_at ls_X7_34 dX7_daysLeftAt_20 (ct_at l G (by repeat (first | assumption | exact aSet_s | exact aNew_s | refine lk_n ?_ (by omega) | refine lk_f (by assumption) ?_ (by omega) | refine lk_w ?_ (by omega))) (by decide)) rfl (Nat.le_of_ble_eq_true rfl) (Nat.le_of_ble_eq_true rfl) (Nat.le_of_ble_eq_true rfl) (Nat.le_of_ble_eq_true rfl) (Nat.le_of_ble_eq_true rfl) ?_
    refine A_iret (pc := 23) hX hR dX7_daysLeftAt_23 rfl rfl ?_
    first
      | (rw [leftAt, if_pos c8]; exact ⟨rfl, rfl⟩)
      | (obtain ⟨j, -, j2, j3, -⟩ := (hfind_or V x nt 0).resolve_left c8
         have j3 : heldBy V nt x = nI j := j3
         exact ⟨by rw [leftAt, if_neg c8, j3, nI_clamp (by omega), atS_nI (by omega) (by decide), (hv j (by omega)).2.2.1], rfl⟩)
  · refine A_iconst (pc := 11) (v := (nI 0)) (by decide) hX dX7_daysLeftAt_11 ?_
    refine A_goto (pc := 12) 23 hX dX7_daysLeftAt_12 rfl ?_
    refine A_iret (pc := 23) hX hR dX7_daysLeftAt_23 rfl rfl ?_
    first
      | (rw [leftAt, if_pos c8]; exact ⟨rfl, rfl⟩)
      | (obtain ⟨j, -, j2, j3, -⟩ := (hfind_or V x nt 0).resolve_left c8
         have j3 : heldBy V nt x = nI j := j3
         exact ⟨by rw [leftAt, if_neg c8, j3, nI_clamp (by omega), atS_nI (by omega) (by decide), (hv j (by omega)).2.2.1], rfl⟩)
set_option maxRecDepth 100000 in
set_option maxHeartbeats 1000000 in
theorem ct_takeBack (l : Launch) (G : aG) {w tp nb : Nat} {B : Nat → Nat × Nat × Nat × Nat} {t nt : Nat} {dy : Int32} {V : Nat → Nat × Int32 × Int32 × Int32} {σ : aS} (hT : RTh G t nt dy V σ) (hw : RTw G w tp nb B σ) (hV : okV nb nt V) {i : Nat} (hi : i < nt) (hd : w + 5 ≤ t) (htp : t + 6 ≤ tp) : ACt l G yX7_takeBack cX7_takeBack 3 (none) 3 0 0 [.ref t, .int (nI i), .ref w] σ (vP (fun σ' => RTh G t (nt) (dy) (fun j => if j = i then (homeV B (V i), -1, (V i).2.2.1, (V i).2.2.2 + 1) else V j) σ' ∧ Fr t (t + 6) σ σ')) := by
  obtain ⟨sd, fs, fh, fl, fr, ft, ⟨a0, a1, a2, a3, a4, a5⟩, hnt, hv⟩ := id hT
  obtain ⟨hwt, hnb, hok, bor, fa, fo, fn, e0, e1, e2, e3, e4, e5, e6⟩ := id hw
  refine ACt.intro (own := RX7) (nm := "takeBack") mk_X7_takeBack rfl rfl [some (.ref t), some (.int (nI i)), some (.ref w)] rfl (Nat.le_of_ble_eq_true rfl) (fun X hX hR => ?_)
  refine A_aload_n (pc := 0) rfl hX dX7_takeBack_0 ?_
  refine A_getf (pc := 1) hX fl_X7_9_7 dX7_takeBack_1 (by repeat (first | assumption | exact aSet_s | exact aNew_s | refine lk_n ?_ (by omega) | refine lk_f (by assumption) ?_ (by omega) | refine lk_w ?_ (by omega))) (by exact rfl) ?_
  refine A_iload_n (pc := 4) rfl hX dX7_takeBack_4 ?_
  refine A_aload_n (pc := 5) rfl hX dX7_takeBack_5 ?_
  refine A_iload_n (pc := 6) rfl hX dX7_takeBack_6 ?_
  refine A_aload_n (pc := 7) rfl hX dX7_takeBack_7 ?_
  refine A_V2d (pc := 8) hX mk_X7_stateAtHome lv_X7_67 dX7_takeBack_8 (by repeat (first | assumption | exact aSet_s | exact aNew_s | refine lk_n ?_ (by omega) | refine lk_f (by assumption) ?_ (by omega) | refine lk_w ?_ (by omega))) (ct_stateAtHome l G hT hw hV hi) rfl (Nat.le_of_ble_eq_true rfl) (Nat.le_of_ble_eq_true rfl) (Nat.le_of_ble_eq_true rfl) (Nat.le_of_ble_eq_true rfl) (Nat.le_of_ble_eq_true rfl) ?_
  refine A_S3v (pc := 11) hX mk_X11_put ls_X7_38 dX7_takeBack_11 (ct_put l G (by repeat (first | assumption | exact aSet_s | exact aNew_s | refine lk_n ?_ (by omega) | refine lk_f (by assumption) ?_ (by omega) | refine lk_w ?_ (by omega))) (by decide)) rfl (Nat.le_of_ble_eq_true rfl) (Nat.le_of_ble_eq_true rfl) (Nat.le_of_ble_eq_true rfl) (Nat.le_of_ble_eq_true rfl) (Nat.le_of_ble_eq_true rfl) (fun σ11 h11 => ?_)
  obtain ⟨h11, hf11⟩ := h11
  refine A_aload_n (pc := 14) rfl hX dX7_takeBack_14 ?_
  refine A_getf (pc := 15) hX fl_X7_15_7 dX7_takeBack_15 (by repeat (first | assumption | exact aSet_s | exact aNew_s | refine lk_n ?_ (by omega) | refine lk_f (by assumption) ?_ (by omega) | refine lk_w ?_ (by omega))) (by exact rfl) ?_
  refine A_iload_n (pc := 18) rfl hX dX7_takeBack_18 ?_
  refine A_iconst (pc := 19) (v := (-1)) (by decide) hX dX7_takeBack_19 ?_
  refine A_S3v (pc := 20) hX mk_X11_put ls_X7_38 dX7_takeBack_20 (ct_put l G (by repeat (first | assumption | exact aSet_s | exact aNew_s | refine lk_n ?_ (by omega) | refine lk_f (by assumption) ?_ (by omega) | refine lk_w ?_ (by omega))) (by decide)) rfl (Nat.le_of_ble_eq_true rfl) (Nat.le_of_ble_eq_true rfl) (Nat.le_of_ble_eq_true rfl) (Nat.le_of_ble_eq_true rfl) (Nat.le_of_ble_eq_true rfl) (fun σ20 h20 => ?_)
  obtain ⟨h20, hf20⟩ := h20
  refine A_aload_n (pc := 23) rfl hX dX7_takeBack_23 ?_
  refine A_getf (pc := 24) hX fl_X7_21_7 dX7_takeBack_24 (by repeat (first | assumption | exact aSet_s | exact aNew_s | refine lk_n ?_ (by omega) | refine lk_f (by assumption) ?_ (by omega) | refine lk_w ?_ (by omega))) (by exact rfl) ?_
  refine A_iload_n (pc := 27) rfl hX dX7_takeBack_27 ?_
  refine A_aload_n (pc := 28) rfl hX dX7_takeBack_28 ?_
  refine A_getf (pc := 29) hX fl_X7_21_7 dX7_takeBack_29 (by repeat (first | assumption | exact aSet_s | exact aNew_s | refine lk_n ?_ (by omega) | refine lk_f (by assumption) ?_ (by omega) | refine lk_w ?_ (by omega))) (by exact rfl) ?_
  refine A_iload_n (pc := 32) rfl hX dX7_takeBack_32 ?_
  refine A_S2d (pc := 33) hX mk_X11_at ls_X7_34 dX7_takeBack_33 (ct_at l G (by repeat (first | assumption | exact aSet_s | exact aNew_s | refine lk_n ?_ (by omega) | refine lk_f (by assumption) ?_ (by omega) | refine lk_w ?_ (by omega))) (by decide)) rfl (Nat.le_of_ble_eq_true rfl) (Nat.le_of_ble_eq_true rfl) (Nat.le_of_ble_eq_true rfl) (Nat.le_of_ble_eq_true rfl) (Nat.le_of_ble_eq_true rfl) ?_
  refine A_top (y := (V i).2.2.2) (by rw [atS_nI (by omega) (by decide), (hv i hi).2.2.2]) ?_
  refine A_iconst (pc := 36) (v := (nI 1)) (by decide) hX dX7_takeBack_36 ?_
  refine A_iadd (pc := 37) hX dX7_takeBack_37 ?_
  refine A_S3v (pc := 38) hX mk_X11_put ls_X7_38 dX7_takeBack_38 (ct_put l G (by repeat (first | assumption | exact aSet_s | exact aNew_s | refine lk_n ?_ (by omega) | refine lk_f (by assumption) ?_ (by omega) | refine lk_w ?_ (by omega))) (by decide)) rfl (Nat.le_of_ble_eq_true rfl) (Nat.le_of_ble_eq_true rfl) (Nat.le_of_ble_eq_true rfl) (Nat.le_of_ble_eq_true rfl) (Nat.le_of_ble_eq_true rfl) (fun σ38 h38 => ?_)
  obtain ⟨h38, hf38⟩ := h38
  refine A_ret (pc := 41) hX hR dX7_takeBack_41 ?_
  refine ⟨rfl, ⟨_, _, _, _, _, _, ⟨(by repeat (first | assumption | exact aSet_s | exact aNew_s | refine lk_n ?_ (by omega) | refine lk_f (by assumption) ?_ (by omega) | refine lk_w ?_ (by omega))), (by repeat (first | assumption | exact aSet_s | exact aNew_s | refine lk_n ?_ (by omega) | refine lk_f (by assumption) ?_ (by omega) | refine lk_w ?_ (by omega))), (by repeat (first | assumption | exact aSet_s | exact aNew_s | refine lk_n ?_ (by omega) | refine lk_f (by assumption) ?_ (by omega) | refine lk_w ?_ (by omega))), (by repeat (first | assumption | exact aSet_s | exact aNew_s | refine lk_n ?_ (by omega) | refine lk_f (by assumption) ?_ (by omega) | refine lk_w ?_ (by omega))), (by repeat (first | assumption | exact aSet_s | exact aNew_s | refine lk_n ?_ (by omega) | refine lk_f (by assumption) ?_ (by omega) | refine lk_w ?_ (by omega))), (by repeat (first | assumption | exact aSet_s | exact aNew_s | refine lk_n ?_ (by omega) | refine lk_f (by assumption) ?_ (by omega) | refine lk_w ?_ (by omega)))⟩, hnt, fun j hj => ?_⟩, (by repeat (first | exact Fr.rf | refine Fr.set ?_ (by omega) (by omega) | refine Fr.tr ?_ (Fr.wd (by assumption) (by omega) (by omega))))⟩
  rw [putS_nI (by omega) (by decide), putS_nI (by omega) (by decide), putS_nI (by omega) (by decide)]
  have h1 := hv j hj
  by_cases q : j = i
  · subst q; simp only [upd, if_pos]; exact ⟨trivial, trivial, h1.2.2.1, rfl⟩
  · simp only [upd, if_neg q]; exact h1
theorem RTh.cg {G : aG} {t nt : Nat} {dy : Int32} {V V' : Nat → Nat × Int32 × Int32 × Int32} {σ : aS} (h : RTh G t nt dy V σ) (he : ∀ i, i < nt → V i = V' i) : RTh G t nt dy V' σ := by
  obtain ⟨sd, fs, fh, fl, fr, ft, h1, h2, h3⟩ := h
  exact ⟨sd, fs, fh, fl, fr, ft, h1, h2, fun i hi => by rw [← he i hi]; exact h3 i hi⟩
theorem stepV_ok {nb : Nat} {B : Nat → Nat × Nat × Nat × Nat} {nt : Nat} {V : Nat → Nat × Int32 × Int32 × Int32} (hb : okB nb B) (hn : nb ≤ 6) (hv : okV nb nt V) {i : Nat} (hi : i < nt) : (stepV B (V i)).1 < 512 ∧ ((stepV B (V i)).2.1 = -1 ∨ ∃ b, b < nb ∧ (stepV B (V i)).2.1 = nI b) := by
  unfold stepV
  split
  · exact hv i hi
  · split
    · exact ⟨homeV_lt hb hn hv hi, .inl rfl⟩
    · exact hv i hi
set_option maxRecDepth 100000 in
set_option maxHeartbeats 1000000 in
theorem ct_traitsOf (l : Launch) (G : aG) {t nt : Nat} {dy : Int32} {V : Nat → Nat × Int32 × Int32 × Int32} {σ : aS} (hT : RTh G t nt dy V σ) {r : Nat} {f : Nat → Int32} {Y : Nat → Nat} (hr : σ.2 r = some (aI G 4 f)) (hY : ∀ i, i < nt → f i = nI (Y i) ∧ Y i < 512) : ACt l G yX7_traitsOf cX7_traitsOf 4 (some .int) 2 0 0 [.ref t, .ref r] σ (dP (some (.int (nI (sumN (fun i => trS (Y i)) nt)))) σ) := by
  obtain ⟨sd, fs, fh, fl, fr, ft, ⟨a0, a1, a2, a3, a4, a5⟩, hnt, hv⟩ := id hT
  refine ACt.intro (own := RX7) (nm := "traitsOf") mk_X7_traitsOf rfl rfl [some (.ref t), some (.ref r), none, none] rfl (Nat.le_of_ble_eq_true rfl) (fun X hX hR => ?_)
  refine A_iconst (pc := 0) (v := (nI 0)) (by decide) hX dX7_traitsOf_0 ?_
  refine A_istore_n (pc := 1) (lv' := [_, _, _, _]) hX dX7_traitsOf_1 (Nat.le_of_ble_eq_true rfl) rfl rfl ?_
  refine A_iconst (pc := 2) (v := (nI 0)) (by decide) hX dX7_traitsOf_2 ?_
  refine A_istore_n (pc := 3) (lv' := [_, _, _, _]) hX dX7_traitsOf_3 (Nat.le_of_ble_eq_true rfl) rfl rfl ?_
  suffices hl : ∀ (m i : Nat), i ≤ nt → nt - i = m → AA G X 0 0 4 [some (.ref t), some (.ref r), some (.int (nI (sumN (fun i => trS (Y i)) i))), some (.int (nI i))] [] σ from hl nt 0 (Nat.zero_le _) (by omega)
  intro m
  induction m with
  | zero =>
    intro i hi hm
    have e : i = nt := by omega
    subst e
    refine A_iload_n (pc := 4) rfl hX dX7_traitsOf_4 ?_
    refine A_aload_n (pc := 5) rfl hX dX7_traitsOf_5 ?_
    refine A_getf (pc := 6) hX fl_X7_27_7 dX7_traitsOf_6 (by repeat (first | assumption | exact aSet_s | exact aNew_s | refine lk_n ?_ (by omega) | refine lk_f (by assumption) ?_ (by omega) | refine lk_w ?_ (by omega))) (by exact rfl) ?_
    refine A_icmp_ge (pc := 9) 29 hX dX7_traitsOf_9 rfl (fun c9 => ?_) (fun c9 => ?_)
    · refine A_iload_n (pc := 29) rfl hX dX7_traitsOf_29 ?_
      refine A_iret (pc := 30) hX hR dX7_traitsOf_30 rfl rfl ?_
      exact ⟨rfl, rfl⟩
    · exact absurd (nI_le (by omega) (by omega)) c9
  | succ m ih =>
    intro i hi hm
    have hlt : i < nt := by omega
    refine A_iload_n (pc := 4) rfl hX dX7_traitsOf_4 ?_
    refine A_aload_n (pc := 5) rfl hX dX7_traitsOf_5 ?_
    refine A_getf (pc := 6) hX fl_X7_27_7 dX7_traitsOf_6 (by repeat (first | assumption | exact aSet_s | exact aNew_s | refine lk_n ?_ (by omega) | refine lk_f (by assumption) ?_ (by omega) | refine lk_w ?_ (by omega))) (by exact rfl) ?_
    refine A_icmp_ge (pc := 9) 29 hX dX7_traitsOf_9 rfl (fun c9 => ?_) (fun c9 => ?_)
    · exact absurd c9 (nI_ge hlt (by omega))
    · refine A_iload_n (pc := 12) rfl hX dX7_traitsOf_12 ?_
      refine A_aload_n (pc := 13) rfl hX dX7_traitsOf_13 ?_
      refine A_iload_n (pc := 14) rfl hX dX7_traitsOf_14 ?_
      refine A_S2d (pc := 15) hX mk_X11_at ls_X7_34 dX7_traitsOf_15 (ct_at l G (by repeat (first | assumption | exact aSet_s | exact aNew_s | refine lk_n ?_ (by omega) | refine lk_f (by assumption) ?_ (by omega) | refine lk_w ?_ (by omega))) (by decide)) rfl (Nat.le_of_ble_eq_true rfl) (Nat.le_of_ble_eq_true rfl) (Nat.le_of_ble_eq_true rfl) (Nat.le_of_ble_eq_true rfl) (Nat.le_of_ble_eq_true rfl) ?_
      refine A_top (y := nI (Y i)) (by rw [atS_nI (by omega) (by decide), (hY i hlt).1]) ?_
      refine A_S1d (pc := 18) hX mk_X11_traitSum ls_X7_75 dX7_traitsOf_18 (ct_traitSum l G (hY i hlt).2) rfl (Nat.le_of_ble_eq_true rfl) (Nat.le_of_ble_eq_true rfl) (Nat.le_of_ble_eq_true rfl) (Nat.le_of_ble_eq_true rfl) (Nat.le_of_ble_eq_true rfl) ?_
      refine A_iadd (pc := 21) hX dX7_traitsOf_21 ?_
      refine A_top (y := nI (sumN (fun i => trS (Y i)) (i + 1))) (nI_add _ _) ?_
      refine A_istore_n (pc := 22) (lv' := [_, _, _, _]) hX dX7_traitsOf_22 (Nat.le_of_ble_eq_true rfl) rfl rfl ?_
      refine A_iinc (pc := 23) (v := (nI (i + 1))) (lv' := [_, _, _, _]) hX dX7_traitsOf_23 rfl (nI_succ i).symm rfl rfl ?_
      refine A_goto (pc := 26) 4 hX dX7_traitsOf_26 rfl ?_
      exact ih (i + 1) (by omega) (by omega)
set_option maxRecDepth 100000 in
set_option maxHeartbeats 1000000 in
theorem ct_traitsTogether (l : Launch) (G : aG) {t nt : Nat} {dy : Int32} {V : Nat → Nat × Int32 × Int32 × Int32} {σ : aS} (hT : RTh G t nt dy V σ) (hV : ∀ i, i < nt → (V i).1 < 512) : ACt l G yX7_traitsTogether cX7_traitsTogether 1 (some .int) 3 0 0 [.ref t] σ (dP (some (.int (nI (sumN (fun i => trS (V i).1) nt)))) σ) := by
  obtain ⟨sd, fs, fh, fl, fr, ft, ⟨a0, a1, a2, a3, a4, a5⟩, hnt, hv⟩ := id hT
  refine ACt.intro (own := RX7) (nm := "traitsTogether") mk_X7_traitsTogether rfl rfl [some (.ref t)] rfl (Nat.le_of_ble_eq_true rfl) (fun X hX hR => ?_)
  refine A_aload_n (pc := 0) rfl hX dX7_traitsTogether_0 ?_
  refine A_aload_n (pc := 1) rfl hX dX7_traitsTogether_1 ?_
  refine A_getf (pc := 2) hX fl_X7_9_7 dX7_traitsTogether_2 (by repeat (first | assumption | exact aSet_s | exact aNew_s | refine lk_n ?_ (by omega) | refine lk_f (by assumption) ?_ (by omega) | refine lk_w ?_ (by omega))) (by exact rfl) ?_
  refine A_V1d (pc := 5) hX mk_X7_traitsOf lv_X7_60 dX7_traitsTogether_5 (by repeat (first | assumption | exact aSet_s | exact aNew_s | refine lk_n ?_ (by omega) | refine lk_f (by assumption) ?_ (by omega) | refine lk_w ?_ (by omega))) (ct_traitsOf l G hT a1 (fun i hi => ⟨(hv i hi).1, hV i hi⟩)) rfl (Nat.le_of_ble_eq_true rfl) (Nat.le_of_ble_eq_true rfl) (Nat.le_of_ble_eq_true rfl) (Nat.le_of_ble_eq_true rfl) (Nat.le_of_ble_eq_true rfl) ?_
  refine A_iret (pc := 8) hX hR dX7_traitsTogether_8 rfl rfl ?_
  exact ⟨rfl, rfl⟩
set_option maxRecDepth 100000 in
set_option maxHeartbeats 1000000 in
theorem ct_howManyLent (l : Launch) (G : aG) {t nt : Nat} {dy : Int32} {V : Nat → Nat × Int32 × Int32 × Int32} {σ : aS} (hT : RTh G t nt dy V σ) : ACt l G yX7_howManyLent cX7_howManyLent 3 (some .int) 2 0 0 [.ref t] σ (dP (some (.int (nI (cntN (fun i => decide (¬ (V i).2.1 = -1)) nt)))) σ) := by
  obtain ⟨sd, fs, fh, fl, fr, ft, ⟨a0, a1, a2, a3, a4, a5⟩, hnt, hv⟩ := id hT
  refine ACt.intro (own := RX7) (nm := "howManyLent") mk_X7_howManyLent rfl rfl [some (.ref t), none, none] rfl (Nat.le_of_ble_eq_true rfl) (fun X hX hR => ?_)
  refine A_iconst (pc := 0) (v := (nI 0)) (by decide) hX dX7_howManyLent_0 ?_
  refine A_istore_n (pc := 1) (lv' := [_, _, _]) hX dX7_howManyLent_1 (Nat.le_of_ble_eq_true rfl) rfl rfl ?_
  refine A_iconst (pc := 2) (v := (nI 0)) (by decide) hX dX7_howManyLent_2 ?_
  refine A_istore_n (pc := 3) (lv' := [_, _, _]) hX dX7_howManyLent_3 (Nat.le_of_ble_eq_true rfl) rfl rfl ?_
  suffices hl : ∀ (m i : Nat), i ≤ nt → nt - i = m → AA G X 0 0 4 [some (.ref t), some (.int (nI (cntN (fun i => decide (¬ (V i).2.1 = -1)) i))), some (.int (nI i))] [] σ from hl nt 0 (Nat.zero_le _) (by omega)
  intro m
  induction m with
  | zero =>
    intro i hi hm
    have e : i = nt := by omega
    subst e
    refine A_iload_n (pc := 4) rfl hX dX7_howManyLent_4 ?_
    refine A_aload_n (pc := 5) rfl hX dX7_howManyLent_5 ?_
    refine A_getf (pc := 6) hX fl_X7_27_7 dX7_howManyLent_6 (by repeat (first | assumption | exact aSet_s | exact aNew_s | refine lk_n ?_ (by omega) | refine lk_f (by assumption) ?_ (by omega) | refine lk_w ?_ (by omega))) (by exact rfl) ?_
    refine A_icmp_ge (pc := 9) 29 hX dX7_howManyLent_9 rfl (fun c9 => ?_) (fun c9 => ?_)
    · refine A_iload_n (pc := 29) rfl hX dX7_howManyLent_29 ?_
      refine A_iret (pc := 30) hX hR dX7_howManyLent_30 rfl rfl ?_
      exact ⟨rfl, rfl⟩
    · exact absurd (nI_le (by omega) (by omega)) c9
  | succ m ih =>
    intro i hi hm
    have hlt : i < nt := by omega
    have ih := ih (i + 1) (by omega) (by omega)
    rw [cntN] at ih
    refine A_iload_n (pc := 4) rfl hX dX7_howManyLent_4 ?_
    refine A_aload_n (pc := 5) rfl hX dX7_howManyLent_5 ?_
    refine A_getf (pc := 6) hX fl_X7_27_7 dX7_howManyLent_6 (by repeat (first | assumption | exact aSet_s | exact aNew_s | refine lk_n ?_ (by omega) | refine lk_f (by assumption) ?_ (by omega) | refine lk_w ?_ (by omega))) (by exact rfl) ?_
    refine A_icmp_ge (pc := 9) 29 hX dX7_howManyLent_9 rfl (fun c9 => ?_) (fun c9 => ?_)
    · exact absurd c9 (nI_ge hlt (by omega))
    · refine A_aload_n (pc := 12) rfl hX dX7_howManyLent_12 ?_
      refine A_iload_n (pc := 13) rfl hX dX7_howManyLent_13 ?_
      refine A_V1d (pc := 14) hX mk_X7_isLent lv_X7_42 dX7_howManyLent_14 (by repeat (first | assumption | exact aSet_s | exact aNew_s | refine lk_n ?_ (by omega) | refine lk_f (by assumption) ?_ (by omega) | refine lk_w ?_ (by omega))) (ct_isLent l G hT hlt) rfl (Nat.le_of_ble_eq_true rfl) (Nat.le_of_ble_eq_true rfl) (Nat.le_of_ble_eq_true rfl) (Nat.le_of_ble_eq_true rfl) (Nat.le_of_ble_eq_true rfl) ?_
      refine A_if_eq (pc := 17) 23 hX dX7_howManyLent_17 rfl (fun c17 => ?_) (fun c17 => ?_)
      · rw [if_neg (by rw [bI_eq c17]; decide)] at ih
        refine A_iinc (pc := 23) (v := (nI (i + 1))) (lv' := [_, _, _]) hX dX7_howManyLent_23 rfl (nI_succ i).symm rfl rfl ?_
        refine A_goto (pc := 26) 4 hX dX7_howManyLent_26 rfl ?_
        exact ih
      · rw [if_pos (bI_ne c17)] at ih
        refine A_iinc (pc := 20) (v := (nI (cntN (fun i => decide (¬ (V i).2.1 = -1)) i + 1))) (lv' := [_, _, _]) hX dX7_howManyLent_20 rfl (nI_succ _).symm rfl rfl ?_
        refine A_iinc (pc := 23) (v := (nI (i + 1))) (lv' := [_, _, _]) hX dX7_howManyLent_23 rfl (nI_succ i).symm rfl rfl ?_
        refine A_goto (pc := 26) 4 hX dX7_howManyLent_26 rfl ?_
        exact ih
set_option maxRecDepth 100000 in
set_option maxHeartbeats 1000000 in
theorem ct_passDay (l : Launch) (G : aG) {w tp nb : Nat} {B : Nat → Nat × Nat × Nat × Nat} {t nt : Nat} {dy : Int32} {V : Nat → Nat × Int32 × Int32 × Int32} {σ : aS} (hT : RTh G t nt dy V σ) (hw : RTw G w tp nb B σ) (hV : okV nb nt V) (hd : w + 5 ≤ t) (htp : t + 6 ≤ tp) : ACt l G yX7_passDay cX7_passDay 4 (some .int) 4 0 0 [.ref t, .ref w] σ (iP (fun x σ' => x = nI (cntN (fun i => backV (V i)) nt) ∧ RTh G t (nt) (dy + 1) (fun i => stepV B (V i)) σ' ∧ Fr t (t + 6) σ σ')) := by
  obtain ⟨sd, fs, fh, fl, fr, ft, ⟨a0, a1, a2, a3, a4, a5⟩, hnt, hv⟩ := id hT
  obtain ⟨hwt, hnb, hok, bor, fa, fo, fn, e0, e1, e2, e3, e4, e5, e6⟩ := id hw
  refine ACt.intro (own := RX7) (nm := "passDay") mk_X7_passDay rfl rfl [some (.ref t), some (.ref w), none, none] rfl (Nat.le_of_ble_eq_true rfl) (fun X hX hR => ?_)
  refine A_aload_n (pc := 0) rfl hX dX7_passDay_0 ?_
  refine A_dup (pc := 1) rfl hX dX7_passDay_1 ?_
  refine A_getf (pc := 2) hX fl_X7_31_7 dX7_passDay_2 (by repeat (first | assumption | exact aSet_s | exact aNew_s | refine lk_n ?_ (by omega) | refine lk_f (by assumption) ?_ (by omega) | refine lk_w ?_ (by omega))) (by exact rfl) ?_
  refine A_iconst (pc := 5) (v := (nI 1)) (by decide) hX dX7_passDay_5 ?_
  refine A_iadd (pc := 6) hX dX7_passDay_6 ?_
  refine A_top (y := dy + 1) rfl ?_
  refine A_putf (pc := 7) (fs' := [_, _, _, _, _, _, _, _]) hX pl_X7_31_7 dX7_passDay_7 (by repeat (first | assumption | exact aSet_s | exact aNew_s | refine lk_n ?_ (by omega) | refine lk_f (by assumption) ?_ (by omega) | refine lk_w ?_ (by omega))) (by exact Nat.le_of_ble_eq_true rfl) (by exact rfl) rfl rfl ?_
  refine A_iconst (pc := 10) (v := (nI 0)) (by decide) hX dX7_passDay_10 ?_
  refine A_istore_n (pc := 11) (lv' := [_, _, _, _]) hX dX7_passDay_11 (Nat.le_of_ble_eq_true rfl) rfl rfl ?_
  refine A_iconst (pc := 12) (v := (nI 0)) (by decide) hX dX7_passDay_12 ?_
  refine A_istore_n (pc := 13) (lv' := [_, _, _, _]) hX dX7_passDay_13 (Nat.le_of_ble_eq_true rfl) rfl rfl ?_
  suffices hl : ∀ (m i : Nat) (σ1 : aS), i ≤ nt → nt - i = m → Fr t (t + 6) σ σ1 → RTh G t nt (dy + 1) (fun k => if k < i then stepV B (V k) else V k) σ1 → AA G X 0 0 14 [some (.ref t), some (.ref w), some (.int (nI (cntN (fun i => backV (V i)) i))), some (.int (nI i))] [] σ1 from hl nt 0 _ (Nat.zero_le _) (by omega) (Fr.rf.set (by omega) (by omega)) ⟨_, _, _, _, _, _, ⟨aSet_s, (by repeat (first | assumption | exact aSet_s | exact aNew_s | refine lk_n ?_ (by omega) | refine lk_f (by assumption) ?_ (by omega) | refine lk_w ?_ (by omega))), (by repeat (first | assumption | exact aSet_s | exact aNew_s | refine lk_n ?_ (by omega) | refine lk_f (by assumption) ?_ (by omega) | refine lk_w ?_ (by omega))), (by repeat (first | assumption | exact aSet_s | exact aNew_s | refine lk_n ?_ (by omega) | refine lk_f (by assumption) ?_ (by omega) | refine lk_w ?_ (by omega))), (by repeat (first | assumption | exact aSet_s | exact aNew_s | refine lk_n ?_ (by omega) | refine lk_f (by assumption) ?_ (by omega) | refine lk_w ?_ (by omega))), (by repeat (first | assumption | exact aSet_s | exact aNew_s | refine lk_n ?_ (by omega) | refine lk_f (by assumption) ?_ (by omega) | refine lk_w ?_ (by omega)))⟩, hnt, fun i hi => by simpa using hv i hi⟩
  intro m
  induction m with
  | zero =>
    intro i σ1 hi hm hF hT1
    have e : i = nt := by omega
    subst e
    have hT1' := id hT1
    obtain ⟨sd1, gs, gh, gl, gr, gt, ⟨b0, b1, b2, b3, b4, b5⟩, hnt1, hv1⟩ := hT1
    refine A_iload_n (pc := 14) rfl hX dX7_passDay_14 ?_
    refine A_aload_n (pc := 15) rfl hX dX7_passDay_15 ?_
    refine A_getf (pc := 16) hX fl_X7_27_7 dX7_passDay_16 (by first | assumption | exact b0) (by exact rfl) ?_
    refine A_icmp_ge (pc := 19) 74 hX dX7_passDay_19 rfl (fun c19 => ?_) (fun c19 => ?_)
    · refine A_iload_n (pc := 74) rfl hX dX7_passDay_74 ?_
      refine A_iret (pc := 75) hX hR dX7_passDay_75 rfl rfl ?_
      exact ⟨_, rfl, rfl, hT1'.cg (fun k hk => if_pos hk), hF⟩
    · exact absurd (nI_le (by omega) (by omega)) c19
  | succ m ih =>
    intro i σ1 hi hm hF hT1
    have hlt : i < nt := by omega
    have hw1 := hw.fr hF htp (.inr hd)
    have hT1' := id hT1
    obtain ⟨sd1, gs, gh, gl, gr, gt, ⟨b0, b1, b2, b3, b4, b5⟩, hnt1, hv1⟩ := hT1
    have hvi := hv1 i hlt
    simp only [if_neg (Nat.lt_irrefl i)] at hvi
    have hnx : ∀ (W : Nat → Nat × Int32 × Int32 × Int32) (σ2 : aS), RTh G t nt (dy + 1) W σ2 → (∀ k, k < nt → k ≠ i → W k = if k < i then stepV B (V k) else V k) → W i = stepV B (V i) → RTh G t nt (dy + 1) (fun k => if k < i + 1 then stepV B (V k) else V k) σ2 := fun W σ2 hW h1 h2 => hW.cg fun k hk => by
      by_cases q : k = i
      · subst q; rw [h2, if_pos (Nat.lt_succ_self _)]
      · rw [h1 k hk q]
        by_cases q2 : k < i
        · rw [if_pos q2, if_pos (by omega)]
        · rw [if_neg q2, if_neg (by omega)]
    have ih0 := fun σ2 => ih (i + 1) σ2 (by omega) (by omega)
    rw [cntN] at ih0
    refine A_iload_n (pc := 14) rfl hX dX7_passDay_14 ?_
    refine A_aload_n (pc := 15) rfl hX dX7_passDay_15 ?_
    refine A_getf (pc := 16) hX fl_X7_27_7 dX7_passDay_16 (by first | assumption | exact b0) (by exact rfl) ?_
    refine A_icmp_ge (pc := 19) 74 hX dX7_passDay_19 rfl (fun c19 => ?_) (fun c19 => ?_)
    · exact absurd c19 (nI_ge hlt (by omega))
    · refine A_aload_n (pc := 22) rfl hX dX7_passDay_22 ?_
      refine A_iload_n (pc := 23) rfl hX dX7_passDay_23 ?_
      refine A_V1d (pc := 24) hX mk_X7_isLent lv_X7_42 dX7_passDay_24 (by repeat (first | assumption | exact aSet_s | exact aNew_s | refine lk_n ?_ (by omega) | refine lk_f (by assumption) ?_ (by omega) | refine lk_w ?_ (by omega))) (ct_isLent l G hT1' hlt) rfl (Nat.le_of_ble_eq_true rfl) (Nat.le_of_ble_eq_true rfl) (Nat.le_of_ble_eq_true rfl) (Nat.le_of_ble_eq_true rfl) (Nat.le_of_ble_eq_true rfl) ?_
      refine A_if_eq (pc := 27) 68 hX dX7_passDay_27 rfl (fun c27 => ?_) (fun c27 => ?_)
      · have hl : (V i).2.1 = -1 := by
          have := of_decide_eq_false (bI_eq c27)
          simp only [if_neg (Nat.lt_irrefl i)] at this
          exact Decidable.byContradiction this
        rw [if_neg (by rw [backV, decide_eq_false (fun q => q.1 hl)]; decide)] at ih0
        refine A_iinc (pc := 68) (v := (nI (i + 1))) (lv' := [_, _, _, _]) hX dX7_passDay_68 rfl (nI_succ i).symm rfl rfl ?_
        refine A_goto (pc := 71) 14 hX dX7_passDay_71 rfl ?_
        exact ih0 σ1 hF (hnx _ σ1 hT1' (fun k hk q => rfl) (by rw [if_neg (Nat.lt_irrefl i), stepV, if_pos hl]))
      · have hl := of_decide_eq_true (bI_ne c27)
        simp only [if_neg (Nat.lt_irrefl i)] at hl
        refine A_aload_n (pc := 30) rfl hX dX7_passDay_30 ?_
        refine A_getf (pc := 31) hX fl_X7_18_7 dX7_passDay_31 (by repeat (first | assumption | exact aSet_s | exact aNew_s | refine lk_n ?_ (by omega) | refine lk_f (by assumption) ?_ (by omega) | refine lk_w ?_ (by omega))) (by exact rfl) ?_
        refine A_iload_n (pc := 34) rfl hX dX7_passDay_34 ?_
        refine A_aload_n (pc := 35) rfl hX dX7_passDay_35 ?_
        refine A_getf (pc := 36) hX fl_X7_18_7 dX7_passDay_36 (by repeat (first | assumption | exact aSet_s | exact aNew_s | refine lk_n ?_ (by omega) | refine lk_f (by assumption) ?_ (by omega) | refine lk_w ?_ (by omega))) (by exact rfl) ?_
        refine A_iload_n (pc := 39) rfl hX dX7_passDay_39 ?_
        refine A_S2d (pc := 40) hX mk_X11_at ls_X7_34 dX7_passDay_40 (ct_at l G b3 (by decide)) rfl (Nat.le_of_ble_eq_true rfl) (Nat.le_of_ble_eq_true rfl) (Nat.le_of_ble_eq_true rfl) (Nat.le_of_ble_eq_true rfl) (Nat.le_of_ble_eq_true rfl) ?_
        refine A_top (y := (V i).2.2.1) (by rw [atS_nI (by omega) (by decide), hvi.2.2.1]) ?_
        refine A_iconst (pc := 43) (v := (nI 1)) (by decide) hX dX7_passDay_43 ?_
        refine A_isub (pc := 44) hX dX7_passDay_44 ?_
        refine A_top (y := (V i).2.2.1 - 1) rfl ?_
        refine A_S3v (pc := 45) hX mk_X11_put ls_X7_38 dX7_passDay_45 (ct_put l G b3 (by decide)) rfl (Nat.le_of_ble_eq_true rfl) (Nat.le_of_ble_eq_true rfl) (Nat.le_of_ble_eq_true rfl) (Nat.le_of_ble_eq_true rfl) (Nat.le_of_ble_eq_true rfl) (fun σ45 h45 => ?_)
        obtain ⟨h45, hf45⟩ := h45
        have hT2 : RTh G t nt (dy + 1) (fun k => if k = i then ((V i).1, (V i).2.1, (V i).2.2.1 - 1, (V i).2.2.2) else if k < i then stepV B (V k) else V k) σ45 := by
          refine ⟨_, _, _, _, _, _, ⟨(by repeat (first | assumption | exact aSet_s | exact aNew_s | refine lk_n ?_ (by omega) | refine lk_f (by assumption) ?_ (by omega) | refine lk_w ?_ (by omega))), (by repeat (first | assumption | exact aSet_s | exact aNew_s | refine lk_n ?_ (by omega) | refine lk_f (by assumption) ?_ (by omega) | refine lk_w ?_ (by omega))), (by repeat (first | assumption | exact aSet_s | exact aNew_s | refine lk_n ?_ (by omega) | refine lk_f (by assumption) ?_ (by omega) | refine lk_w ?_ (by omega))), (by repeat (first | assumption | exact aSet_s | exact aNew_s | refine lk_n ?_ (by omega) | refine lk_f (by assumption) ?_ (by omega) | refine lk_w ?_ (by omega))), (by repeat (first | assumption | exact aSet_s | exact aNew_s | refine lk_n ?_ (by omega) | refine lk_f (by assumption) ?_ (by omega) | refine lk_w ?_ (by omega))), (by repeat (first | assumption | exact aSet_s | exact aNew_s | refine lk_n ?_ (by omega) | refine lk_f (by assumption) ?_ (by omega) | refine lk_w ?_ (by omega)))⟩, hnt, fun j hj => ?_⟩
          rw [putS_nI (by omega) (by decide)]
          by_cases q : j = i
          · subst q; simp only [upd, if_pos]; exact ⟨hvi.1, hvi.2.1, trivial, hvi.2.2.2⟩
          · simp only [upd, if_neg q]; exact hv1 j hj
        refine A_aload_n (pc := 48) rfl hX dX7_passDay_48 ?_
        refine A_getf (pc := 49) hX fl_X7_18_7 dX7_passDay_49 (by repeat (first | assumption | exact aSet_s | exact aNew_s | refine lk_n ?_ (by omega) | refine lk_f (by assumption) ?_ (by omega) | refine lk_w ?_ (by omega))) (by exact rfl) ?_
        refine A_iload_n (pc := 52) rfl hX dX7_passDay_52 ?_
        refine A_S2d (pc := 53) hX mk_X11_at ls_X7_34 dX7_passDay_53 (ct_at l G h45 (by decide)) rfl (Nat.le_of_ble_eq_true rfl) (Nat.le_of_ble_eq_true rfl) (Nat.le_of_ble_eq_true rfl) (Nat.le_of_ble_eq_true rfl) (Nat.le_of_ble_eq_true rfl) ?_
        refine A_top (y := (V i).2.2.1 - 1) (by rw [atS_nI (by omega) (by decide), putS_nI (by omega) (by decide)]; simp [upd]) ?_
        refine A_if_ne (pc := 56) 68 hX dX7_passDay_56 rfl (fun c56 => ?_) (fun c56 => ?_)
        · rw [if_neg (by rw [backV, decide_eq_false (fun q => c56 q.2)]; decide)] at ih0
          refine A_iinc (pc := 68) (v := (nI (i + 1))) (lv' := [_, _, _, _]) hX dX7_passDay_68 rfl (nI_succ i).symm rfl rfl ?_
          refine A_goto (pc := 71) 14 hX dX7_passDay_71 rfl ?_
          exact ih0 σ45 (hF.tr (hf45.wd (by omega) (by omega))) (hnx _ σ45 hT2 (fun k hk q => if_neg q) (by rw [if_pos rfl, stepV, if_neg hl, if_neg c56]))
        · have c56 : (V i).2.2.1 - 1 = 0 := Decidable.byContradiction fun q => absurd c56 (by simpa using q)
          rw [if_pos (show backV (V i) = true from decide_eq_true ⟨hl, c56⟩)] at ih0
          have hok2 : okV nb nt (fun k => if k = i then ((V i).1, (V i).2.1, (V i).2.2.1 - 1, (V i).2.2.2) else if k < i then stepV B (V k) else V k) := by
            intro k hk
            show (if k = i then _ else _ : Nat × Int32 × Int32 × Int32).1 < 512 ∧ _
            by_cases q : k = i
            · subst q; simp only [if_pos]; exact hV k hk
            · simp only [if_neg q]
              by_cases q2 : k < i
              · simp only [if_pos q2]; exact stepV_ok hok hnb hV hk
              · simp only [if_neg q2]; exact hV k hk
          refine A_aload_n (pc := 59) rfl hX dX7_passDay_59 ?_
          refine A_iload_n (pc := 60) rfl hX dX7_passDay_60 ?_
          refine A_aload_n (pc := 61) rfl hX dX7_passDay_61 ?_
          refine A_V2v (pc := 62) hX mk_X7_takeBack lv_X7_56 dX7_passDay_62 (by repeat (first | assumption | exact aSet_s | exact aNew_s | refine lk_n ?_ (by omega) | refine lk_f (by assumption) ?_ (by omega) | refine lk_w ?_ (by omega))) (ct_takeBack l G hT2 (hw1.fr hf45 (by omega) (by omega)) hok2 hlt (by omega) (by omega)) rfl (Nat.le_of_ble_eq_true rfl) (Nat.le_of_ble_eq_true rfl) (Nat.le_of_ble_eq_true rfl) (Nat.le_of_ble_eq_true rfl) (Nat.le_of_ble_eq_true rfl) (fun σ62 h62 => ?_)
          obtain ⟨h62, hf62⟩ := h62
          refine A_iinc (pc := 65) (v := (nI (cntN (fun i => backV (V i)) i + 1))) (lv' := [_, _, _, _]) hX dX7_passDay_65 rfl (nI_succ _).symm rfl rfl ?_
          refine A_iinc (pc := 68) (v := (nI (i + 1))) (lv' := [_, _, _, _]) hX dX7_passDay_68 rfl (nI_succ i).symm rfl rfl ?_
          refine A_goto (pc := 71) 14 hX dX7_passDay_71 rfl ?_
          exact ih0 σ62 ((hF.tr (hf45.wd (by omega) (by omega))).tr hf62) (hnx _ σ62 h62 (fun k hk q => by rw [if_neg q, if_neg q]) (by
            rw [if_pos rfl, if_pos rfl, stepV, if_neg hl, if_pos c56]
            rfl))
