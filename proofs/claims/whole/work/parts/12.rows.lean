/-! the rows of loans: how many, and who is in each; r the object, r + 1 to r + 4 its rows of numbers -/
def addB (mB : Nat → Nat → Nat) (w s c : Nat) (A : Nat → Nat) : Nat → Nat → Nat
  | 0, t => A t
  | b + 1, t => addB mB w s c A b t + (if b = w ∨ ¬ t = mB b s then 0 else c)
def addS (nb : Nat) (mB : Nat → Nat → Nat) (w : Nat) (M : Nat → Nat) : Nat → Nat → Nat
  | 0, _ => 0
  | s + 1, t => addB mB w s (M s) (addS nb mB w M s) nb t
def rN (nb : Nat) (mB : Nat → Nat → Nat) (fr w : Nat) : Nat → Nat → Nat
  | 0, t => if t = fr then 1 else 0
  | k + 1, t => addS nb mB w (rN nb mB fr w k) 512 t
theorem addB_z {mB : Nat → Nat → Nat} {w s : Nat} {A : Nat → Nat} {t : Nat} : ∀ b, addB mB w s 0 A b t = A t
  | 0 => rfl
  | b + 1 => by show addB mB w s 0 A b t + _ = _; rw [addB_z b]; split <;> rfl
theorem sum_one {A : Nat → Nat} {P : Prop} [Decidable P] {to c : Nat} : ∀ n, sumN (fun t => A t + (if P ∨ ¬ t = to then 0 else c)) n ≤ sumN A n + (if to < n then c else 0)
  | 0 => by show 0 ≤ _; omega
  | n + 1 => by
    have ih := sum_one (A := A) (P := P) (to := to) (c := c) n
    show sumN _ n + (A n + _) ≤ (sumN A n + A n) + _
    by_cases e : n = to
    · subst e
      rw [if_neg (Nat.lt_irrefl n)] at ih
      rw [if_pos (Nat.lt_succ_self n)]
      split <;> omega
    · rw [if_pos (show P ∨ ¬ n = to from .inr e)]
      by_cases e2 : to < n
      · rw [if_pos e2] at ih; rw [if_pos (by omega)]; omega
      · rw [if_neg e2] at ih; rw [if_neg (by omega)]; omega
theorem sum_ge {A : Nat → Nat} : ∀ {n t : Nat}, t < n → A t ≤ sumN A n
  | n + 1, t, h => by
    show _ ≤ sumN A n + A n
    by_cases e : t = n
    · subst e; omega
    · have := sum_ge (A := A) (n := n) (t := t) (by omega); omega
theorem sum_mono {A : Nat → Nat} : ∀ {n m : Nat}, n ≤ m → sumN A n ≤ sumN A m
  | n, 0, h => by rw [show n = 0 by omega]; exact Nat.le_refl _
  | n, m + 1, h => by
    by_cases e : n = m + 1
    · subst e; exact Nat.le_refl _
    · exact Nat.le_trans (sum_mono (A := A) (n := n) (m := m) (by omega)) (Nat.le_add_right _ _)
theorem addB_sum {mB : Nat → Nat → Nat} {w s c : Nat} {A : Nat → Nat} : ∀ b, sumN (addB mB w s c A b) 512 ≤ sumN A 512 + b * c
  | 0 => by show sumN A 512 ≤ _; omega
  | b + 1 => by
    have ih := addB_sum (mB := mB) (w := w) (s := s) (c := c) (A := A) b
    have h := sum_one (A := addB mB w s c A b) (P := b = w) (to := mB b s) (c := c) 512
    have : sumN (addB mB w s c A (b + 1)) 512 ≤ sumN (addB mB w s c A b) 512 + c := Nat.le_trans h (by split <;> omega)
    rw [Nat.succ_mul]; omega
theorem sum_zero : ∀ n, sumN (fun _ => 0) n = 0
  | 0 => rfl
  | n + 1 => by show sumN _ n + 0 = 0; rw [sum_zero n]
theorem addS_sum {nb : Nat} {mB : Nat → Nat → Nat} {w : Nat} {M : Nat → Nat} (hnb : nb ≤ 6) : ∀ s, sumN (addS nb mB w M s) 512 ≤ 6 * sumN M s
  | 0 => by show sumN (fun _ => 0) 512 ≤ _; rw [sum_zero]; omega
  | s + 1 => by
    have ih := addS_sum (mB := mB) (w := w) (M := M) hnb s
    have h := addB_sum (mB := mB) (w := w) (s := s) (c := M s) (A := addS nb mB w M s) nb
    have e : sumN (addS nb mB w M (s + 1)) 512 = sumN (addB mB w s (M s) (addS nb mB w M s) nb) 512 := rfl
    have e2 : sumN M (s + 1) = sumN M s + M s := rfl
    have : nb * M s ≤ 6 * M s := Nat.mul_le_mul_right _ hnb
    omega
theorem rN_sum {nb : Nat} {mB : Nat → Nat → Nat} {fr w : Nat} (hnb : nb ≤ 6) : ∀ k, sumN (rN nb mB fr w k) 512 ≤ 6 ^ k
  | 0 => by
    have := sum_one (A := fun _ => 0) (P := False) (to := fr) (c := 1) 512
    have e : sumN (rN nb mB fr w 0) 512 = sumN (fun t => (fun _ => 0) t + (if False ∨ ¬ t = fr then 0 else 1)) 512 := by
      congr 1
      funext t
      simp only [rN, false_or, Nat.zero_add]
      split <;> simp_all
    rw [e]
    rw [sum_zero] at this
    refine Nat.le_trans this ?_
    split <;> decide
  | k + 1 => by
    have ih := rN_sum (mB := mB) (fr := fr) (w := w) hnb k
    have := addS_sum (mB := mB) (w := w) (M := rN nb mB fr w k) hnb 512
    have e : sumN (rN nb mB fr w (k + 1)) 512 = sumN (addS nb mB w (rN nb mB fr w k) 512) 512 := rfl
    rw [e, Nat.pow_succ]; omega
theorem p6_k {k : Nat} (h : k ≤ 6) : 6 ^ k ≤ 46656 := Nat.pow_le_pow_right (n := 6) (by decide) h
theorem addB_mono {mB : Nat → Nat → Nat} {w s c c' : Nat} {A A' : Nat → Nat} (hc : c ≤ c') {t : Nat} (hA : A t ≤ A' t) : ∀ b, b ≤ 6 → addB mB w s c A b t ≤ addB mB 7 s c' A' b t
  | 0, _ => hA
  | b + 1, h => by
    have ih := addB_mono (mB := mB) (w := w) (s := s) hc hA b (by omega)
    show addB mB w s c A b t + _ ≤ addB mB 7 s c' A' b t + _
    by_cases e : t = mB b s
    · rw [if_neg (show ¬ (b = 7 ∨ ¬ t = mB b s) from fun q => q.elim (by omega) (fun q => q e))]
      split <;> omega
    · rw [if_pos (.inr e), if_pos (.inr e)]; omega
theorem addS_mono {nb : Nat} {mB : Nat → Nat → Nat} {w : Nat} {M M' : Nat → Nat} (hnb : nb ≤ 6) (hM : ∀ s, M s ≤ M' s) : ∀ s t, addS nb mB w M s t ≤ addS nb mB 7 M' s t
  | 0, t => Nat.le_refl _
  | s + 1, t => addB_mono (hM s) (addS_mono hnb hM s t) nb hnb
theorem rN_mono {nb : Nat} {mB : Nat → Nat → Nat} {fr w : Nat} (hnb : nb ≤ 6) : ∀ k t, rN nb mB fr w k t ≤ rN nb mB fr 7 k t
  | 0, t => Nat.le_refl _
  | k + 1, t => addS_mono hnb (fun s => rN_mono hnb k s) 512 t
theorem addB_cg {mB : Nat → Nat → Nat} {w w' s c : Nat} {A : Nat → Nat} {t : Nat} : ∀ b, b ≤ w → b ≤ w' → addB mB w s c A b t = addB mB w' s c A b t
  | 0, _, _ => rfl
  | b + 1, h, h' => by
    show addB mB w s c A b t + _ = addB mB w' s c A b t + _
    rw [addB_cg (w := w) (w' := w') b (by omega) (by omega)]
    by_cases e : t = mB b s
    · rw [if_neg (show ¬ (b = w ∨ ¬ t = mB b s) from fun q => q.elim (by omega) (fun q => q e)), if_neg (show ¬ (b = w' ∨ ¬ t = mB b s) from fun q => q.elim (by omega) (fun q => q e))]
    · rw [if_pos (.inr e), if_pos (.inr e)]
theorem addS_cg {nb : Nat} {mB : Nat → Nat → Nat} {w w' : Nat} {M : Nat → Nat} (h : nb ≤ w) (h' : nb ≤ w') : ∀ s, addS nb mB w M s = addS nb mB w' M s
  | 0 => rfl
  | s + 1 => by
    funext t
    show addB mB w s (M s) (addS nb mB w M s) nb t = addB mB w' s (M s) (addS nb mB w' M s) nb t
    rw [addS_cg h h' s]; exact addB_cg nb h h'
theorem rN_cg {nb : Nat} {mB : Nat → Nat → Nat} {fr w w' : Nat} (h : nb ≤ w) (h' : nb ≤ w') : ∀ k, rN nb mB fr w k = rN nb mB fr w' k
  | 0 => rfl
  | k + 1 => by
    funext t
    show addS nb mB w (rN nb mB fr w k) 512 t = addS nb mB w' (rN nb mB fr w' k) 512 t
    rw [rN_cg h h' k, addS_cg h h']
theorem bit_or {x b w : Nat} (hx : x < 64) (hb : b < 6) (hw : w < 6) : bitN (x ||| 2 ^ b) w = (bitN x w || decide (b = w)) := (by decide +kernel : ∀ x, x < 64 → ∀ b, b < 6 → ∀ w, w < 6 → bitN (x ||| 2 ^ b) w = (bitN x w || decide (b = w))) x hx b hb w hw
theorem bit_and {x y w : Nat} : bitN (x &&& y) w = (bitN x w && bitN y w) := by
  have k : ∀ z : Nat, bitN z w = z.testBit w := fun z => by rw [Nat.testBit_eq_decide_div_mod_eq]; rfl
  rw [k, k, k, Nat.testBit_and]
theorem or_64 {x b : Nat} (hx : x < 64) (hb : b < 6) : x ||| 2 ^ b < 64 := (by decide +kernel : ∀ x, x < 64 → ∀ b, b < 6 → x ||| 2 ^ b < 64) x hx b hb
theorem and_64 {x y : Nat} (hx : x < 64) : x &&& y < 64 := Nat.lt_of_le_of_lt Nat.and_le_left hx
theorem i_or {x b : Nat} (hx : x < 64) (hb : b < 6) : nI x ||| (nI 1 <<< (nI b &&& 31)) = nI (x ||| 2 ^ b) := (by decide +kernel : ∀ x, x < 64 → ∀ b, b < 6 → nI x ||| (nI 1 <<< (nI b &&& 31)) = nI (x ||| 2 ^ b)) x hx b hb
theorem i_and {x y : Nat} (hx : x < 64) (hy : y < 64) : nI x &&& nI y = nI (x &&& y) := (by decide +kernel : ∀ x, x < 64 → ∀ y, y < 64 → nI x &&& nI y = nI (x &&& y)) x hx y hy
/-- the word whose bits are so -/
def boN (a b c d e f : Bool) : Nat := a.toNat + 2 * b.toNat + 4 * c.toNat + 8 * d.toNat + 16 * e.toNat + 32 * f.toNat
def bitsN (q : Nat → Bool) : Nat := boN (q 0) (q 1) (q 2) (q 3) (q 4) (q 5)
theorem boN_lt (a b c d e f : Bool) : boN a b c d e f < 64 := (by decide +kernel : ∀ a b c d e f, boN a b c d e f < 64) a b c d e f
theorem w_ext {x : Nat} {q : Nat → Bool} (hx : x < 64) (h : ∀ w, w < 6 → bitN x w = q w) : x = bitsN q := by
  have k := (by decide +kernel : ∀ x, x < 64 → x = boN (bitN x 0) (bitN x 1) (bitN x 2) (bitN x 3) (bitN x 4) (bitN x 5)) x hx
  rw [k, bitsN, h 0 (by decide), h 1 (by decide), h 2 (by decide), h 3 (by decide), h 4 (by decide), h 5 (by decide)]
/-- the accumulated counts A w (w: whom they are without), and the words of who is in each -/
def AccI (A : Nat → Nat → Nat) (gn gj : Nat → Int32) : Prop := ∀ t, t < 512 → gn t = nI (A 7 t) ∧ (∀ w, A w t ≤ A 7 t) ∧ (0 < A 7 t → ∃ e, e < 64 ∧ gj t = nI e ∧ ∀ w, w < 6 → bitN e w = decide (A w t = 0))
theorem AccI.cg {A A' : Nat → Nat → Nat} {gn gj : Nat → Int32} (h : AccI A gn gj) (hc : ∀ w t, A' w t = A w t) : AccI A' gn gj := by
  rw [show A' = A from by funext w t; exact hc w t]; exact h
theorem AccI.step {A : Nat → Nat → Nat} {c : Nat → Nat} {gn gj : Nat → Int32} {to b e : Nat} (h : AccI A gn gj) (hb : b < 6) (hc : ∀ w, c w ≤ c 7) (hp : 0 < c 7) (he : e < 64) (heb : ∀ w, w < 6 → bitN e w = decide (c w = 0)) (hto : to < 512) : AccI (fun w t => A w t + (if b = w ∨ ¬ t = to then 0 else c w)) (upd gn to (nI (A 7 to + c 7))) (upd gj to (if A 7 to = 0 then nI (e ||| 2 ^ b) else gj to &&& nI (e ||| 2 ^ b))) := by
  intro t ht
  obtain ⟨h1, h2, h3⟩ := h t ht
  by_cases q : t = to
  · subst q
    simp only [upd, if_pos, not_true_eq_false, or_false]
    rw [if_neg (show ¬ b = 7 by omega)]
    refine ⟨trivial, fun w => ?_, fun _ => ?_⟩
    · have := h2 w; have := hc w
      split <;> omega
    · by_cases z : A 7 t = 0
      · rw [if_pos z]
        refine ⟨_, or_64 he hb, rfl, fun w hw => ?_⟩
        rw [bit_or he hb hw, heb w hw]
        have := h2 w
        by_cases bw : b = w
        · rw [if_pos bw]; simp [bw]; omega
        · rw [if_neg bw]
          simp [bw]; omega
      · rw [if_neg z]
        obtain ⟨e2, x1, x2, x3⟩ := h3 (by omega)
        rw [x2, i_and x1 (or_64 he hb)]
        refine ⟨_, and_64 x1, rfl, fun w hw => ?_⟩
        rw [bit_and, bit_or he hb hw, heb w hw, x3 w hw]
        by_cases bw : b = w
        · rw [if_pos bw]; simp [bw]
        · rw [if_neg bw]
          simp [bw]
  · simp only [upd, if_neg q]
    have k : ∀ w, (if b = w ∨ ¬ t = to then 0 else c w) = 0 := fun w => if_pos (.inr q)
    simp only [k, Nat.add_zero]
    exact ⟨h1, h2, h3⟩
def RoD (r m i n j : Nat) : Prop := (m = r + 1 ∧ i = r + 2 ∧ n = r + 3 ∧ j = r + 4) ∨ (m = r + 3 ∧ i = r + 4 ∧ n = r + 1 ∧ j = r + 2)
def RRq (G : aG) (r w : Nat) (A : Nat → Nat → Nat) (σ : aS) : Prop := ∃ (m i n j : Nat) (gm gi gn gj : Nat → Int32), RoD r m i n j ∧ σ.2 r = some (aO 3 [.ref w, .ref m, .ref i, .ref n, .ref j]) ∧ σ.2 m = some (aI G 512 gm) ∧ σ.2 i = some (aI G 512 gi) ∧ σ.2 n = some (aI G 512 gn) ∧ σ.2 j = some (aI G 512 gj) ∧ AccI A gm gi
def RRo (G : aG) (r w : Nat) (σ : aS) : Prop := ∃ (m i n j : Nat) (gm gi gn gj : Nat → Int32), RoD r m i n j ∧ σ.2 r = some (aO 3 [.ref w, .ref m, .ref i, .ref n, .ref j]) ∧ σ.2 m = some (aI G 512 gm) ∧ σ.2 i = some (aI G 512 gi) ∧ σ.2 n = some (aI G 512 gn) ∧ σ.2 j = some (aI G 512 gj)
theorem RRq.o {G : aG} {r w : Nat} {A : Nat → Nat → Nat} {σ : aS} (h : RRq G r w A σ) : RRo G r w σ := by
  obtain ⟨m, i, n, j, gm, gi, gn, gj, h0, h1, h2, h3, h4, h5, _⟩ := h
  exact ⟨m, i, n, j, gm, gi, gn, gj, h0, h1, h2, h3, h4, h5⟩
theorem RRo.kept {G : aG} {r w : Nat} {σ σ' : aS} (h : RRo G r w σ) (hk : ∀ a, r ≤ a → a < r + 5 → σ'.2 a = σ.2 a) : RRo G r w σ' := by
  obtain ⟨m, i, n, j, gm, gi, gn, gj, h0, h1, h2, h3, h4, h5⟩ := h
  unfold RoD at h0
  exact ⟨m, i, n, j, gm, gi, gn, gj, h0, (hk _ (by omega) (by omega)).trans h1, (hk _ (by omega) (by omega)).trans h2, (hk _ (by omega) (by omega)).trans h3, (hk _ (by omega) (by omega)).trans h4, (hk _ (by omega) (by omega)).trans h5⟩
/-- who is in each row of loans -/
def inV (nb : Nat) (mB : Nat → Nat → Nat) (fr k t : Nat) : Int32 := if rN nb mB fr 7 k t = 0 then 0 else nI (bitsN fun w => decide (rN nb mB fr w k t = 0))
set_option maxRecDepth 100000 in
set_option maxHeartbeats 1000000 in
theorem ct_howManyTo (l : Launch) (G : aG) {r w nb fr k t : Nat} {B : Nat → Nat × Nat × Nat × Nat} {σ : aS} (hr : RRq G r w (fun w => rN nb (mkB B) fr w k) σ) (ht : t < 512) : ACt l G yX3_howManyTo cX3_howManyTo 2 (some .int) 1 0 0 [.ref r, .int (nI t)] σ (dP (some (.int (nI (rN nb (mkB B) fr 7 k t)))) σ) := by
  obtain ⟨m, i, n, j, gm, gi, gn, gj, hd, o0, o1, o2, o3, o4, hA⟩ := id hr
  refine ACt.intro (own := RX3) (nm := "howManyTo") mk_X3_howManyTo rfl rfl [some (.ref r), some (.int (nI t))] rfl (Nat.le_of_ble_eq_true rfl) (fun X hX hR => ?_)
  refine A_aload_n (pc := 0) rfl hX dX3_howManyTo_0 ?_
  refine A_getf (pc := 1) hX fl_X3_9_3 dX3_howManyTo_1 (by repeat (first | assumption | exact aSet_s | exact aNew_s | refine lk_n ?_ (by omega) | refine lk_f (by assumption) ?_ (by omega) | refine lk_w ?_ (by omega))) (by exact rfl) ?_
  refine A_iload_n (pc := 4) rfl hX dX3_howManyTo_4 ?_
  refine A_S2d (pc := 5) hX mk_X11_at ls_X3_28 dX3_howManyTo_5 (ct_at l G (by repeat (first | assumption | exact aSet_s | exact aNew_s | refine lk_n ?_ (by omega) | refine lk_f (by assumption) ?_ (by omega) | refine lk_w ?_ (by omega))) (by decide)) rfl (Nat.le_of_ble_eq_true rfl) (Nat.le_of_ble_eq_true rfl) (Nat.le_of_ble_eq_true rfl) (Nat.le_of_ble_eq_true rfl) (Nat.le_of_ble_eq_true rfl) ?_
  refine A_top (y := nI (rN nb (mkB B) fr 7 k t)) (by rw [atS_nI ht (by decide)]; exact (hA t ht).1) ?_
  refine A_iret (pc := 8) hX hR dX3_howManyTo_8 rfl rfl ?_
  exact ⟨rfl, rfl⟩
set_option maxRecDepth 100000 in
set_option maxHeartbeats 1000000 in
theorem ct_inEachTo (l : Launch) (G : aG) {r w nb fr k t : Nat} {B : Nat → Nat × Nat × Nat × Nat} {σ : aS} (hr : RRq G r w (fun w => rN nb (mkB B) fr w k) σ) (ht : t < 512) (hnb : nb ≤ 6) (hk : k ≤ 6) : ACt l G yX3_inEachTo cX3_inEachTo 2 (some .int) 1 0 0 [.ref r, .int (nI t)] σ (dP (some (.int (inV nb (mkB B) fr k t))) σ) := by
  obtain ⟨m, i, n, j, gm, gi, gn, gj, hd, o0, o1, o2, o3, o4, hA⟩ := id hr
  obtain ⟨g1, g2, g3⟩ := hA t ht
  have hbd : rN nb (mkB B) fr 7 k t ≤ 46656 := Nat.le_trans (Nat.le_trans (sum_ge ht) (rN_sum hnb k)) (p6_k hk)
  refine ACt.intro (own := RX3) (nm := "inEachTo") mk_X3_inEachTo rfl rfl [some (.ref r), some (.int (nI t))] rfl (Nat.le_of_ble_eq_true rfl) (fun X hX hR => ?_)
  refine A_aload_n (pc := 0) rfl hX dX3_inEachTo_0 ?_
  refine A_getf (pc := 1) hX fl_X3_9_3 dX3_inEachTo_1 (by repeat (first | assumption | exact aSet_s | exact aNew_s | refine lk_n ?_ (by omega) | refine lk_f (by assumption) ?_ (by omega) | refine lk_w ?_ (by omega))) (by exact rfl) ?_
  refine A_iload_n (pc := 4) rfl hX dX3_inEachTo_4 ?_
  refine A_S2d (pc := 5) hX mk_X11_at ls_X3_28 dX3_inEachTo_5 (ct_at l G (by repeat (first | assumption | exact aSet_s | exact aNew_s | refine lk_n ?_ (by omega) | refine lk_f (by assumption) ?_ (by omega) | refine lk_w ?_ (by omega))) (by decide)) rfl (Nat.le_of_ble_eq_true rfl) (Nat.le_of_ble_eq_true rfl) (Nat.le_of_ble_eq_true rfl) (Nat.le_of_ble_eq_true rfl) (Nat.le_of_ble_eq_true rfl) ?_
  refine A_top (y := nI (rN nb (mkB B) fr 7 k t)) (by rw [atS_nI ht (by decide)]; exact g1) ?_
  refine A_if_ne (pc := 8) 15 hX dX3_inEachTo_8 rfl (fun c8 => ?_) (fun c8 => ?_)
  · have hp : 0 < rN nb (mkB B) fr 7 k t := by
      rcases Nat.eq_zero_or_pos (rN nb (mkB B) fr 7 k t) with q | q
      · exact absurd (by rw [q]; rfl) c8
      · exact q
    obtain ⟨e, e1, e2, e3⟩ := g3 hp
    refine A_aload_n (pc := 15) rfl hX dX3_inEachTo_15 ?_
    refine A_getf (pc := 16) hX fl_X3_15_3 dX3_inEachTo_16 (by repeat (first | assumption | exact aSet_s | exact aNew_s | refine lk_n ?_ (by omega) | refine lk_f (by assumption) ?_ (by omega) | refine lk_w ?_ (by omega))) (by exact rfl) ?_
    refine A_iload_n (pc := 19) rfl hX dX3_inEachTo_19 ?_
    refine A_S2d (pc := 20) hX mk_X11_at ls_X3_28 dX3_inEachTo_20 (ct_at l G (by repeat (first | assumption | exact aSet_s | exact aNew_s | refine lk_n ?_ (by omega) | refine lk_f (by assumption) ?_ (by omega) | refine lk_w ?_ (by omega))) (by decide)) rfl (Nat.le_of_ble_eq_true rfl) (Nat.le_of_ble_eq_true rfl) (Nat.le_of_ble_eq_true rfl) (Nat.le_of_ble_eq_true rfl) (Nat.le_of_ble_eq_true rfl) ?_
    refine A_iret (pc := 23) hX hR dX3_inEachTo_23 rfl rfl ?_
    exact ⟨by rw [atS_nI ht (by decide), e2, w_ext e1 e3, inV, if_neg (show ¬ rN nb (mkB B) fr 7 k t = 0 by omega)], rfl⟩
  · have hz := (nI_eq (b := 0) (by omega) (by decide)).mp c8
    refine A_iconst (pc := 11) (v := (nI 0)) (by decide) hX dX3_inEachTo_11 ?_
    refine A_goto (pc := 12) 23 hX dX3_inEachTo_12 rfl ?_
    refine A_iret (pc := 23) hX hR dX3_inEachTo_23 rfl rfl ?_
    exact ⟨by rw [inV, if_pos hz]; rfl, rfl⟩
set_option maxRecDepth 100000 in
set_option maxHeartbeats 1000000 in
theorem ct_stepOn (l : Launch) (G : aG) {r w m i n j : Nat} {σ : aS} (h : σ.2 r = some (aO 3 [.ref w, .ref m, .ref i, .ref n, .ref j])) : ACt l G yX3_stepOn cX3_stepOn 2 (none) 0 0 0 [.ref r] σ (vP (fun σ' => σ'.2 r = some (aO 3 [.ref w, .ref n, .ref j, .ref m, .ref i]) ∧ Fr r (r + 1) σ σ')) := by
  refine ACt.intro (own := RX3) (nm := "stepOn") mk_X3_stepOn rfl rfl [some (.ref r), none] rfl (Nat.le_of_ble_eq_true rfl) (fun X hX hR => ?_)
  refine A_aload_n (pc := 0) rfl hX dX3_stepOn_0 ?_
  refine A_getf (pc := 1) hX fl_X3_9_3 dX3_stepOn_1 (by repeat (first | assumption | exact aSet_s | exact aNew_s | refine lk_n ?_ (by omega) | refine lk_f (by assumption) ?_ (by omega) | refine lk_w ?_ (by omega))) (by exact rfl) ?_
  refine A_astore_n (pc := 4) (lv' := [_, _]) hX dX3_stepOn_4 (Nat.le_of_ble_eq_true rfl) rfl rfl ?_
  refine A_aload_n (pc := 5) rfl hX dX3_stepOn_5 ?_
  refine A_aload_n (pc := 6) rfl hX dX3_stepOn_6 ?_
  refine A_getf (pc := 7) hX fl_X3_18_3 dX3_stepOn_7 (by repeat (first | assumption | exact aSet_s | exact aNew_s | refine lk_n ?_ (by omega) | refine lk_f (by assumption) ?_ (by omega) | refine lk_w ?_ (by omega))) (by exact rfl) ?_
  refine A_putf (pc := 10) (fs' := [_, _, _, _, _]) hX pl_X3_9_3 dX3_stepOn_10 (by repeat (first | assumption | exact aSet_s | exact aNew_s | refine lk_n ?_ (by omega) | refine lk_f (by assumption) ?_ (by omega) | refine lk_w ?_ (by omega))) (by exact Nat.le_of_ble_eq_true rfl) (by exact rfl) rfl rfl ?_
  refine A_aload_n (pc := 13) rfl hX dX3_stepOn_13 ?_
  refine A_aload_n (pc := 14) rfl hX dX3_stepOn_14 ?_
  refine A_putf (pc := 15) (fs' := [_, _, _, _, _]) hX pl_X3_18_3 dX3_stepOn_15 (by repeat (first | assumption | exact aSet_s | exact aNew_s | refine lk_n ?_ (by omega) | refine lk_f (by assumption) ?_ (by omega) | refine lk_w ?_ (by omega))) (by exact Nat.le_of_ble_eq_true rfl) (by exact rfl) rfl rfl ?_
  refine A_aload_n (pc := 18) rfl hX dX3_stepOn_18 ?_
  refine A_getf (pc := 19) hX fl_X3_15_3 dX3_stepOn_19 (by repeat (first | assumption | exact aSet_s | exact aNew_s | refine lk_n ?_ (by omega) | refine lk_f (by assumption) ?_ (by omega) | refine lk_w ?_ (by omega))) (by exact rfl) ?_
  refine A_astore_n (pc := 22) (lv' := [_, _]) hX dX3_stepOn_22 (Nat.le_of_ble_eq_true rfl) rfl rfl ?_
  refine A_aload_n (pc := 23) rfl hX dX3_stepOn_23 ?_
  refine A_aload_n (pc := 24) rfl hX dX3_stepOn_24 ?_
  refine A_getf (pc := 25) hX fl_X3_21_3 dX3_stepOn_25 (by repeat (first | assumption | exact aSet_s | exact aNew_s | refine lk_n ?_ (by omega) | refine lk_f (by assumption) ?_ (by omega) | refine lk_w ?_ (by omega))) (by exact rfl) ?_
  refine A_putf (pc := 28) (fs' := [_, _, _, _, _]) hX pl_X3_15_3 dX3_stepOn_28 (by repeat (first | assumption | exact aSet_s | exact aNew_s | refine lk_n ?_ (by omega) | refine lk_f (by assumption) ?_ (by omega) | refine lk_w ?_ (by omega))) (by exact Nat.le_of_ble_eq_true rfl) (by exact rfl) rfl rfl ?_
  refine A_aload_n (pc := 31) rfl hX dX3_stepOn_31 ?_
  refine A_aload_n (pc := 32) rfl hX dX3_stepOn_32 ?_
  refine A_putf (pc := 33) (fs' := [_, _, _, _, _]) hX pl_X3_21_3 dX3_stepOn_33 (by repeat (first | assumption | exact aSet_s | exact aNew_s | refine lk_n ?_ (by omega) | refine lk_f (by assumption) ?_ (by omega) | refine lk_w ?_ (by omega))) (by exact Nat.le_of_ble_eq_true rfl) (by exact rfl) rfl rfl ?_
  refine A_ret (pc := 36) hX hR dX3_stepOn_36 ?_
  exact ⟨rfl, (by repeat (first | assumption | exact aSet_s | exact aNew_s | refine lk_n ?_ (by omega) | refine lk_f (by assumption) ?_ (by omega) | refine lk_w ?_ (by omega))), (by repeat (first | exact Fr.rf | refine Fr.set ?_ (by omega) (by omega) | refine Fr.tr ?_ (Fr.wd (by assumption) (by omega) (by omega))))⟩
