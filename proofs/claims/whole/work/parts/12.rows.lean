/-! the rows of loans: how many, and who is in each; r the object, r + 1 to r + 4 its rows of numbers -/
def addB (mB : Nat → Nat → Nat) (w s c : Nat) (A : Nat → Nat) : Nat → Nat → Nat
  | 0, t => A t
  | b + 1, t => addB mB w s c A b t + (if b = w ∨ ¬ t = mB b s then 0 else c)
def addS (nb : Nat) (mB : Nat → Nat → Nat) (w : Nat) (M : Nat → Nat) : Nat → Nat → Nat
  | 0, _ => 0
  | s + 1, t => addB mB w s (M s) (addS nb mB w M s) nb t
def rN (nb : Nat) (mB : Nat → Nat → Nat) (fr w : Nat) : Nat → Nat → Nat
  | 0, t => if t = fr then 1 else 0
  | k + 1, t => addS nb mB w (rN nb mB fr w k) 512 t
theorem rN_s {nb : Nat} {mB : Nat → Nat → Nat} {fr w k t : Nat} : rN nb mB fr w (k + 1) t = addS nb mB w (rN nb mB fr w k) 512 t := by rw [rN]
theorem addS_s {nb : Nat} {mB : Nat → Nat → Nat} {w s t : Nat} {M : Nat → Nat} : addS nb mB w M (s + 1) t = addB mB w s (M s) (addS nb mB w M s) nb t := by rw [addS]
theorem addB_z {mB : Nat → Nat → Nat} {w s : Nat} {A : Nat → Nat} {t : Nat} : ∀ b, addB mB w s 0 A b t = A t
  | 0 => rfl
  | b + 1 => by show addB mB w s 0 A b t + _ = _; rw [addB_z b]; split <;> rfl
theorem sum_one {A : Nat → Nat} {P : Prop} [Decidable P] {to c : Nat} : ∀ n, sumN (fun t => A t + (if P ∨ ¬ t = to then 0 else c)) n ≤ sumN A n + (if to < n then c else 0)
  | 0 => by show 0 ≤ _; omega
  | n + 1 => by
    have ih := sum_one (A := A) (P := P) (to := to) (c := c) n
    show sumN _ n + (A n + _) ≤ (sumN A n + A n) + _
    by_cases e : n = to
    · subst e
      rw [if_neg (Nat.lt_irrefl n)] at ih
      rw [if_pos (Nat.lt_succ_self n)]
      split <;> omega
    · rw [if_pos (show P ∨ ¬ n = to from .inr e)]
      by_cases e2 : to < n
      · rw [if_pos e2] at ih; rw [if_pos (by omega)]; omega
      · rw [if_neg e2] at ih; rw [if_neg (by omega)]; omega
theorem sum_ge {A : Nat → Nat} : ∀ {n t : Nat}, t < n → A t ≤ sumN A n
  | n + 1, t, h => by
    show _ ≤ sumN A n + A n
    by_cases e : t = n
    · subst e; omega
    · have := sum_ge (A := A) (n := n) (t := t) (by omega); omega
theorem sum_mono {A : Nat → Nat} : ∀ {n m : Nat}, n ≤ m → sumN A n ≤ sumN A m
  | n, 0, h => by rw [show n = 0 by omega]; exact Nat.le_refl _
  | n, m + 1, h => by
    by_cases e : n = m + 1
    · subst e; exact Nat.le_refl _
    · exact Nat.le_trans (sum_mono (A := A) (n := n) (m := m) (by omega)) (Nat.le_add_right _ _)
theorem addB_sum {mB : Nat → Nat → Nat} {w s c : Nat} {A : Nat → Nat} : ∀ b, sumN (addB mB w s c A b) 512 ≤ sumN A 512 + b * c
  | 0 => by show sumN A 512 ≤ _; omega
  | b + 1 => by
    have ih := addB_sum (mB := mB) (w := w) (s := s) (c := c) (A := A) b
    have h := sum_one (A := addB mB w s c A b) (P := b = w) (to := mB b s) (c := c) 512
    have : sumN (addB mB w s c A (b + 1)) 512 ≤ sumN (addB mB w s c A b) 512 + c := Nat.le_trans h (by split <;> omega)
    rw [Nat.succ_mul]; omega
theorem sum_zero : ∀ n, sumN (fun _ => 0) n = 0
  | 0 => rfl
  | n + 1 => by show sumN _ n + 0 = 0; rw [sum_zero n]
theorem addS_sum {nb : Nat} {mB : Nat → Nat → Nat} {w : Nat} {M : Nat → Nat} (hnb : nb ≤ 6) : ∀ s, sumN (addS nb mB w M s) 512 ≤ 6 * sumN M s
  | 0 => by show sumN (fun _ => 0) 512 ≤ _; rw [sum_zero]; omega
  | s + 1 => by
    have ih := addS_sum (mB := mB) (w := w) (M := M) hnb s
    have h := addB_sum (mB := mB) (w := w) (s := s) (c := M s) (A := addS nb mB w M s) nb
    have e : sumN (addS nb mB w M (s + 1)) 512 = sumN (addB mB w s (M s) (addS nb mB w M s) nb) 512 := rfl
    have e2 : sumN M (s + 1) = sumN M s + M s := rfl
    have : nb * M s ≤ 6 * M s := Nat.mul_le_mul_right _ hnb
    omega
theorem rN_sum {nb : Nat} {mB : Nat → Nat → Nat} {fr w : Nat} (hnb : nb ≤ 6) : ∀ k, sumN (rN nb mB fr w k) 512 ≤ 6 ^ k
  | 0 => by
    have := sum_one (A := fun _ => 0) (P := False) (to := fr) (c := 1) 512
    have e : sumN (rN nb mB fr w 0) 512 = sumN (fun t => (fun _ => 0) t + (if False ∨ ¬ t = fr then 0 else 1)) 512 := by
      congr 1
      funext t
      simp only [rN, false_or, Nat.zero_add]
      split <;> simp_all
    rw [e]
    rw [sum_zero] at this
    refine Nat.le_trans this ?_
    split <;> decide
  | k + 1 => by
    have ih := rN_sum (mB := mB) (fr := fr) (w := w) hnb k
    have := addS_sum (mB := mB) (w := w) (M := rN nb mB fr w k) hnb 512
    have e : sumN (rN nb mB fr w (k + 1)) 512 = sumN (addS nb mB w (rN nb mB fr w k) 512) 512 := rfl
    rw [e, Nat.pow_succ]; omega
theorem addB_bd {nb : Nat} {mB : Nat → Nat → Nat} {M : Nat → Nat} {s to b : Nat} (hnb : nb ≤ 6) (hs : s < 512) (hto : to < 512) (hb : b < nb) (hM : sumN M 512 ≤ 46656) : addB mB 7 s (M s) (addS nb mB 7 M s) b to < 2 ^ 31 := by
  have y1 := addB_sum (mB := mB) (w := 7) (s := s) (c := M s) (A := addS nb mB 7 M s) b
  have y2 := addS_sum (mB := mB) (w := 7) (M := M) hnb s
  have y3 := sum_mono (A := M) (n := s) (m := 512) (by omega)
  have y4 : b * M s ≤ 6 * M s := Nat.mul_le_mul_right _ (by omega)
  have y5 := sum_ge (A := addB mB 7 s (M s) (addS nb mB 7 M s) b) hto
  have y6 := sum_ge (A := M) hs
  generalize sumN (addB mB 7 s (M s) (addS nb mB 7 M s) b) 512 = z1 at *
  generalize sumN M 512 = z2 at *
  generalize sumN (addS nb mB 7 M s) 512 = z3 at *
  generalize b * M s = z4 at *
  omega
theorem p6_k {k : Nat} (h : k ≤ 6) : 6 ^ k ≤ 46656 := Nat.pow_le_pow_right (n := 6) (by decide) h
theorem rN_sb {nb : Nat} {mB : Nat → Nat → Nat} {fr w k : Nat} (hnb : nb ≤ 6) (hk : k ≤ 6) : sumN (rN nb mB fr w k) 512 ≤ 46656 := Nat.le_trans (rN_sum hnb k) (p6_k hk)
theorem rN_bd {nb : Nat} {mB : Nat → Nat → Nat} {fr w k s : Nat} (hnb : nb ≤ 6) (hk : k ≤ 6) (hs : s < 512) : rN nb mB fr w k s ≤ 46656 := Nat.le_trans (sum_ge hs) (rN_sb hnb hk)
theorem addB_mono {mB : Nat → Nat → Nat} {w s c c' : Nat} {A A' : Nat → Nat} (hc : c ≤ c') {t : Nat} (hA : A t ≤ A' t) : ∀ b, b ≤ 6 → addB mB w s c A b t ≤ addB mB 7 s c' A' b t
  | 0, _ => hA
  | b + 1, h => by
    have ih := addB_mono (mB := mB) (w := w) (s := s) hc hA b (by omega)
    show addB mB w s c A b t + _ ≤ addB mB 7 s c' A' b t + _
    by_cases e : t = mB b s
    · rw [if_neg (show ¬ (b = 7 ∨ ¬ t = mB b s) from fun q => q.elim (by omega) (fun q => q e))]
      split <;> omega
    · rw [if_pos (.inr e), if_pos (.inr e)]; omega
theorem addS_mono {nb : Nat} {mB : Nat → Nat → Nat} {w : Nat} {M M' : Nat → Nat} (hnb : nb ≤ 6) (hM : ∀ s, M s ≤ M' s) : ∀ s t, addS nb mB w M s t ≤ addS nb mB 7 M' s t
  | 0, t => Nat.le_refl _
  | s + 1, t => addB_mono (hM s) (addS_mono hnb hM s t) nb hnb
theorem rN_mono {nb : Nat} {mB : Nat → Nat → Nat} {fr w : Nat} (hnb : nb ≤ 6) : ∀ k t, rN nb mB fr w k t ≤ rN nb mB fr 7 k t
  | 0, t => Nat.le_refl _
  | k + 1, t => addS_mono hnb (fun s => rN_mono hnb k s) 512 t
theorem addB_cg {mB : Nat → Nat → Nat} {w w' s c : Nat} {A : Nat → Nat} {t : Nat} : ∀ b, b ≤ w → b ≤ w' → addB mB w s c A b t = addB mB w' s c A b t
  | 0, _, _ => rfl
  | b + 1, h, h' => by
    show addB mB w s c A b t + _ = addB mB w' s c A b t + _
    rw [addB_cg (w := w) (w' := w') b (by omega) (by omega)]
    by_cases e : t = mB b s
    · rw [if_neg (show ¬ (b = w ∨ ¬ t = mB b s) from fun q => q.elim (by omega) (fun q => q e)), if_neg (show ¬ (b = w' ∨ ¬ t = mB b s) from fun q => q.elim (by omega) (fun q => q e))]
    · rw [if_pos (.inr e), if_pos (.inr e)]
theorem addS_cg {nb : Nat} {mB : Nat → Nat → Nat} {w w' : Nat} {M : Nat → Nat} (h : nb ≤ w) (h' : nb ≤ w') : ∀ s, addS nb mB w M s = addS nb mB w' M s
  | 0 => rfl
  | s + 1 => by
    funext t
    show addB mB w s (M s) (addS nb mB w M s) nb t = addB mB w' s (M s) (addS nb mB w' M s) nb t
    rw [addS_cg h h' s]; exact addB_cg nb h h'
theorem rN_cg {nb : Nat} {mB : Nat → Nat → Nat} {fr w w' : Nat} (h : nb ≤ w) (h' : nb ≤ w') : ∀ k, rN nb mB fr w k = rN nb mB fr w' k
  | 0 => rfl
  | k + 1 => by
    funext t
    show addS nb mB w (rN nb mB fr w k) 512 t = addS nb mB w' (rN nb mB fr w' k) 512 t
    rw [rN_cg h h' k, addS_cg h h']
theorem bit_or {x b w : Nat} (hx : x < 64) (hb : b < 6) (hw : w < 6) : bitN (x ||| 2 ^ b) w = (bitN x w || decide (b = w)) := (by decide +kernel : ∀ x, x < 64 → ∀ b, b < 6 → ∀ w, w < 6 → bitN (x ||| 2 ^ b) w = (bitN x w || decide (b = w))) x hx b hb w hw
theorem bit_and {x y w : Nat} : bitN (x &&& y) w = (bitN x w && bitN y w) := by
  have k : ∀ z : Nat, bitN z w = z.testBit w := fun z => by rw [Nat.testBit_eq_decide_div_mod_eq]; rfl
  rw [k, k, k, Nat.testBit_and]
theorem or_64 {x b : Nat} (hx : x < 64) (hb : b < 6) : x ||| 2 ^ b < 64 := (by decide +kernel : ∀ x, x < 64 → ∀ b, b < 6 → x ||| 2 ^ b < 64) x hx b hb
theorem and_64 {x y : Nat} (hx : x < 64) : x &&& y < 64 := Nat.lt_of_le_of_lt Nat.and_le_left hx
theorem i_or {x b : Nat} (hx : x < 64) (hb : b < 6) : nI x ||| (nI 1 <<< (nI b &&& 31)) = nI (x ||| 2 ^ b) := (by decide +kernel : ∀ x, x < 64 → ∀ b, b < 6 → nI x ||| (nI 1 <<< (nI b &&& 31)) = nI (x ||| 2 ^ b)) x hx b hb
theorem i_and {x y : Nat} (hx : x < 64) (hy : y < 64) : nI x &&& nI y = nI (x &&& y) := (by decide +kernel : ∀ x, x < 64 → ∀ y, y < 64 → nI x &&& nI y = nI (x &&& y)) x hx y hy
/-- the word whose bits are so -/
def boN (a b c d e f : Bool) : Nat := a.toNat + 2 * b.toNat + 4 * c.toNat + 8 * d.toNat + 16 * e.toNat + 32 * f.toNat
def bitsN (q : Nat → Bool) : Nat := boN (q 0) (q 1) (q 2) (q 3) (q 4) (q 5)
theorem boN_lt (a b c d e f : Bool) : boN a b c d e f < 64 := (by decide +kernel : ∀ a b c d e f, boN a b c d e f < 64) a b c d e f
theorem w_ext {x : Nat} {q : Nat → Bool} (hx : x < 64) (h : ∀ w, w < 6 → bitN x w = q w) : x = bitsN q := by
  have k := (by decide +kernel : ∀ x, x < 64 → x = boN (bitN x 0) (bitN x 1) (bitN x 2) (bitN x 3) (bitN x 4) (bitN x 5)) x hx
  rw [k, bitsN, h 0 (by decide), h 1 (by decide), h 2 (by decide), h 3 (by decide), h 4 (by decide), h 5 (by decide)]
/-- the accumulated counts A w (w: whom they are without), and the words of who is in each -/
def AccI (A : Nat → Nat → Nat) (gn gj : Nat → Int32) : Prop := ∀ t, t < 512 → gn t = nI (A 7 t) ∧ (∀ w, A w t ≤ A 7 t) ∧ (0 < A 7 t → ∃ e, e < 64 ∧ gj t = nI e ∧ ∀ w, w < 6 → bitN e w = decide (A w t = 0))
theorem AccI.cg {A A' : Nat → Nat → Nat} {gn gj : Nat → Int32} (h : AccI A gn gj) (hc : ∀ w t, A' w t = A w t) : AccI A' gn gj := by
  rw [show A' = A from by funext w t; exact hc w t]; exact h
theorem AccI.step {A : Nat → Nat → Nat} {c : Nat → Nat} {gn gj : Nat → Int32} {to b e : Nat} (h : AccI A gn gj) (hb : b < 6) (hc : ∀ w, c w ≤ c 7) (hp : 0 < c 7) (he : e < 64) (heb : ∀ w, w < 6 → bitN e w = decide (c w = 0)) (hto : to < 512) : AccI (fun w t => A w t + (if b = w ∨ ¬ t = to then 0 else c w)) (upd gn to (nI (A 7 to + c 7))) (upd gj to (if A 7 to = 0 then nI (e ||| 2 ^ b) else gj to &&& nI (e ||| 2 ^ b))) := by
  intro t ht
  obtain ⟨h1, h2, h3⟩ := h t ht
  by_cases q : t = to
  · subst q
    simp only [upd, if_pos, not_true_eq_false, or_false]
    rw [if_neg (show ¬ b = 7 by omega)]
    refine ⟨rfl, fun w => ?_, fun _ => ?_⟩
    · have := h2 w; have := hc w
      split <;> omega
    · by_cases z : A 7 t = 0
      · rw [if_pos z]
        refine ⟨_, or_64 he hb, rfl, fun w hw => ?_⟩
        rw [bit_or he hb hw, heb w hw]
        have := h2 w
        by_cases bw : b = w
        · rw [if_pos bw]; simp [bw]; omega
        · rw [if_neg bw]
          simp [bw]; omega
      · rw [if_neg z]
        obtain ⟨e2, x1, x2, x3⟩ := h3 (by omega)
        rw [x2, i_and x1 (or_64 he hb)]
        refine ⟨_, and_64 x1, rfl, fun w hw => ?_⟩
        rw [bit_and, bit_or he hb hw, heb w hw, x3 w hw]
        by_cases bw : b = w
        · rw [if_pos bw]; simp [bw]
        · rw [if_neg bw]
          simp [bw]
  · simp only [upd, if_neg q]
    have k : ∀ w, (if b = w ∨ ¬ t = to then 0 else c w) = 0 := fun w => if_pos (.inr q)
    simp only [k, Nat.add_zero]
    exact ⟨h1, h2, h3⟩
theorem rN_0 {nb : Nat} {mB : Nat → Nat → Nat} {fr w t : Nat} : rN nb mB fr w 0 t = if t = fr then 1 else 0 := by rw [rN]
theorem addS_0 {nb : Nat} {mB : Nat → Nat → Nat} {w t : Nat} {M : Nat → Nat} : addS nb mB w M 0 t = 0 := by rw [addS]
theorem AccI.zero {nb : Nat} {mB : Nat → Nat → Nat} {M : Nat → Nat → Nat} {gn gj : Nat → Int32} : AccI (fun w => addS nb mB w (M w) 0) (fun j => if j < 512 then nI 0 else gn j) gj := by
  intro t ht
  simp only [addS_0]
  exact ⟨if_pos ht, fun w => Nat.le_refl _, fun q => absurd q (Nat.lt_irrefl 0)⟩
theorem AccI.one {nb : Nat} {mB : Nat → Nat → Nat} {fr : Nat} {gm gi : Nat → Int32} : AccI (fun w => rN nb mB fr w 0) (upd (fun j => if j < 512 then nI 0 else gm j) fr (nI 1)) (upd gi fr (nI 0)) := by
  intro t ht
  simp only [rN_0]
  refine ⟨?_, fun w => Nat.le_refl _, fun hp => ?_⟩
  · by_cases e : t = fr
    · subst e; simp [upd]
    · simp [upd, e, ht]
  · have e : t = fr := by
      by_cases e : t = fr
      · exact e
      · simp [e] at hp
    subst e
    refine ⟨0, by decide, by simp [upd], fun w hw => ?_⟩
    rw [if_pos rfl]
    exact (by decide +kernel : ∀ w, w < 6 → bitN 0 w = decide (1 = 0)) w hw
def RoD (r m i n j : Nat) : Prop := (m = r + 1 ∧ i = r + 2 ∧ n = r + 3 ∧ j = r + 4) ∨ (m = r + 3 ∧ i = r + 4 ∧ n = r + 1 ∧ j = r + 2)
def RRq (G : aG) (r w : Nat) (A : Nat → Nat → Nat) (σ : aS) : Prop := ∃ (m i n j : Nat) (gm gi gn gj : Nat → Int32), RoD r m i n j ∧ σ.2 r = some (aO 3 [.ref w, .ref m, .ref i, .ref n, .ref j]) ∧ σ.2 m = some (aI G 512 gm) ∧ σ.2 i = some (aI G 512 gi) ∧ σ.2 n = some (aI G 512 gn) ∧ σ.2 j = some (aI G 512 gj) ∧ AccI A gm gi
def RRo (G : aG) (r w : Nat) (σ : aS) : Prop := ∃ (m i n j : Nat) (gm gi gn gj : Nat → Int32), RoD r m i n j ∧ σ.2 r = some (aO 3 [.ref w, .ref m, .ref i, .ref n, .ref j]) ∧ σ.2 m = some (aI G 512 gm) ∧ σ.2 i = some (aI G 512 gi) ∧ σ.2 n = some (aI G 512 gn) ∧ σ.2 j = some (aI G 512 gj)
theorem RRq.o {G : aG} {r w : Nat} {A : Nat → Nat → Nat} {σ : aS} (h : RRq G r w A σ) : RRo G r w σ := by
  obtain ⟨m, i, n, j, gm, gi, gn, gj, h0, h1, h2, h3, h4, h5, _⟩ := h
  exact ⟨m, i, n, j, gm, gi, gn, gj, h0, h1, h2, h3, h4, h5⟩
theorem RRo.kept {G : aG} {r w : Nat} {σ σ' : aS} (h : RRo G r w σ) (hk : ∀ a, r ≤ a → a < r + 5 → σ'.2 a = σ.2 a) : RRo G r w σ' := by
  obtain ⟨m, i, n, j, gm, gi, gn, gj, h0, h1, h2, h3, h4, h5⟩ := h
  unfold RoD at h0
  exact ⟨m, i, n, j, gm, gi, gn, gj, h0, (hk _ (by omega) (by omega)).trans h1, (hk _ (by omega) (by omega)).trans h2, (hk _ (by omega) (by omega)).trans h3, (hk _ (by omega) (by omega)).trans h4, (hk _ (by omega) (by omega)).trans h5⟩
/-- who is in each row of loans -/
def inV (nb : Nat) (mB : Nat → Nat → Nat) (fr k t : Nat) : Int32 := if rN nb mB fr 7 k t = 0 then 0 else nI (bitsN fun w => decide (rN nb mB fr w k t = 0))
set_option maxRecDepth 100000 in
set_option maxHeartbeats 1000000 in
theorem ct_howManyTo (l : Launch) (G : aG) {r w nb fr k t : Nat} {B : Nat → Nat × Nat × Nat × Nat} {σ : aS} (hr : RRq G r w (fun w => rN nb (mkB B) fr w k) σ) (ht : t < 512) : ACt l G yX3_howManyTo cX3_howManyTo 2 (some .int) 1 0 0 [.ref r, .int (nI t)] σ (dP (some (.int (nI (rN nb (mkB B) fr 7 k t)))) σ) := by
  obtain ⟨m, i, n, j, gm, gi, gn, gj, hd, o0, o1, o2, o3, o4, hA⟩ := id hr
  refine ACt.intro (own := RX3) (nm := "howManyTo") mk_X3_howManyTo rfl rfl [some (.ref r), some (.int (nI t))] rfl (Nat.le_of_ble_eq_true rfl) (fun X hX hR => ?_)
  refine A_aload_n (pc := 0) rfl hX dX3_howManyTo_0 ?_
  refine A_getf (pc := 1) hX fl_X3_9_3 dX3_howManyTo_1 (by repeat (first | assumption | exact aSet_s | exact aNew_s | refine lk_n ?_ (by omega) | refine lk_f (by assumption) ?_ (by omega) | refine lk_w ?_ (by omega))) (by exact rfl) ?_
  refine A_iload_n (pc := 4) rfl hX dX3_howManyTo_4 ?_
  refine A_S2d (pc := 5) hX mk_X11_at ls_X3_28 dX3_howManyTo_5 (ct_at l G (by repeat (first | assumption | exact aSet_s | exact aNew_s | refine lk_n ?_ (by omega) | refine lk_f (by assumption) ?_ (by omega) | refine lk_w ?_ (by omega))) (by decide)) rfl (Nat.le_of_ble_eq_true rfl) (Nat.le_of_ble_eq_true rfl) (Nat.le_of_ble_eq_true rfl) (Nat.le_of_ble_eq_true rfl) (Nat.le_of_ble_eq_true rfl) ?_
  refine A_top (y := nI (rN nb (mkB B) fr 7 k t)) (by rw [atS_nI ht (by decide)]; exact (hA t ht).1) ?_
  refine A_iret (pc := 8) hX hR dX3_howManyTo_8 rfl rfl ?_
  exact ⟨rfl, rfl⟩
set_option maxRecDepth 100000 in
set_option maxHeartbeats 1000000 in
theorem ct_inEachTo (l : Launch) (G : aG) {r w nb fr k t : Nat} {B : Nat → Nat × Nat × Nat × Nat} {σ : aS} (hr : RRq G r w (fun w => rN nb (mkB B) fr w k) σ) (ht : t < 512) (hnb : nb ≤ 6) (hk : k ≤ 6) : ACt l G yX3_inEachTo cX3_inEachTo 2 (some .int) 1 0 0 [.ref r, .int (nI t)] σ (dP (some (.int (inV nb (mkB B) fr k t))) σ) := by
  obtain ⟨m, i, n, j, gm, gi, gn, gj, hd, o0, o1, o2, o3, o4, hA⟩ := id hr
  obtain ⟨g1, g2, g3⟩ := hA t ht
  have hbd : rN nb (mkB B) fr 7 k t ≤ 46656 := Nat.le_trans (Nat.le_trans (sum_ge ht) (rN_sum hnb k)) (p6_k hk)
  refine ACt.intro (own := RX3) (nm := "inEachTo") mk_X3_inEachTo rfl rfl [some (.ref r), some (.int (nI t))] rfl (Nat.le_of_ble_eq_true rfl) (fun X hX hR => ?_)
  refine A_aload_n (pc := 0) rfl hX dX3_inEachTo_0 ?_
  refine A_getf (pc := 1) hX fl_X3_9_3 dX3_inEachTo_1 (by repeat (first | assumption | exact aSet_s | exact aNew_s | refine lk_n ?_ (by omega) | refine lk_f (by assumption) ?_ (by omega) | refine lk_w ?_ (by omega))) (by exact rfl) ?_
  refine A_iload_n (pc := 4) rfl hX dX3_inEachTo_4 ?_
  refine A_S2d (pc := 5) hX mk_X11_at ls_X3_28 dX3_inEachTo_5 (ct_at l G (by repeat (first | assumption | exact aSet_s | exact aNew_s | refine lk_n ?_ (by omega) | refine lk_f (by assumption) ?_ (by omega) | refine lk_w ?_ (by omega))) (by decide)) rfl (Nat.le_of_ble_eq_true rfl) (Nat.le_of_ble_eq_true rfl) (Nat.le_of_ble_eq_true rfl) (Nat.le_of_ble_eq_true rfl) (Nat.le_of_ble_eq_true rfl) ?_
  refine A_top (y := nI (rN nb (mkB B) fr 7 k t)) (by rw [atS_nI ht (by decide)]; exact g1) ?_
  refine A_if_ne (pc := 8) 15 hX dX3_inEachTo_8 rfl (fun c8 => ?_) (fun c8 => ?_)
  · have hp : 0 < rN nb (mkB B) fr 7 k t := by
      rcases Nat.eq_zero_or_pos (rN nb (mkB B) fr 7 k t) with q | q
      · exact absurd (by rw [q]; rfl) c8
      · exact q
    obtain ⟨e, e1, e2, e3⟩ := g3 hp
    refine A_aload_n (pc := 15) rfl hX dX3_inEachTo_15 ?_
    refine A_getf (pc := 16) hX fl_X3_15_3 dX3_inEachTo_16 (by repeat (first | assumption | exact aSet_s | exact aNew_s | refine lk_n ?_ (by omega) | refine lk_f (by assumption) ?_ (by omega) | refine lk_w ?_ (by omega))) (by exact rfl) ?_
    refine A_iload_n (pc := 19) rfl hX dX3_inEachTo_19 ?_
    refine A_S2d (pc := 20) hX mk_X11_at ls_X3_28 dX3_inEachTo_20 (ct_at l G (by repeat (first | assumption | exact aSet_s | exact aNew_s | refine lk_n ?_ (by omega) | refine lk_f (by assumption) ?_ (by omega) | refine lk_w ?_ (by omega))) (by decide)) rfl (Nat.le_of_ble_eq_true rfl) (Nat.le_of_ble_eq_true rfl) (Nat.le_of_ble_eq_true rfl) (Nat.le_of_ble_eq_true rfl) (Nat.le_of_ble_eq_true rfl) ?_
    refine A_iret (pc := 23) hX hR dX3_inEachTo_23 rfl rfl ?_
    exact ⟨by rw [atS_nI ht (by decide), e2, w_ext e1 e3, inV, if_neg (show ¬ rN nb (mkB B) fr 7 k t = 0 by omega)], rfl⟩
  · have hz := (nI_eq (b := 0) (by omega) (by decide)).mp c8
    refine A_iconst (pc := 11) (v := (nI 0)) (by decide) hX dX3_inEachTo_11 ?_
    refine A_goto (pc := 12) 23 hX dX3_inEachTo_12 rfl ?_
    refine A_iret (pc := 23) hX hR dX3_inEachTo_23 rfl rfl ?_
    exact ⟨by rw [inV, if_pos hz]; rfl, rfl⟩
set_option maxRecDepth 100000 in
set_option maxHeartbeats 1000000 in
theorem ct_stepOn (l : Launch) (G : aG) {r w m i n j : Nat} {σ : aS} (h : σ.2 r = some (aO 3 [.ref w, .ref m, .ref i, .ref n, .ref j])) : ACt l G yX3_stepOn cX3_stepOn 2 (none) 0 0 0 [.ref r] σ (vP (fun σ' => σ'.2 r = some (aO 3 [.ref w, .ref n, .ref j, .ref m, .ref i]) ∧ Fr r (r + 1) σ σ')) := by
  refine ACt.intro (own := RX3) (nm := "stepOn") mk_X3_stepOn rfl rfl [some (.ref r), none] rfl (Nat.le_of_ble_eq_true rfl) (fun X hX hR => ?_)
  refine A_aload_n (pc := 0) rfl hX dX3_stepOn_0 ?_
  refine A_getf (pc := 1) hX fl_X3_9_3 dX3_stepOn_1 (by repeat (first | assumption | exact aSet_s | exact aNew_s | refine lk_n ?_ (by omega) | refine lk_f (by assumption) ?_ (by omega) | refine lk_w ?_ (by omega))) (by exact rfl) ?_
  refine A_astore_n (pc := 4) (lv' := [_, _]) hX dX3_stepOn_4 (Nat.le_of_ble_eq_true rfl) rfl rfl ?_
  refine A_aload_n (pc := 5) rfl hX dX3_stepOn_5 ?_
  refine A_aload_n (pc := 6) rfl hX dX3_stepOn_6 ?_
  refine A_getf (pc := 7) hX fl_X3_18_3 dX3_stepOn_7 (by repeat (first | assumption | exact aSet_s | exact aNew_s | refine lk_n ?_ (by omega) | refine lk_f (by assumption) ?_ (by omega) | refine lk_w ?_ (by omega))) (by exact rfl) ?_
  refine A_putf (pc := 10) (fs' := [_, _, _, _, _]) hX pl_X3_9_3 dX3_stepOn_10 (by repeat (first | assumption | exact aSet_s | exact aNew_s | refine lk_n ?_ (by omega) | refine lk_f (by assumption) ?_ (by omega) | refine lk_w ?_ (by omega))) (by exact Nat.le_of_ble_eq_true rfl) (by exact rfl) rfl rfl ?_
  refine A_aload_n (pc := 13) rfl hX dX3_stepOn_13 ?_
  refine A_aload_n (pc := 14) rfl hX dX3_stepOn_14 ?_
  refine A_putf (pc := 15) (fs' := [_, _, _, _, _]) hX pl_X3_18_3 dX3_stepOn_15 (by repeat (first | assumption | exact aSet_s | exact aNew_s | refine lk_n ?_ (by omega) | refine lk_f (by assumption) ?_ (by omega) | refine lk_w ?_ (by omega))) (by exact Nat.le_of_ble_eq_true rfl) (by exact rfl) rfl rfl ?_
  refine A_aload_n (pc := 18) rfl hX dX3_stepOn_18 ?_
  refine A_getf (pc := 19) hX fl_X3_15_3 dX3_stepOn_19 (by repeat (first | assumption | exact aSet_s | exact aNew_s | refine lk_n ?_ (by omega) | refine lk_f (by assumption) ?_ (by omega) | refine lk_w ?_ (by omega))) (by exact rfl) ?_
  refine A_astore_n (pc := 22) (lv' := [_, _]) hX dX3_stepOn_22 (Nat.le_of_ble_eq_true rfl) rfl rfl ?_
  refine A_aload_n (pc := 23) rfl hX dX3_stepOn_23 ?_
  refine A_aload_n (pc := 24) rfl hX dX3_stepOn_24 ?_
  refine A_getf (pc := 25) hX fl_X3_21_3 dX3_stepOn_25 (by repeat (first | assumption | exact aSet_s | exact aNew_s | refine lk_n ?_ (by omega) | refine lk_f (by assumption) ?_ (by omega) | refine lk_w ?_ (by omega))) (by exact rfl) ?_
  refine A_putf (pc := 28) (fs' := [_, _, _, _, _]) hX pl_X3_15_3 dX3_stepOn_28 (by repeat (first | assumption | exact aSet_s | exact aNew_s | refine lk_n ?_ (by omega) | refine lk_f (by assumption) ?_ (by omega) | refine lk_w ?_ (by omega))) (by exact Nat.le_of_ble_eq_true rfl) (by exact rfl) rfl rfl ?_
  refine A_aload_n (pc := 31) rfl hX dX3_stepOn_31 ?_
  refine A_aload_n (pc := 32) rfl hX dX3_stepOn_32 ?_
  refine A_putf (pc := 33) (fs' := [_, _, _, _, _]) hX pl_X3_21_3 dX3_stepOn_33 (by repeat (first | assumption | exact aSet_s | exact aNew_s | refine lk_n ?_ (by omega) | refine lk_f (by assumption) ?_ (by omega) | refine lk_w ?_ (by omega))) (by exact Nat.le_of_ble_eq_true rfl) (by exact rfl) rfl rfl ?_
  refine A_ret (pc := 36) hX hR dX3_stepOn_36 ?_
  exact ⟨rfl, (by repeat (first | assumption | exact aSet_s | exact aNew_s | refine lk_n ?_ (by omega) | refine lk_f (by assumption) ?_ (by omega) | refine lk_w ?_ (by omega))), (by repeat (first | exact Fr.rf | refine Fr.set ?_ (by omega) (by omega) | refine Fr.tr ?_ (Fr.wd (by assumption) (by omega) (by omega))))⟩
set_option maxRecDepth 100000 in
set_option maxHeartbeats 1000000 in
theorem ct_lendToEach (l : Launch) (G : aG) {w tp nb r m i n j s es : Nat} {B : Nat → Nat × Nat × Nat × Nat} {c : Nat → Nat} {A : Nat → Nat → Nat} {gm gi gn gj : Nat → Int32} {σ : aS} (hw : RTw G w tp nb B σ) (hd : RoD r m i n j) (o0 : σ.2 r = some (aO 3 [.ref w, .ref m, .ref i, .ref n, .ref j])) (o1 : σ.2 m = some (aI G 512 gm)) (o2 : σ.2 i = some (aI G 512 gi)) (o3 : σ.2 n = some (aI G 512 gn)) (o4 : σ.2 j = some (aI G 512 gj)) (hwr : w + 5 ≤ r) (hrt : r + 5 ≤ tp) (hs : s < 512) (hgm : gm s = nI (c 7)) (hc : ∀ w, c w ≤ c 7) (hp : 0 < c 7) (he : es < 64) (hgi : gi s = nI es) (heb : ∀ w, w < 6 → bitN es w = decide (c w = 0)) (hA : AccI A gn gj) (hbd : ∀ b, b < nb → addB (mkB B) 7 s (c 7) (A 7) b (mkB B b s) < 2 ^ 31) : ACt l G yX3_lendToEach cX3_lendToEach 7 (none) 1 0 0 [.ref r, .int (nI s)] σ (vP (fun σ' => ∃ gn' gj', σ'.2 n = some (aI G 512 gn') ∧ σ'.2 j = some (aI G 512 gj') ∧ AccI (fun w => addB (mkB B) w s (c w) (A w) nb) gn' gj' ∧ Fr (r + 1) (r + 5) σ σ' ∧ σ'.2 m = some (aI G 512 gm) ∧ σ'.2 i = some (aI G 512 gi))) := by
  obtain ⟨hwt, hnb, hok, bor, fa, fo, fn, e0, e1, e2, e3, e4, e5, e6⟩ := id hw
  unfold RoD at hd
  refine ACt.intro (own := RX3) (nm := "lendToEach") mk_X3_lendToEach rfl rfl [some (.ref r), some (.int (nI s)), none, none, none, none, none] rfl (Nat.le_of_ble_eq_true rfl) (fun X hX hR => ?_)
  refine A_aload_n (pc := 0) rfl hX dX3_lendToEach_0 ?_
  refine A_getf (pc := 1) hX fl_X3_9_3 dX3_lendToEach_1 (by repeat (first | assumption | exact aSet_s | exact aNew_s | refine lk_n ?_ (by omega) | refine lk_f (by assumption) ?_ (by omega) | refine lk_w ?_ (by omega))) (by exact rfl) ?_
  refine A_iload_n (pc := 4) rfl hX dX3_lendToEach_4 ?_
  refine A_S2d (pc := 5) hX mk_X11_at ls_X3_28 dX3_lendToEach_5 (ct_at l G (by repeat (first | assumption | exact aSet_s | exact aNew_s | refine lk_n ?_ (by omega) | refine lk_f (by assumption) ?_ (by omega) | refine lk_w ?_ (by omega))) (by decide)) rfl (Nat.le_of_ble_eq_true rfl) (Nat.le_of_ble_eq_true rfl) (Nat.le_of_ble_eq_true rfl) (Nat.le_of_ble_eq_true rfl) (Nat.le_of_ble_eq_true rfl) ?_
  refine A_top (y := nI (c 7)) (by rw [atS_nI hs (by decide)]; exact hgm) ?_
  refine A_istore_n (pc := 8) (lv' := [_, _, _, _, _, _, _]) hX dX3_lendToEach_8 (Nat.le_of_ble_eq_true rfl) rfl rfl ?_
  refine A_iconst (pc := 9) (v := (nI 0)) (by decide) hX dX3_lendToEach_9 ?_
  refine A_istore_n (pc := 10) (lv' := [_, _, _, _, _, _, _]) hX dX3_lendToEach_10 (Nat.le_of_ble_eq_true rfl) rfl rfl ?_
  suffices hl : ∀ (k b : Nat) (σ1 : aS) (gn gj : Nat → Int32) (v4 v5 v6 : Option Value), b ≤ nb → nb - b = k → Fr (r + 1) (r + 5) σ σ1 → σ1.2 m = some (aI G 512 gm) → σ1.2 i = some (aI G 512 gi) → σ1.2 n = some (aI G 512 gn) → σ1.2 j = some (aI G 512 gj) → AccI (fun w => addB (mkB B) w s (c w) (A w) b) gn gj → AA G X 0 0 11 [some (.ref r), some (.int (nI s)), some (.int (nI (c 7))), some (.int (nI b)), v4, v5, v6] [] σ1 from hl nb 0 σ gn gj none none none (Nat.zero_le _) rfl Fr.rf o1 o2 o3 o4 hA
  intro k
  induction k with
  | zero =>
    intro b σ1 gn gj v4 v5 v6 hb hk hFr q1 q2 q3 q4 hA1
    have e : b = nb := by omega
    subst e
    have q0 := lk_f hFr o0 (by omega)
    have g0 := lk_f hFr e0 (by omega)
    refine A_iload_n (pc := 11) rfl hX dX3_lendToEach_11 ?_
    refine A_aload_n (pc := 12) rfl hX dX3_lendToEach_12 ?_
    refine A_getf (pc := 13) hX fl_X3_24_3 dX3_lendToEach_13 (by repeat (first | assumption | exact aSet_s | exact aNew_s | refine lk_n ?_ (by omega) | refine lk_f (by assumption) ?_ (by omega) | refine lk_w ?_ (by omega))) (by exact rfl) ?_
    refine A_getf (pc := 16) hX fl_X3_47_8 dX3_lendToEach_16 (by repeat (first | assumption | exact aSet_s | exact aNew_s | refine lk_n ?_ (by omega) | refine lk_f (by assumption) ?_ (by omega) | refine lk_w ?_ (by omega))) (by exact rfl) ?_
    refine A_icmp_ge (pc := 19) 108 hX dX3_lendToEach_19 rfl (fun c19 => ?_) (fun c19 => ?_)
    · refine A_ret (pc := 108) hX hR dX3_lendToEach_108 ?_
      exact ⟨rfl, _, _, q3, q4, hA1, hFr, q1, q2⟩
    · exact absurd (nI_le (Nat.le_refl _) (by omega)) c19
  | succ k ih =>
    intro b σ1 gn gj v4 v5 v6 hb hk hFr q1 q2 q3 q4 hA1
    have hbl : b < nb := by omega
    have q0 := lk_f hFr o0 (by omega)
    have g0 := lk_f hFr e0 (by omega)
    have hw1 := hw.fr hFr (by omega) (.inr (by omega))
    have hto : mkB B b s < 512 := mkB_lt hok hbl hs
    have hst := hA1.step (to := mkB B b s) (b := b) (by omega) hc hp he heb hto
    have t1 := (hA1 _ hto).1
    have h86 : ∀ σ1' : aS, σ1' = σ1 → AA G X 0 0 86 [some (.ref r), some (.int (nI s)), some (.int (nI (c 7))), some (.int (nI b)), some (.int (nI (mkB B b s))), some (.int (nI (es ||| 2 ^ b))), some (.int (nI (addB (mkB B) 7 s (c 7) (A 7) b (mkB B b s))))] [.int (if addB (mkB B) 7 s (c 7) (A 7) b (mkB B b s) = 0 then nI (es ||| 2 ^ b) else gj (mkB B b s) &&& nI (es ||| 2 ^ b)), .int (nI (mkB B b s)), .ref j] σ1' := by
      intro σ1' he1
      subst he1
      refine A_S3v (pc := 86) hX mk_X11_put ls_X3_36 dX3_lendToEach_86 (ct_put l G q4 (by decide)) rfl (Nat.le_of_ble_eq_true rfl) (Nat.le_of_ble_eq_true rfl) (Nat.le_of_ble_eq_true rfl) (Nat.le_of_ble_eq_true rfl) (Nat.le_of_ble_eq_true rfl) (fun σ86 h86 => ?_)
      obtain ⟨h86, hf86⟩ := h86
      refine A_aload_n (pc := 89) rfl hX dX3_lendToEach_89 ?_
      refine A_getf (pc := 90) hX fl_X3_18_3 dX3_lendToEach_90 (by repeat (first | assumption | exact aSet_s | exact aNew_s | refine lk_n ?_ (by omega) | refine lk_f (by assumption) ?_ (by omega) | refine lk_w ?_ (by omega))) (by exact rfl) ?_
      refine A_iload (pc := 93) rfl hX dX3_lendToEach_93 ?_
      refine A_iload (pc := 95) rfl hX dX3_lendToEach_95 ?_
      refine A_iload_n (pc := 97) rfl hX dX3_lendToEach_97 ?_
      refine A_iadd (pc := 98) hX dX3_lendToEach_98 ?_
      refine A_top (y := nI (addB (mkB B) 7 s (c 7) (A 7) b (mkB B b s) + c 7)) (nI_add _ _) ?_
      refine A_S3v (pc := 99) hX mk_X11_put ls_X3_36 dX3_lendToEach_99 (ct_put l G (lk_f hf86 q3 (by omega)) (by decide)) rfl (Nat.le_of_ble_eq_true rfl) (Nat.le_of_ble_eq_true rfl) (Nat.le_of_ble_eq_true rfl) (Nat.le_of_ble_eq_true rfl) (Nat.le_of_ble_eq_true rfl) (fun σ99 h99 => ?_)
      obtain ⟨h99, hf99⟩ := h99
      refine A_iinc (pc := 102) (v := (nI (b + 1))) (lv' := [_, _, _, _, _, _, _]) hX dX3_lendToEach_102 rfl (nI_succ b).symm rfl rfl ?_
      refine A_goto (pc := 105) 11 hX dX3_lendToEach_105 rfl ?_
      exact ih (b + 1) σ99 _ _ _ _ _ (by omega) (by omega) (by repeat (first | exact Fr.rf | refine Fr.set ?_ (by omega) (by omega) | refine Fr.tr ?_ (Fr.wd (by assumption) (by omega) (by omega)))) (by repeat (first | assumption | exact aSet_s | exact aNew_s | refine lk_n ?_ (by omega) | refine lk_f (by assumption) ?_ (by omega) | refine lk_w ?_ (by omega))) (by repeat (first | assumption | exact aSet_s | exact aNew_s | refine lk_n ?_ (by omega) | refine lk_f (by assumption) ?_ (by omega) | refine lk_w ?_ (by omega))) (h99.trans (by rw [putS_nI hto (by decide)])) ((lk_f hf99 h86 (by omega)).trans (by rw [putS_nI hto (by decide)])) hst
    refine A_iload_n (pc := 11) rfl hX dX3_lendToEach_11 ?_
    refine A_aload_n (pc := 12) rfl hX dX3_lendToEach_12 ?_
    refine A_getf (pc := 13) hX fl_X3_24_3 dX3_lendToEach_13 (by repeat (first | assumption | exact aSet_s | exact aNew_s | refine lk_n ?_ (by omega) | refine lk_f (by assumption) ?_ (by omega) | refine lk_w ?_ (by omega))) (by exact rfl) ?_
    refine A_getf (pc := 16) hX fl_X3_47_8 dX3_lendToEach_16 (by repeat (first | assumption | exact aSet_s | exact aNew_s | refine lk_n ?_ (by omega) | refine lk_f (by assumption) ?_ (by omega) | refine lk_w ?_ (by omega))) (by exact rfl) ?_
    refine A_icmp_ge (pc := 19) 108 hX dX3_lendToEach_19 rfl (fun c19 => ?_) (fun c19 => ?_)
    · exact absurd c19 (nI_ge hbl (by omega))
    · refine A_aload_n (pc := 22) rfl hX dX3_lendToEach_22 ?_
      refine A_getf (pc := 23) hX fl_X3_24_3 dX3_lendToEach_23 (by repeat (first | assumption | exact aSet_s | exact aNew_s | refine lk_n ?_ (by omega) | refine lk_f (by assumption) ?_ (by omega) | refine lk_w ?_ (by omega))) (by exact rfl) ?_
      refine A_iload_n (pc := 26) rfl hX dX3_lendToEach_26 ?_
      refine A_iload_n (pc := 27) rfl hX dX3_lendToEach_27 ?_
      refine A_V2d (pc := 28) hX mk_X8_after lv_X3_53 dX3_lendToEach_28 (by repeat (first | assumption | exact aSet_s | exact aNew_s | refine lk_n ?_ (by omega) | refine lk_f (by assumption) ?_ (by omega) | refine lk_w ?_ (by omega))) (ct_after l G hw1 hbl hs) rfl (Nat.le_of_ble_eq_true rfl) (Nat.le_of_ble_eq_true rfl) (Nat.le_of_ble_eq_true rfl) (Nat.le_of_ble_eq_true rfl) (Nat.le_of_ble_eq_true rfl) ?_
      refine A_istore (pc := 31) (lv' := [_, _, _, _, _, _, _]) hX dX3_lendToEach_31 (Nat.le_of_ble_eq_true rfl) rfl rfl ?_
      refine A_aload_n (pc := 33) rfl hX dX3_lendToEach_33 ?_
      refine A_getf (pc := 34) hX fl_X3_15_3 dX3_lendToEach_34 (by repeat (first | assumption | exact aSet_s | exact aNew_s | refine lk_n ?_ (by omega) | refine lk_f (by assumption) ?_ (by omega) | refine lk_w ?_ (by omega))) (by exact rfl) ?_
      refine A_iload_n (pc := 37) rfl hX dX3_lendToEach_37 ?_
      refine A_S2d (pc := 38) hX mk_X11_at ls_X3_28 dX3_lendToEach_38 (ct_at l G q2 (by decide)) rfl (Nat.le_of_ble_eq_true rfl) (Nat.le_of_ble_eq_true rfl) (Nat.le_of_ble_eq_true rfl) (Nat.le_of_ble_eq_true rfl) (Nat.le_of_ble_eq_true rfl) ?_
      refine A_top (y := nI es) (by rw [atS_nI hs (by decide)]; exact hgi) ?_
      refine A_iconst (pc := 41) (v := (nI 1)) (by decide) hX dX3_lendToEach_41 ?_
      refine A_iload_n (pc := 42) rfl hX dX3_lendToEach_42 ?_
      refine A_ishl (pc := 43) hX dX3_lendToEach_43 ?_
      refine A_ior (pc := 44) hX dX3_lendToEach_44 ?_
      refine A_top (y := nI (es ||| 2 ^ b)) (i_or he (by omega)) ?_
      refine A_istore (pc := 45) (lv' := [_, _, _, _, _, _, _]) hX dX3_lendToEach_45 (Nat.le_of_ble_eq_true rfl) rfl rfl ?_
      refine A_aload_n (pc := 47) rfl hX dX3_lendToEach_47 ?_
      refine A_getf (pc := 48) hX fl_X3_18_3 dX3_lendToEach_48 (by repeat (first | assumption | exact aSet_s | exact aNew_s | refine lk_n ?_ (by omega) | refine lk_f (by assumption) ?_ (by omega) | refine lk_w ?_ (by omega))) (by exact rfl) ?_
      refine A_iload (pc := 51) rfl hX dX3_lendToEach_51 ?_
      refine A_S2d (pc := 53) hX mk_X11_at ls_X3_28 dX3_lendToEach_53 (ct_at l G q3 (by decide)) rfl (Nat.le_of_ble_eq_true rfl) (Nat.le_of_ble_eq_true rfl) (Nat.le_of_ble_eq_true rfl) (Nat.le_of_ble_eq_true rfl) (Nat.le_of_ble_eq_true rfl) ?_
      refine A_top (y := nI (addB (mkB B) 7 s (c 7) (A 7) b (mkB B b s))) (by rw [atS_nI hto (by decide)]; exact t1) ?_
      refine A_istore (pc := 56) (lv' := [_, _, _, _, _, _, _]) hX dX3_lendToEach_56 (Nat.le_of_ble_eq_true rfl) rfl rfl ?_
      refine A_aload_n (pc := 58) rfl hX dX3_lendToEach_58 ?_
      refine A_getf (pc := 59) hX fl_X3_21_3 dX3_lendToEach_59 (by repeat (first | assumption | exact aSet_s | exact aNew_s | refine lk_n ?_ (by omega) | refine lk_f (by assumption) ?_ (by omega) | refine lk_w ?_ (by omega))) (by exact rfl) ?_
      refine A_iload (pc := 62) rfl hX dX3_lendToEach_62 ?_
      refine A_iload (pc := 64) rfl hX dX3_lendToEach_64 ?_
      refine A_if_ne (pc := 66) 74 hX dX3_lendToEach_66 rfl (fun c66 => ?_) (fun c66 => ?_)
      · have hz : ¬ addB (mkB B) 7 s (c 7) (A 7) b (mkB B b s) = 0 := fun q => c66 (by rw [q]; rfl)
        refine A_aload_n (pc := 74) rfl hX dX3_lendToEach_74 ?_
        refine A_getf (pc := 75) hX fl_X3_21_3 dX3_lendToEach_75 (by repeat (first | assumption | exact aSet_s | exact aNew_s | refine lk_n ?_ (by omega) | refine lk_f (by assumption) ?_ (by omega) | refine lk_w ?_ (by omega))) (by exact rfl) ?_
        refine A_iload (pc := 78) rfl hX dX3_lendToEach_78 ?_
        refine A_S2d (pc := 80) hX mk_X11_at ls_X3_28 dX3_lendToEach_80 (ct_at l G q4 (by decide)) rfl (Nat.le_of_ble_eq_true rfl) (Nat.le_of_ble_eq_true rfl) (Nat.le_of_ble_eq_true rfl) (Nat.le_of_ble_eq_true rfl) (Nat.le_of_ble_eq_true rfl) ?_
        refine A_iload (pc := 83) rfl hX dX3_lendToEach_83 ?_
        refine A_iand (pc := 85) hX dX3_lendToEach_85 ?_
        exact A_top (by rw [if_neg hz, atS_nI hto (by decide)]) (h86 σ1 rfl)
      · have hz : addB (mkB B) 7 s (c 7) (A 7) b (mkB B b s) = 0 := (nI_eq (b := 0) (by have := hbd b (by omega); omega) (by decide)).mp c66
        refine A_iload (pc := 69) rfl hX dX3_lendToEach_69 ?_
        refine A_goto (pc := 71) 86 hX dX3_lendToEach_71 rfl ?_
        exact A_top (by rw [if_pos hz]) (h86 σ1 rfl)
set_option maxRecDepth 100000 in
set_option maxHeartbeats 1000000 in
theorem ct_follow (l : Launch) (G : aG) {w tp nb r fr k : Nat} {B : Nat → Nat × Nat × Nat × Nat} {σ : aS} (hw : RTw G w tp nb B σ) (hr : RRo G r w σ) (hwr : w + 5 ≤ r) (hrt : r + 5 ≤ tp) (hfr : fr < 512) (hk : k ≤ 6) : ACt l G yX3_follow cX3_follow 5 (none) 2 0 0 [.ref r, .int (nI fr), .int (nI k)] σ (vP (fun σ' => RRq G r w (fun w => rN nb (mkB B) fr w k) σ' ∧ Fr r (r + 5) σ σ')) := by
  obtain ⟨hwt, hnb, hok, bor, fa, fo, fn, e0, e1, e2, e3, e4, e5, e6⟩ := id hw
  obtain ⟨m, i, n, j, gm, gi, gn, gj, hd, o0, o1, o2, o3, o4⟩ := id hr
  have hD := hd
  unfold RoD at hd
  refine ACt.intro (own := RX3) (nm := "follow") mk_X3_follow rfl rfl [some (.ref r), some (.int (nI fr)), some (.int (nI k)), none, none] rfl (Nat.le_of_ble_eq_true rfl) (fun X hX hR => ?_)
  refine A_aload_n (pc := 0) rfl hX dX3_follow_0 ?_
  refine A_getf (pc := 1) hX fl_X3_9_3 dX3_follow_1 (by repeat (first | assumption | exact aSet_s | exact aNew_s | refine lk_n ?_ (by omega) | refine lk_f (by assumption) ?_ (by omega) | refine lk_w ?_ (by omega))) (by exact rfl) ?_
  refine A_iconst (pc := 4) (v := (nI 0)) (by decide) hX dX3_follow_4 ?_
  refine A_S2v (pc := 5) hX mk_X11_fill ls_X3_32 dX3_follow_5 (ct_fill l G o1 (by decide)) rfl (Nat.le_of_ble_eq_true rfl) (Nat.le_of_ble_eq_true rfl) (Nat.le_of_ble_eq_true rfl) (Nat.le_of_ble_eq_true rfl) (Nat.le_of_ble_eq_true rfl) (fun σ5 h5 => ?_)
  obtain ⟨h5, hf5⟩ := h5
  refine A_aload_n (pc := 8) rfl hX dX3_follow_8 ?_
  refine A_getf (pc := 9) hX fl_X3_9_3 dX3_follow_9 (by repeat (first | assumption | exact aSet_s | exact aNew_s | refine lk_n ?_ (by omega) | refine lk_f (by assumption) ?_ (by omega) | refine lk_w ?_ (by omega))) (by exact rfl) ?_
  refine A_iload_n (pc := 12) rfl hX dX3_follow_12 ?_
  refine A_iconst (pc := 13) (v := (nI 1)) (by decide) hX dX3_follow_13 ?_
  refine A_S3v (pc := 14) hX mk_X11_put ls_X3_36 dX3_follow_14 (ct_put l G h5 (by decide)) rfl (Nat.le_of_ble_eq_true rfl) (Nat.le_of_ble_eq_true rfl) (Nat.le_of_ble_eq_true rfl) (Nat.le_of_ble_eq_true rfl) (Nat.le_of_ble_eq_true rfl) (fun σ14 h14 => ?_)
  obtain ⟨h14, hf14⟩ := h14
  refine A_aload_n (pc := 17) rfl hX dX3_follow_17 ?_
  refine A_getf (pc := 18) hX fl_X3_15_3 dX3_follow_18 (by repeat (first | assumption | exact aSet_s | exact aNew_s | refine lk_n ?_ (by omega) | refine lk_f (by assumption) ?_ (by omega) | refine lk_w ?_ (by omega))) (by exact rfl) ?_
  refine A_iload_n (pc := 21) rfl hX dX3_follow_21 ?_
  refine A_iconst (pc := 22) (v := (nI 0)) (by decide) hX dX3_follow_22 ?_
  refine A_S3v (pc := 23) hX mk_X11_put ls_X3_36 dX3_follow_23 (ct_put l G (lk_f hf14 (lk_f hf5 o2 (by omega)) (by omega)) (by decide)) rfl (Nat.le_of_ble_eq_true rfl) (Nat.le_of_ble_eq_true rfl) (Nat.le_of_ble_eq_true rfl) (Nat.le_of_ble_eq_true rfl) (Nat.le_of_ble_eq_true rfl) (fun σ23 h23 => ?_)
  obtain ⟨h23, hf23⟩ := h23
  refine A_iconst (pc := 26) (v := (nI 0)) (by decide) hX dX3_follow_26 ?_
  refine A_istore_n (pc := 27) (lv' := [_, _, _, _, _]) hX dX3_follow_27 (Nat.le_of_ble_eq_true rfl) rfl rfl ?_
  have hinit : AccI (fun w => rN nb (mkB B) fr w 0) (putS 512 (fun j => if j < 512 then nI 0 else gm j) (nI fr) (nI 1)) (putS 512 gi (nI fr) (nI 0)) := by
    rw [putS_nI hfr (by decide), putS_nI hfr (by decide)]
    exact AccI.one
  suffices hl : ∀ (q a : Nat) (σ1 : aS) (m i n j : Nat) (gm gi gn gj : Nat → Int32) (v4 : Option Value), a ≤ k → k - a = q → RoD r m i n j → Fr r (r + 5) σ σ1 → σ1.2 r = some (aO 3 [.ref w, .ref m, .ref i, .ref n, .ref j]) → σ1.2 m = some (aI G 512 gm) → σ1.2 i = some (aI G 512 gi) → σ1.2 n = some (aI G 512 gn) → σ1.2 j = some (aI G 512 gj) → AccI (fun w => rN nb (mkB B) fr w a) gm gi → AA G X 0 0 28 [some (.ref r), some (.int (nI fr)), some (.int (nI k)), some (.int (nI a)), v4] [] σ1 from hl k 0 σ23 m i n j _ _ gn gj none (Nat.zero_le _) rfl hD (by repeat (first | exact Fr.rf | refine Fr.set ?_ (by omega) (by omega) | refine Fr.tr ?_ (Fr.wd (by assumption) (by omega) (by omega)))) (by repeat (first | assumption | exact aSet_s | exact aNew_s | refine lk_n ?_ (by omega) | refine lk_f (by assumption) ?_ (by omega) | refine lk_w ?_ (by omega))) (by repeat (first | assumption | exact aSet_s | exact aNew_s | refine lk_n ?_ (by omega) | refine lk_f (by assumption) ?_ (by omega) | refine lk_w ?_ (by omega))) (by repeat (first | assumption | exact aSet_s | exact aNew_s | refine lk_n ?_ (by omega) | refine lk_f (by assumption) ?_ (by omega) | refine lk_w ?_ (by omega))) (by repeat (first | assumption | exact aSet_s | exact aNew_s | refine lk_n ?_ (by omega) | refine lk_f (by assumption) ?_ (by omega) | refine lk_w ?_ (by omega))) (by repeat (first | assumption | exact aSet_s | exact aNew_s | refine lk_n ?_ (by omega) | refine lk_f (by assumption) ?_ (by omega) | refine lk_w ?_ (by omega))) hinit
  clear hd
  intro q
  induction q with
  | zero =>
    intro a σ1 m i n j gm gi gn gj v4 ha hq hD1 hFr q0 q1 q2 q3 q4 hA
    have e : a = k := by omega
    subst e
    refine A_iload_n (pc := 28) rfl hX dX3_follow_28 ?_
    refine A_iload_n (pc := 29) rfl hX dX3_follow_29 ?_
    refine A_icmp_ge (pc := 30) 86 hX dX3_follow_30 rfl (fun c30 => ?_) (fun c30 => ?_)
    · refine A_ret (pc := 86) hX hR dX3_follow_86 ?_
      exact ⟨rfl, ⟨m, i, n, j, gm, gi, gn, gj, hD1, q0, q1, q2, q3, q4, hA⟩, hFr⟩
    · exact absurd (nI_le (Nat.le_refl _) (by omega)) c30
  | succ q ih =>
    intro a σ1 m i n j gm gi gn gj v4 ha hq hD1 hFr q0 q1 q2 q3 q4 hA
    have hal : a < k := by omega
    have hd1 := hD1
    unfold RoD at hd1
    refine A_iload_n (pc := 28) rfl hX dX3_follow_28 ?_
    refine A_iload_n (pc := 29) rfl hX dX3_follow_29 ?_
    refine A_icmp_ge (pc := 30) 86 hX dX3_follow_30 rfl (fun c30 => ?_) (fun c30 => ?_)
    · exact absurd c30 (nI_ge hal (by omega))
    · refine A_aload_n (pc := 33) rfl hX dX3_follow_33 ?_
      refine A_getf (pc := 34) hX fl_X3_18_3 dX3_follow_34 (by repeat (first | assumption | exact aSet_s | exact aNew_s | refine lk_n ?_ (by omega) | refine lk_f (by assumption) ?_ (by omega) | refine lk_w ?_ (by omega))) (by exact rfl) ?_
      refine A_iconst (pc := 37) (v := (nI 0)) (by decide) hX dX3_follow_37 ?_
      refine A_S2v (pc := 38) hX mk_X11_fill ls_X3_32 dX3_follow_38 (ct_fill l G q3 (by decide)) rfl (Nat.le_of_ble_eq_true rfl) (Nat.le_of_ble_eq_true rfl) (Nat.le_of_ble_eq_true rfl) (Nat.le_of_ble_eq_true rfl) (Nat.le_of_ble_eq_true rfl) (fun σ38 h38 => ?_)
      obtain ⟨h38, hf38⟩ := h38
      refine A_iconst (pc := 41) (v := (nI 0)) (by decide) hX dX3_follow_41 ?_
      refine A_istore (pc := 42) (lv' := [_, _, _, _, _]) hX dX3_follow_42 (Nat.le_of_ble_eq_true rfl) rfl rfl ?_
      suffices hi : ∀ (z s : Nat) (σ2 : aS) (gn gj : Nat → Int32), s ≤ 512 → 512 - s = z → Fr r (r + 5) σ σ2 → σ2.2 r = some (aO 3 [.ref w, .ref m, .ref i, .ref n, .ref j]) → σ2.2 m = some (aI G 512 gm) → σ2.2 i = some (aI G 512 gi) → σ2.2 n = some (aI G 512 gn) → σ2.2 j = some (aI G 512 gj) → AccI (fun w => addS nb (mkB B) w (rN nb (mkB B) fr w a) s) gn gj → AA G X 0 0 44 [some (.ref r), some (.int (nI fr)), some (.int (nI k)), some (.int (nI a)), some (.int (nI s))] [] σ2 from hi 512 0 σ38 _ gj (Nat.zero_le _) rfl (by repeat (first | exact Fr.rf | refine Fr.set ?_ (by omega) (by omega) | refine Fr.tr ?_ (Fr.wd (by assumption) (by omega) (by omega)))) (by repeat (first | assumption | exact aSet_s | exact aNew_s | refine lk_n ?_ (by omega) | refine lk_f (by assumption) ?_ (by omega) | refine lk_w ?_ (by omega))) (by repeat (first | assumption | exact aSet_s | exact aNew_s | refine lk_n ?_ (by omega) | refine lk_f (by assumption) ?_ (by omega) | refine lk_w ?_ (by omega))) (by repeat (first | assumption | exact aSet_s | exact aNew_s | refine lk_n ?_ (by omega) | refine lk_f (by assumption) ?_ (by omega) | refine lk_w ?_ (by omega))) (by repeat (first | assumption | exact aSet_s | exact aNew_s | refine lk_n ?_ (by omega) | refine lk_f (by assumption) ?_ (by omega) | refine lk_w ?_ (by omega))) (by repeat (first | assumption | exact aSet_s | exact aNew_s | refine lk_n ?_ (by omega) | refine lk_f (by assumption) ?_ (by omega) | refine lk_w ?_ (by omega))) AccI.zero
      intro z
      induction z with
      | zero =>
        intro s σ2 gn gj hs hz hFr2 k0 k1 k2 k3 k4 hA2
        have e : s = 512 := by omega
        subst e
        refine A_iload (pc := 44) rfl hX dX3_follow_44 ?_
        refine A_sipush (pc := 46) (v := (nI 512)) (by decide) hX dX3_follow_46 ?_
        refine A_icmp_ge (pc := 49) 76 hX dX3_follow_49 rfl (fun c49 => ?_) (fun c49 => ?_)
        · refine A_aload_n (pc := 76) rfl hX dX3_follow_76 ?_
          refine A_V0v (pc := 77) hX mk_X3_stepOn lv_X3_44 dX3_follow_77 (by repeat (first | assumption | exact aSet_s | exact aNew_s | refine lk_n ?_ (by omega) | refine lk_f (by assumption) ?_ (by omega) | refine lk_w ?_ (by omega))) (ct_stepOn l G k0) rfl (Nat.le_of_ble_eq_true rfl) (Nat.le_of_ble_eq_true rfl) (Nat.le_of_ble_eq_true rfl) (Nat.le_of_ble_eq_true rfl) (Nat.le_of_ble_eq_true rfl) (fun σ77 h77 => ?_)
          obtain ⟨h77, hf77⟩ := h77
          refine A_iinc (pc := 80) (v := (nI (a + 1))) (lv' := [_, _, _, _, _]) hX dX3_follow_80 rfl (nI_succ a).symm rfl rfl ?_
          refine A_goto (pc := 83) 28 hX dX3_follow_83 rfl ?_
          exact ih (a + 1) σ77 n j m i gn gj gm gi _ (by omega) (by omega) (by unfold RoD; omega) (by repeat (first | exact Fr.rf | refine Fr.set ?_ (by omega) (by omega) | refine Fr.tr ?_ (Fr.wd (by assumption) (by omega) (by omega)))) h77 (by repeat (first | assumption | exact aSet_s | exact aNew_s | refine lk_n ?_ (by omega) | refine lk_f (by assumption) ?_ (by omega) | refine lk_w ?_ (by omega))) (by repeat (first | assumption | exact aSet_s | exact aNew_s | refine lk_n ?_ (by omega) | refine lk_f (by assumption) ?_ (by omega) | refine lk_w ?_ (by omega))) (by repeat (first | assumption | exact aSet_s | exact aNew_s | refine lk_n ?_ (by omega) | refine lk_f (by assumption) ?_ (by omega) | refine lk_w ?_ (by omega))) (by repeat (first | assumption | exact aSet_s | exact aNew_s | refine lk_n ?_ (by omega) | refine lk_f (by assumption) ?_ (by omega) | refine lk_w ?_ (by omega))) (hA2.cg fun w t => rN_s)
        · exact absurd (nI_le (Nat.le_refl 512) (by decide)) c49
      | succ z ih2 =>
        intro s σ2 gn gj hs hz hFr2 k0 k1 k2 k3 k4 hA2
        have hsl : s < 512 := by omega
        have hw2 := hw.fr hFr2 (by omega) (.inr (by omega))
        have t1 : gm s = nI (rN nb (mkB B) fr 7 a s) := (hA s hsl).1
        have t2 : ∀ w, rN nb (mkB B) fr w a s ≤ rN nb (mkB B) fr 7 a s := (hA s hsl).2.1
        have tb : rN nb (mkB B) fr 7 a s ≤ 46656 := rN_bd hnb (by omega) hsl
        refine A_iload (pc := 44) rfl hX dX3_follow_44 ?_
        refine A_sipush (pc := 46) (v := (nI 512)) (by decide) hX dX3_follow_46 ?_
        refine A_icmp_ge (pc := 49) 76 hX dX3_follow_49 rfl (fun c49 => ?_) (fun c49 => ?_)
        · exact absurd c49 (nI_ge hsl (by decide))
        · refine A_aload_n (pc := 52) rfl hX dX3_follow_52 ?_
          refine A_getf (pc := 53) hX fl_X3_9_3 dX3_follow_53 (by repeat (first | assumption | exact aSet_s | exact aNew_s | refine lk_n ?_ (by omega) | refine lk_f (by assumption) ?_ (by omega) | refine lk_w ?_ (by omega))) (by exact rfl) ?_
          refine A_iload (pc := 56) rfl hX dX3_follow_56 ?_
          refine A_S2d (pc := 58) hX mk_X11_at ls_X3_28 dX3_follow_58 (ct_at l G k1 (by decide)) rfl (Nat.le_of_ble_eq_true rfl) (Nat.le_of_ble_eq_true rfl) (Nat.le_of_ble_eq_true rfl) (Nat.le_of_ble_eq_true rfl) (Nat.le_of_ble_eq_true rfl) ?_
          refine A_top (y := nI (rN nb (mkB B) fr 7 a s)) (by rw [atS_nI hsl (by decide)]; exact t1) ?_
          refine A_if_le (pc := 61) 70 hX dX3_follow_61 rfl (fun c61 => ?_) (fun c61 => ?_)
          · have hz0 : rN nb (mkB B) fr 7 a s = 0 := by have := (nI_leI (b := 0) (by omega) (by decide)).mp c61; omega
            refine A_iinc (pc := 70) (v := (nI (s + 1))) (lv' := [_, _, _, _, _]) hX dX3_follow_70 rfl (nI_succ s).symm rfl rfl ?_
            refine A_goto (pc := 73) 44 hX dX3_follow_73 rfl ?_
            exact ih2 (s + 1) σ2 gn gj (by omega) (by omega) hFr2 k0 k1 k2 k3 k4 (hA2.cg fun w t => by
              rw [addS_s, show rN nb (mkB B) fr w a s = 0 by have := t2 w; omega]
              exact addB_z nb)
          · have hp : 0 < rN nb (mkB B) fr 7 a s := by
              rcases Nat.eq_zero_or_pos (rN nb (mkB B) fr 7 a s) with q | q
              · exact absurd (by rw [q]; decide) c61
              · exact q
            obtain ⟨es, x1, x2, x3⟩ := (hA s hsl).2.2 hp
            have hbd : ∀ b, b < nb → addB (mkB B) 7 s (rN nb (mkB B) fr 7 a s) (addS nb (mkB B) 7 (rN nb (mkB B) fr 7 a) s) b (mkB B b s) < 2 ^ 31 := by
              exact fun b hb => addB_bd hnb hsl (mkB_lt hok hb hsl) hb (rN_sb hnb (by omega))
            refine A_aload_n (pc := 64) rfl hX dX3_follow_64 ?_
            refine A_iload (pc := 65) rfl hX dX3_follow_65 ?_
            refine A_V1v (pc := 67) hX mk_X3_lendToEach lv_X3_40 dX3_follow_67 (by repeat (first | assumption | exact aSet_s | exact aNew_s | refine lk_n ?_ (by omega) | refine lk_f (by assumption) ?_ (by omega) | refine lk_w ?_ (by omega))) (ct_lendToEach l G hw2 hD1 k0 k1 k2 k3 k4 hwr hrt hsl t1 t2 hp x1 x2 x3 hA2 hbd) rfl (Nat.le_of_ble_eq_true rfl) (Nat.le_of_ble_eq_true rfl) (Nat.le_of_ble_eq_true rfl) (Nat.le_of_ble_eq_true rfl) (Nat.le_of_ble_eq_true rfl) (fun σ67 h67 => ?_)
            obtain ⟨gn', gj', l1, l2, l3, l4, l5, l6⟩ := h67
            refine A_iinc (pc := 70) (v := (nI (s + 1))) (lv' := [_, _, _, _, _]) hX dX3_follow_70 rfl (nI_succ s).symm rfl rfl ?_
            refine A_goto (pc := 73) 44 hX dX3_follow_73 rfl ?_
            exact ih2 (s + 1) σ67 gn' gj' (by omega) (by omega) (by repeat (first | exact Fr.rf | refine Fr.set ?_ (by omega) (by omega) | refine Fr.tr ?_ (Fr.wd (by assumption) (by omega) (by omega)))) (by repeat (first | assumption | exact aSet_s | exact aNew_s | refine lk_n ?_ (by omega) | refine lk_f (by assumption) ?_ (by omega) | refine lk_w ?_ (by omega))) (by repeat (first | assumption | exact aSet_s | exact aNew_s | refine lk_n ?_ (by omega) | refine lk_f (by assumption) ?_ (by omega) | refine lk_w ?_ (by omega))) (by repeat (first | assumption | exact aSet_s | exact aNew_s | refine lk_n ?_ (by omega) | refine lk_f (by assumption) ?_ (by omega) | refine lk_w ?_ (by omega))) (by repeat (first | assumption | exact aSet_s | exact aNew_s | refine lk_n ?_ (by omega) | refine lk_f (by assumption) ?_ (by omega) | refine lk_w ?_ (by omega))) (by repeat (first | assumption | exact aSet_s | exact aNew_s | refine lk_n ?_ (by omega) | refine lk_f (by assumption) ?_ (by omega) | refine lk_w ?_ (by omega))) (l3.cg fun w t => addS_s)
set_option maxRecDepth 100000 in
set_option maxHeartbeats 1000000 in
theorem ct_Ro_init (l : Launch) (G : aG) {y w : Nat} {σ : aS} (ho : σ.2 y = some (aO 3 [.null, .null, .null, .null, .null])) (hz : σ.1 = y + 1) : ACt l G yX3_init cX3_init 2 (none) 1 4 2048 [.ref y, .ref w] σ (vP (fun σ' => σ'.1 = y + 5 ∧ (∀ a, a < y → σ'.2 a = σ.2 a) ∧ RRo G y w σ')) := by
  have hl : ∀ a, a < y → σ.2 a = σ.2 a := fun _ _ => rfl
  refine ACt.intro (own := RX3) (nm := "<init>") mk_X3_init rfl rfl [some (.ref y), some (.ref w)] rfl (Nat.le_of_ble_eq_true rfl) (fun X hX hR => ?_)
  refine A_aload_n (pc := 0) rfl hX dX3_init_0 ?_
  refine A_objInit (pc := 1) hX lo_X3_3 dX3_init_1 rfl (Nat.le_of_ble_eq_true rfl) (Nat.le_of_ble_eq_true rfl) ?_
  refine A_aload_n (pc := 4) rfl hX dX3_init_4 ?_
  refine A_sipush (pc := 5) (v := (nI 512)) (by decide) hX dX3_init_5 ?_
  refine A_newI (pc := 8) (N := 512) hX dX3_init_8 (by decide) (by decide) (by decide) (Nat.le_of_ble_eq_true rfl) (Nat.le_of_ble_eq_true rfl) ?_
  refine A_putf (pc := 10) (fs' := [_, _, _, _, _]) hX pl_X3_9_3 dX3_init_10 (by repeat (first | assumption | exact aSet_s | exact aNew_s | refine lk_n ?_ (by omega) | refine lk_f (by assumption) ?_ (by omega) | refine lk_w ?_ (by omega))) (by exact Nat.le_of_ble_eq_true rfl) (by exact rfl) rfl rfl ?_
  refine A_gen (fun z => z.1 = y + 2 ∧ (∀ a, a < y → z.2 a = σ.2 a) ∧ z.2 y = some (aO 3 [.null, .ref (y + 1), .null, .null, .null]) ∧ z.2 (y + 1) = some (aI G 512 (fun _ => 0))) ⟨by show _ + 1 = _; omega, fun a ha => (aSet_n (by omega)).trans ((aNew_n (by omega)).trans (hl a ha)), by rw [aSet_s, hz], lk_n (aNew_s' (by omega)) (by omega)⟩ (fun σ13 hg => ?_)
  obtain ⟨hz, hl, ho, hc1⟩ := hg
  refine A_aload_n (pc := 13) rfl hX dX3_init_13 ?_
  refine A_sipush (pc := 14) (v := (nI 512)) (by decide) hX dX3_init_14 ?_
  refine A_newI (pc := 17) (N := 512) hX dX3_init_17 (by decide) (by decide) (by decide) (Nat.le_of_ble_eq_true rfl) (Nat.le_of_ble_eq_true rfl) ?_
  refine A_putf (pc := 19) (fs' := [_, _, _, _, _]) hX pl_X3_15_3 dX3_init_19 (by repeat (first | assumption | exact aSet_s | exact aNew_s | refine lk_n ?_ (by omega) | refine lk_f (by assumption) ?_ (by omega) | refine lk_w ?_ (by omega))) (by exact Nat.le_of_ble_eq_true rfl) (by exact rfl) rfl rfl ?_
  refine A_gen (fun z => z.1 = y + 3 ∧ (∀ a, a < y → z.2 a = σ.2 a) ∧ z.2 y = some (aO 3 [.null, .ref (y + 1), .ref (y + 2), .null, .null]) ∧ z.2 (y + 1) = some (aI G 512 (fun _ => 0)) ∧ z.2 (y + 2) = some (aI G 512 (fun _ => 0))) ⟨by show _ + 1 = _; omega, fun a ha => (aSet_n (by omega)).trans ((aNew_n (by omega)).trans (hl a ha)), by rw [aSet_s, hz], lk_n (lk_w hc1 (by omega)) (by omega), lk_n (aNew_s' (by omega)) (by omega)⟩ (fun σ22 hg => ?_)
  obtain ⟨hz, hl, ho, hc1, hc2⟩ := hg
  refine A_aload_n (pc := 22) rfl hX dX3_init_22 ?_
  refine A_sipush (pc := 23) (v := (nI 512)) (by decide) hX dX3_init_23 ?_
  refine A_newI (pc := 26) (N := 512) hX dX3_init_26 (by decide) (by decide) (by decide) (Nat.le_of_ble_eq_true rfl) (Nat.le_of_ble_eq_true rfl) ?_
  refine A_putf (pc := 28) (fs' := [_, _, _, _, _]) hX pl_X3_18_3 dX3_init_28 (by repeat (first | assumption | exact aSet_s | exact aNew_s | refine lk_n ?_ (by omega) | refine lk_f (by assumption) ?_ (by omega) | refine lk_w ?_ (by omega))) (by exact Nat.le_of_ble_eq_true rfl) (by exact rfl) rfl rfl ?_
  refine A_gen (fun z => z.1 = y + 4 ∧ (∀ a, a < y → z.2 a = σ.2 a) ∧ z.2 y = some (aO 3 [.null, .ref (y + 1), .ref (y + 2), .ref (y + 3), .null]) ∧ z.2 (y + 1) = some (aI G 512 (fun _ => 0)) ∧ z.2 (y + 2) = some (aI G 512 (fun _ => 0)) ∧ z.2 (y + 3) = some (aI G 512 (fun _ => 0))) ⟨by show _ + 1 = _; omega, fun a ha => (aSet_n (by omega)).trans ((aNew_n (by omega)).trans (hl a ha)), by rw [aSet_s, hz], lk_n (lk_w hc1 (by omega)) (by omega), lk_n (lk_w hc2 (by omega)) (by omega), lk_n (aNew_s' (by omega)) (by omega)⟩ (fun σ31 hg => ?_)
  obtain ⟨hz, hl, ho, hc1, hc2, hc3⟩ := hg
  refine A_aload_n (pc := 31) rfl hX dX3_init_31 ?_
  refine A_sipush (pc := 32) (v := (nI 512)) (by decide) hX dX3_init_32 ?_
  refine A_newI (pc := 35) (N := 512) hX dX3_init_35 (by decide) (by decide) (by decide) (Nat.le_of_ble_eq_true rfl) (Nat.le_of_ble_eq_true rfl) ?_
  refine A_putf (pc := 37) (fs' := [_, _, _, _, _]) hX pl_X3_21_3 dX3_init_37 (by repeat (first | assumption | exact aSet_s | exact aNew_s | refine lk_n ?_ (by omega) | refine lk_f (by assumption) ?_ (by omega) | refine lk_w ?_ (by omega))) (by exact Nat.le_of_ble_eq_true rfl) (by exact rfl) rfl rfl ?_
  refine A_gen (fun z => z.1 = y + 5 ∧ (∀ a, a < y → z.2 a = σ.2 a) ∧ z.2 y = some (aO 3 [.null, .ref (y + 1), .ref (y + 2), .ref (y + 3), .ref (y + 4)]) ∧ z.2 (y + 1) = some (aI G 512 (fun _ => 0)) ∧ z.2 (y + 2) = some (aI G 512 (fun _ => 0)) ∧ z.2 (y + 3) = some (aI G 512 (fun _ => 0)) ∧ z.2 (y + 4) = some (aI G 512 (fun _ => 0))) ⟨by show _ + 1 = _; omega, fun a ha => (aSet_n (by omega)).trans ((aNew_n (by omega)).trans (hl a ha)), by rw [aSet_s, hz], lk_n (lk_w hc1 (by omega)) (by omega), lk_n (lk_w hc2 (by omega)) (by omega), lk_n (lk_w hc3 (by omega)) (by omega), lk_n (aNew_s' (by omega)) (by omega)⟩ (fun σ40 hg => ?_)
  obtain ⟨hz, hl, ho, hc1, hc2, hc3, hc4⟩ := hg
  refine A_aload_n (pc := 40) rfl hX dX3_init_40 ?_
  refine A_aload_n (pc := 41) rfl hX dX3_init_41 ?_
  refine A_putF (pc := 42) (fs' := [_, _, _, _, _]) hX pl_X3_24_3 dX3_init_42 (by repeat (first | assumption | exact aSet_s | exact aNew_s | refine lk_n ?_ (by omega) | refine lk_f (by assumption) ?_ (by omega) | refine lk_w ?_ (by omega))) (by exact Nat.le_of_ble_eq_true rfl) (by exact rfl) rfl rfl ?_
  refine A_gen (fun z => z.1 = y + 5 ∧ (∀ a, a < y → z.2 a = σ.2 a) ∧ z.2 y = some (aO 3 [.ref w, .ref (y + 1), .ref (y + 2), .ref (y + 3), .ref (y + 4)]) ∧ z.2 (y + 1) = some (aI G 512 (fun _ => 0)) ∧ z.2 (y + 2) = some (aI G 512 (fun _ => 0)) ∧ z.2 (y + 3) = some (aI G 512 (fun _ => 0)) ∧ z.2 (y + 4) = some (aI G 512 (fun _ => 0))) ⟨hz, fun a ha => (aSet_n (by omega)).trans (hl a ha), aSet_s, lk_n hc1 (by omega), lk_n hc2 (by omega), lk_n hc3 (by omega), lk_n hc4 (by omega)⟩ (fun σ45 hg => ?_)
  obtain ⟨hz, hl, ho, hc1, hc2, hc3, hc4⟩ := hg
  refine A_ret (pc := 45) hX hR dX3_init_45 ?_
  exact ⟨rfl, hz, hl, _, _, _, _, _, _, _, _, .inl ⟨rfl, rfl, rfl, rfl⟩, ho, hc1, hc2, hc3, hc4⟩
