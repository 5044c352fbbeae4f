/-! least costs and least first borrowers: what both sides find -/
abbrev inf : Nat := 1048576
def cnd (s0 : Nat) (F : Nat → Nat) (b s : Nat) : Nat := if s = s0 then b else F s
/-- D, F hold what is known by the loans in dn -/
def SpI (nb : Nat) (mB : Nat → Nat → Nat) (wt : Nat → Nat) (al : Nat → Bool) (s0 : Nat) (dn : Nat → Nat → Prop) (D F : Nat → Nat) : Prop :=
  s0 < 512 ∧ D s0 = 0 ∧ (∀ s, s < 512 → D s ≤ inf) ∧
  (∀ s, s < 512 → s ≠ s0 → D s < inf → ∃ b s', b < nb ∧ al b = true ∧ s' < 512 ∧ mB b s' = s ∧ D s' + wt b = D s ∧ F s = cnd s0 F b s' ∧ dn s' b) ∧
  (∀ b s', b < nb → al b = true → s' < 512 → dn s' b → D s' < inf ∧ D (mB b s') ≤ D s' + wt b ∧ (D (mB b s') = D s' + wt b → F (mB b s') ≤ cnd s0 F b s'))
def SpF (nb : Nat) (mB : Nat → Nat → Nat) (wt : Nat → Nat) (al : Nat → Bool) (s0 : Nat) (D F : Nat → Nat) : Prop := SpI nb mB wt al s0 (fun s _ => D s < inf) D F
def okW (nb : Nat) (mB : Nat → Nat → Nat) (wt : Nat → Nat) : Prop := ∀ b, b < nb → 1 ≤ wt b ∧ wt b ≤ 5 ∧ ∀ s, s < 512 → mB b s < 512
theorem SpI.pos {nb : Nat} {mB : Nat → Nat → Nat} {wt : Nat → Nat} {al : Nat → Bool} {s0 : Nat} {dn : Nat → Nat → Prop} {D F : Nat → Nat} (hw : okW nb mB wt) (h : SpI nb mB wt al s0 dn D F) {s : Nat} (hs : s < 512) (hne : s ≠ s0) : 1 ≤ D s := by
  obtain ⟨h1, h2, h3, h4, h5⟩ := h
  by_cases q : D s < inf
  · obtain ⟨b, s', b1, b2, b3, b4, b5, b6, -⟩ := h4 s hs hne q
    have := (hw b b1).1
    omega
  · have := h3 s hs
    simp only [inf] at *
    omega
/-- counting -/
theorem cntN_le {f g : Nat → Bool} : ∀ {n : Nat}, (∀ s, s < n → f s = true → g s = true) → cntN f n ≤ cntN g n
  | 0, _ => Nat.le_refl _
  | n + 1, h => by
    have ih := cntN_le (f := f) (g := g) (n := n) fun s hs => h s (by omega)
    rw [cntN, cntN]
    by_cases q : f n = true
    · rw [if_pos q, if_pos (h n (by omega) q)]; omega
    · rw [if_neg q]; omega
theorem cntN_lt {f g : Nat → Bool} : ∀ {n : Nat}, (∀ s, s < n → f s = true → g s = true) → ∀ k, k < n → f k = false → g k = true → cntN f n + 1 ≤ cntN g n
  | 0, _, _, hk, _, _ => absurd hk (by omega)
  | n + 1, h, k, hk, hf, hg => by
    rw [cntN, cntN]
    by_cases q : k = n
    · subst q
      have := cntN_le (f := f) (g := g) (n := k) fun s hs => h s (by omega)
      rw [hf, hg]
      simp
      omega
    · have ih := cntN_lt (f := f) (g := g) (n := n) (fun s hs => h s (by omega)) k (by omega) hf hg
      by_cases q : f n = true
      · rw [if_pos q, if_pos (h n (by omega) q)]; omega
      · rw [if_neg q]; omega
theorem cntN_n (f : Nat → Bool) : ∀ n, cntN f n ≤ n
  | 0 => Nat.le_refl _
  | n + 1 => by
    have := cntN_n f n
    rw [cntN]
    split <;> omega
theorem cntN_cg {f g : Nat → Bool} : ∀ {n : Nat}, (∀ s, s < n → f s = g s) → cntN f n = cntN g n
  | 0, _ => rfl
  | n + 1, h => by rw [cntN, cntN, cntN_cg (n := n) fun s hs => h s (by omega), h n (by omega)]
theorem cntN_up {f g : Nat → Bool} : ∀ {n : Nat} (k : Nat), k < n → f k = false → g k = true → (∀ s, s < n → s ≠ k → g s = f s) → cntN g n = cntN f n + 1
  | 0, _, hk, _, _, _ => absurd hk (by omega)
  | n + 1, k, hk, hf, hg, h => by
    rw [cntN, cntN]
    by_cases q : k = n
    · subst q
      rw [cntN_cg (n := k) fun s hs => h s (by omega) (by omega), hf, hg]
      simp
    · rw [cntN_up (n := n) k (by omega) hf hg fun s hs => h s (by omega), h n (by omega) (fun e => q e.symm)]
      omega
theorem cntN_lt_n {f : Nat → Bool} {n : Nat} (k : Nat) (hk : k < n) (hf : f k = false) : cntN f n < n := by
  have h1 := cntN_lt (f := f) (g := fun _ => true) (n := n) (fun _ _ _ => rfl) k hk hf rfl
  have h2 := cntN_n (fun _ => true) n
  omega
/-- no cost is above 2555 -/
theorem SpI.bnd {nb : Nat} {mB : Nat → Nat → Nat} {wt : Nat → Nat} {al : Nat → Bool} {s0 : Nat} {dn : Nat → Nat → Prop} {D F : Nat → Nat} (hw : okW nb mB wt) (h : SpI nb mB wt al s0 dn D F) : ∀ s, s < 512 → D s < inf → D s ≤ 2555 := by
  obtain ⟨h1, h2, h3, h4, h5⟩ := h
  have key : ∀ (k s : Nat), s < 512 → D s = k → k < inf → k ≤ 5 * cntN (fun q => decide (D q < k)) 512 := by
    intro k
    induction k using Nat.strongRecOn with
    | ind k ih =>
      intro s hs hk hki
      by_cases q : s = s0
      · subst q; omega
      · obtain ⟨b, s', b1, b2, b3, b4, b5, b6, -⟩ := h4 s hs q (by omega)
        obtain ⟨w1, w2, w3⟩ := hw b b1
        have i1 := ih (D s') (by omega) s' b3 rfl (by omega)
        have i2 := cntN_lt (f := fun q => decide (D q < D s')) (g := fun q => decide (D q < k)) (n := 512) (fun q _ hq => decide_eq_true (by have := of_decide_eq_true hq; omega)) s' b3 (decide_eq_false (by omega)) (decide_eq_true (by omega))
        omega
  intro s hs hd
  have h6 := key (D s) s hs rfl hd
  have h7 := cntN_lt_n (f := fun q => decide (D q < D s)) (n := 512) s hs (decide_eq_false (by omega))
  omega
/-- one loan more is looked at -/
theorem SpI.relax {nb : Nat} {mB : Nat → Nat → Nat} {wt : Nat → Nat} {al : Nat → Bool} {s0 : Nat} {dn dn' : Nat → Nat → Prop} {D F D' F' : Nat → Nat} (hw : okW nb mB wt) (h : SpI nb mB wt al s0 dn D F) {b s : Nat} (hb : b < nb) (ha : al b = true) (hs : s < 512) (hd : D s < inf)
    (hdn : ∀ s' b', dn' s' b' ↔ dn s' b' ∨ (s' = s ∧ b' = b))
    (hU : (D' = D ∧ F' = F ∧ ¬ (D s + wt b < D (mB b s) ∨ (D s + wt b = D (mB b s) ∧ cnd s0 F b s < F (mB b s)))) ∨ ((D s + wt b < D (mB b s) ∨ (D s + wt b = D (mB b s) ∧ cnd s0 F b s < F (mB b s))) ∧ (∀ b', ¬ dn (mB b s) b') ∧ (∀ q, D' q = if q = mB b s then D s + wt b else D q) ∧ ∀ q, F' q = if q = mB b s then cnd s0 F b s else F q)) : SpI nb mB wt al s0 dn' D' F' := by
  have hbnd := h.bnd hw
  have hpos := fun {q} => h.pos hw (s := q)
  obtain ⟨h1, h2, h3, h4, h5⟩ := h
  obtain ⟨w1, w2, w3⟩ := hw b hb
  have hto := w3 s hs
  rcases hU with ⟨rfl, rfl, hn⟩ | ⟨hc, hnd, hD, hF⟩
  · refine ⟨h1, h2, h3, fun q hq hq0 hqi => ?_, fun b' s' b1 b2 b3 b4 => ?_⟩
    · obtain ⟨b', s', c1, c2, c3, c4, c5, c6, c7⟩ := h4 q hq hq0 hqi
      exact ⟨b', s', c1, c2, c3, c4, c5, c6, (hdn s' b').mpr (.inl c7)⟩
    rcases (hdn s' b').mp b4 with q | ⟨rfl, rfl⟩
    · exact h5 b' s' b1 b2 b3 q
    · exact ⟨hd, by omega, fun e => by
        have : ¬ cnd s0 F' b' s' < F' (mB b' s') := fun q => hn (.inr ⟨e.symm, q⟩)
        omega⟩
  · have hts0 : mB b s ≠ s0 := fun e => by rw [e, h2] at hc; omega
    have hts : mB b s ≠ s := fun e => by rw [e] at hc; omega
    have hcn : ∀ b' s', s' ≠ mB b s → cnd s0 F' b' s' = cnd s0 F b' s' := fun b' s' q => by
      unfold cnd
      split
      · rfl
      · rw [hF, if_neg q]
    have hb2 := hbnd s hs hd
    refine ⟨h1, by rw [hD, if_neg (fun e => hts0 e.symm)]; exact h2, fun q hq => ?_, fun q hq hq0 hqi => ?_, fun b' s' b1 b2 b3 b4 => ?_⟩
    · rw [hD]
      split
      · simp only [inf]; omega
      · exact h3 q hq
    · by_cases e : q = mB b s
      · subst e
        refine ⟨b, s, hb, ha, hs, rfl, ?_, ?_, (hdn s b).mpr (.inr ⟨rfl, rfl⟩)⟩
        · rw [hD, hD, if_neg (fun e => hts e.symm), if_pos rfl]
        · rw [hF, if_pos rfl, hcn b s (fun e => hts e.symm)]
      · rw [hD, if_neg e] at hqi
        obtain ⟨b', s', c1, c2, c3, c4, c5, c6, c7⟩ := h4 q hq hq0 hqi
        have e2 : s' ≠ mB b s := fun e => hnd b' (e ▸ c7)
        refine ⟨b', s', c1, c2, c3, c4, ?_, ?_, (hdn s' b').mpr (.inl c7)⟩
        · rw [hD, hD, if_neg e2, if_neg e]; exact c5
        · rw [hF, if_neg e, hcn b' s' e2]; exact c6
    · rcases (hdn s' b').mp b4 with q | ⟨rfl, rfl⟩
      · have e2 : s' ≠ mB b s := fun e => hnd b' (e ▸ q)
        obtain ⟨k1, k2, k3⟩ := h5 b' s' b1 b2 b3 q
        rw [hD s', if_neg e2, hcn b' s' e2, hD (mB b' s'), hF (mB b' s')]
        refine ⟨k1, ?_, ?_⟩
        · split
          · rename_i e
            rw [e] at k2
            omega
          · exact k2
        · split
          · rename_i e
            intro e4
            rw [e] at k2 k3
            rcases hc with hc | ⟨hc1, hc2⟩
            · omega
            · have := k3 (by omega)
              omega
          · exact k3
      · rw [hD s', if_neg (fun e => hts e.symm), hD (mB b' s'), if_pos rfl, hF (mB b' s'), if_pos rfl, hcn b' s' (fun e => hts e.symm)]
        exact ⟨hd, Nat.le_refl _, fun _ => Nat.le_refl _⟩
theorem SpI.cg {nb : Nat} {mB : Nat → Nat → Nat} {wt : Nat → Nat} {al : Nat → Bool} {s0 : Nat} {dn dn' : Nat → Nat → Prop} {D F : Nat → Nat} (h : SpI nb mB wt al s0 dn D F) (hdn : ∀ s b, s < 512 → b < nb → al b = true → (dn s b ↔ dn' s b)) : SpI nb mB wt al s0 dn' D F := by
  obtain ⟨h1, h2, h3, h4, h5⟩ := h
  refine ⟨h1, h2, h3, fun q hq hq0 hqi => ?_, fun b s b1 b2 b3 b4 => h5 b s b1 b2 b3 ((hdn s b b3 b1 b2).mpr b4)⟩
  obtain ⟨b', s', c1, c2, c3, c4, c5, c6, c7⟩ := h4 q hq hq0 hqi
  exact ⟨b', s', c1, c2, c3, c4, c5, c6, (hdn s' b' c3 c1 c2).mp c7⟩
theorem SpF.le {nb : Nat} {mB : Nat → Nat → Nat} {wt : Nat → Nat} {al : Nat → Bool} {s0 : Nat} {D F D' F' : Nat → Nat} (hw : okW nb mB wt) (h : SpF nb mB wt al s0 D F) (h' : SpF nb mB wt al s0 D' F') : ∀ s, s < 512 → D s ≤ D' s := by
  obtain ⟨h1, h2, h3, h4, h5⟩ := h
  obtain ⟨g1, g2, g3, g4, g5⟩ := h'
  have key : ∀ k s, s < 512 → D' s = k → D s ≤ k := by
    intro k
    induction k using Nat.strongRecOn with
    | ind k ih =>
      intro s hs hk
      by_cases q : s = s0
      · subst q; omega
      · by_cases q2 : D' s < inf
        · obtain ⟨b, s', c1, c2, c3, c4, c5, c6, c7⟩ := g4 s hs q q2
          have := (hw b c1).1
          have i1 := ih (D' s') (by omega) s' c3 rfl
          have := (h5 b s' c1 c2 c3 (show D s' < inf by omega)).2.1
          rw [c4] at this
          omega
        · have := h3 s hs
          omega
  exact fun s hs => key _ s hs rfl
theorem SpF.uniq {nb : Nat} {mB : Nat → Nat → Nat} {wt : Nat → Nat} {al : Nat → Bool} {s0 : Nat} {D F D' F' : Nat → Nat} (hw : okW nb mB wt) (h : SpF nb mB wt al s0 D F) (h' : SpF nb mB wt al s0 D' F') : ∀ s, s < 512 → D s = D' s ∧ (s ≠ s0 → D s < inf → F s = F' s) := by
  have hD : ∀ s, s < 512 → D s = D' s := fun s hs => Nat.le_antisymm (SpF.le hw h h' s hs) (SpF.le hw h' h s hs)
  obtain ⟨h1, h2, h3, h4, h5⟩ := h
  obtain ⟨g1, g2, g3, g4, g5⟩ := h'
  have key : ∀ k s, s < 512 → s ≠ s0 → D s = k → k < inf → F s = F' s := by
    intro k
    induction k using Nat.strongRecOn with
    | ind k ih =>
      intro s hs hne hk hki
      have cc : ∀ b s', s' < 512 → D s' < k → cnd s0 F b s' = cnd s0 F' b s' := fun b s' hs' hl => by
        unfold cnd
        split
        · rfl
        · rename_i q
          exact ih (D s') hl s' hs' q rfl (by omega)
      apply Nat.le_antisymm
      · obtain ⟨b, s', c1, c2, c3, c4, c5, c6, c7⟩ := g4 s hs hne (by rw [← hD s hs]; omega)
        have := (hw b c1).1
        rw [← hD s hs, ← hD s' c3] at c5
        rw [c6, ← cc b s' c3 (by omega)]
        have := (h5 b s' c1 c2 c3 (show D s' < inf by omega)).2.2
        rw [c4] at this
        exact this (by omega)
      · obtain ⟨b, s', c1, c2, c3, c4, c5, c6, c7⟩ := h4 s hs hne (by omega)
        have := (hw b c1).1
        rw [c6, cc b s' c3 (by omega)]
        have := (g5 b s' c1 c2 c3 (show D' s' < inf by rw [← hD s' c3]; omega)).2.2
        rw [c4, ← hD s hs, ← hD s' c3] at this
        exact this (by omega)
  exact fun s hs => ⟨hD s hs, fun hne hi => key _ s hs hne rfl hi⟩
/-- what both sides find, named -/
noncomputable def wDF (nb : Nat) (mB : Nat → Nat → Nat) (wt : Nat → Nat) (al : Nat → Bool) (s0 : Nat) : (Nat → Nat) × (Nat → Nat) := Classical.epsilon fun q => SpF nb mB wt al s0 q.1 q.2
theorem SpF.name {nb : Nat} {mB : Nat → Nat → Nat} {wt : Nat → Nat} {al : Nat → Bool} {s0 : Nat} {D F : Nat → Nat} (hw : okW nb mB wt) (h : SpF nb mB wt al s0 D F) : ∀ s, s < 512 → D s = (wDF nb mB wt al s0).1 s ∧ (s ≠ s0 → D s < inf → F s = (wDF nb mB wt al s0).2 s) :=
  SpF.uniq hw h (Classical.epsilon_spec (p := fun q : (Nat → Nat) × (Nat → Nat) => SpF nb mB wt al s0 q.1 q.2) ⟨(D, F), h⟩)
/-- a cost, and the first of a row, as they are told -/
def cV (d : Nat) : Int32 := if d < inf then nI d else -1
def fV (s0 s d f : Nat) : Int32 := if d < inf ∧ s ≠ s0 then nI f else -1
/-- reached: in every set that holds s0 and is closed -/
def Rch (nb : Nat) (mB : Nat → Nat → Nat) (al : Nat → Bool) (s0 s : Nat) : Prop := ∀ V : Nat → Prop, V s0 → (∀ b q, b < nb → al b = true → q < 512 → V q → V (mB b q)) → V s
theorem SpF.rch {nb : Nat} {mB : Nat → Nat → Nat} {wt : Nat → Nat} {al : Nat → Bool} {s0 : Nat} {D F : Nat → Nat} (hw : okW nb mB wt) (h : SpF nb mB wt al s0 D F) {s : Nat} (hs : s < 512) : D s < inf ↔ Rch nb mB al s0 s := by
  have hbnd := h.bnd hw
  obtain ⟨h1, h2, h3, h4, h5⟩ := h
  constructor
  · intro hd V v0 vc
    have key : ∀ k s, s < 512 → D s = k → k < inf → V s := by
      intro k
      induction k using Nat.strongRecOn with
      | ind k ih =>
        intro s hs hk hki
        by_cases q : s = s0
        · rw [q]; exact v0
        · obtain ⟨b, s', c1, c2, c3, c4, c5, c6, c7⟩ := h4 s hs q (by omega)
          have := (hw b c1).1
          rw [← c4]
          exact vc b s' c1 c2 c3 (ih (D s') (by omega) s' c3 rfl (by omega))
    exact key _ s hs rfl hd
  · intro hr
    have := hr (fun q => q < 512 ∧ D q < inf) ⟨h1, by rw [h2]; decide⟩ fun b q b1 b2 b3 b4 => ⟨(hw b b1).2.2 q b3, by
      have k1 := (h5 b q b1 b2 b3 b4.2).2.1
      have k2 := hbnd q b3 b4.2
      have := (hw b b1).2.1
      simp only [inf]
      omega⟩
    exact this.2
