/-! what the calls keep, once for both sides -/
theorem keep_thing {nb nt : Nat} {V : ThT} {s : Int32} (h : okV nb nt V) (hu : uqV nt V) : okV nb (stThing nb nt V s).2.1 (stThing nb nt V s).2.2 ∧ uqV (stThing nb nt V s).2.1 (stThing nb nt V s).2.2 := by
  by_cases hs : inN 512 s = true
  · obtain ⟨c, hc, rfl⟩ := inN_t (by decide) hs
    by_cases hz : nb = 0
    · rw [show stThing nb nt V (nI c) = _ from (by rw [stThing, if_pos hs, if_pos hz])]; exact ⟨h, hu⟩
    · by_cases hl : nt < 4
      · rw [show stThing nb nt V (nI c) = _ from (by rw [stThing, if_pos hs, if_neg hz, if_pos hl, nI_clamp (by omega)])]
        refine ⟨fun i hi => ?_, fun i j hi hj he hne => ?_⟩
        · dsimp only at hi ⊢
          by_cases e : i = nt
          · simp only [if_pos e]; exact ⟨hc, .inl trivial⟩
          · simp only [if_neg e]; exact h i (by omega)
        · dsimp only at hi hj he hne
          by_cases e : i = nt
          · simp only [if_pos e] at hne; exact absurd trivial hne
          · by_cases e2 : j = nt
            · simp only [if_neg e, if_pos e2] at he hne; exact absurd he hne
            · simp only [if_neg e, if_neg e2] at he hne; exact hu i j (by omega) (by omega) he hne
      · rw [show stThing nb nt V (nI c) = _ from (by rw [stThing, if_pos hs, if_neg hz, if_neg hl])]; exact ⟨h, hu⟩
  · rw [show stThing nb nt V s = _ from if_neg hs]; exact ⟨h, hu⟩
theorem keep_day {nb nt : Nat} {B : BorT} {dy : Int32} {V : ThT} (hb : okB nb B) (hn : nb ≤ 6) (h : okV nb nt V) (hu : uqV nt V) : okV nb nt (stDay nb B nt dy V).2.2 ∧ uqV nt (stDay nb B nt dy V).2.2 := by
  by_cases hz : nb = 0
  · rw [show stDay nb B nt dy V = _ from if_pos hz]; exact ⟨h, hu⟩
  · rw [show stDay nb B nt dy V = _ from if_neg hz]
    have k : ∀ v : Nat × Int32 × Int32 × Int32, (stepV B v).2.1 = -1 ∨ (stepV B v).2.1 = v.2.1 := fun v => by
      unfold stepV
      split
      · exact .inr rfl
      · split
        · exact .inl rfl
        · exact .inr rfl
    refine ⟨fun i hi => stepV_ok hb hn h hi, fun i j hi hj he hne => ?_⟩
    dsimp only at he hne
    rcases k (V i) with q | q
    · exact absurd q hne
    · rcases k (V j) with q2 | q2
      · rw [q2] at he; exact absurd he hne
      · rw [q] at hne; rw [q, q2] at he; exact hu i j hi hj he hne
