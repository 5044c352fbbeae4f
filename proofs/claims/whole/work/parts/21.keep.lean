/-! what the calls keep, once for both sides -/
theorem keep_thing {nb nt : Nat} {V : ThT} {s : Int32} (h : okV nb nt V) (hu : uqV nt V) : okV nb (stThing nb nt V s).2.1 (stThing nb nt V s).2.2 ∧ uqV (stThing nb nt V s).2.1 (stThing nb nt V s).2.2 := by
  by_cases hs : inN 512 s = true
  · obtain ⟨c, hc, rfl⟩ := inN_t (by decide) hs
    by_cases hz : nb = 0
    · rw [show stThing nb nt V (nI c) = _ from (by rw [stThing, if_pos hs, if_pos hz])]; exact ⟨h, hu⟩
    · by_cases hl : nt < 4
      · rw [show stThing nb nt V (nI c) = _ from (by rw [stThing, if_pos hs, if_neg hz, if_pos hl, nI_clamp (by omega)])]
        refine ⟨fun i hi => ?_, fun i j hi hj he hne => ?_⟩
        · dsimp only at hi ⊢
          by_cases e : i = nt
          · simp only [if_pos e]; exact ⟨hc, .inl trivial⟩
          · simp only [if_neg e]; exact h i (by omega)
        · dsimp only at hi hj he hne
          by_cases e : i = nt
          · simp only [if_pos e] at hne; exact absurd trivial hne
          · by_cases e2 : j = nt
            · simp only [if_neg e, if_pos e2] at he hne; exact absurd he hne
            · simp only [if_neg e, if_neg e2] at he hne; exact hu i j (by omega) (by omega) he hne
      · rw [show stThing nb nt V (nI c) = _ from (by rw [stThing, if_pos hs, if_neg hz, if_neg hl])]; exact ⟨h, hu⟩
  · rw [show stThing nb nt V s = _ from if_neg hs]; exact ⟨h, hu⟩
theorem keep_day {nb nt : Nat} {B : BorT} {dy : Int32} {V : ThT} (hb : okB nb B) (hn : nb ≤ 6) (h : okV nb nt V) (hu : uqV nt V) : okV nb nt (stDay nb B nt dy V).2.2 ∧ uqV nt (stDay nb B nt dy V).2.2 := by
  by_cases hz : nb = 0
  · rw [show stDay nb B nt dy V = _ from if_pos hz]; exact ⟨h, hu⟩
  · rw [show stDay nb B nt dy V = _ from if_neg hz]
    have k : ∀ v : Nat × Int32 × Int32 × Int32, (stepV B v).2.1 = -1 ∨ (stepV B v).2.1 = v.2.1 := fun v => by
      unfold stepV
      split
      · exact .inr rfl
      · split
        · exact .inl rfl
        · exact .inr rfl
    refine ⟨fun i hi => stepV_ok hb hn h hi, fun i j hi hj he hne => ?_⟩
    dsimp only at he hne
    rcases k (V i) with q | q
    · exact absurd q hne
    · rcases k (V j) with q2 | q2
      · rw [q2] at he; exact absurd he hne
      · rw [q] at hne; rw [q, q2] at he; exact hu i j hi hj he hne
theorem keep_lend {nb nt : Nat} {B : BorT} {V : ThT} {x y : Int32} (hn : nb ≤ 6) (hnt : nt ≤ 4) (h : okV nb nt V) (hu : uqV nt V) : okV nb nt (stLend nb B nt V x y).2 ∧ uqV nt (stLend nb B nt V x y).2 := by
  by_cases hc : inN nt x = true ∧ inN nb y = true
  · obtain ⟨i, hi, rfl⟩ := inN_t (by omega) hc.1
    obtain ⟨b, hb, rfl⟩ := inN_t (by omega) hc.2
    by_cases hl : (V i).2.1 = -1 ∧ heldBy V nt (nI b) = -1
    · rw [show stLend nb B nt V (nI i) (nI b) = _ from (by rw [stLend, if_pos hc, nI_clamp (show i < 2 ^ 31 by omega), if_pos hl])]
      have hno : ∀ j, j < nt → ¬ (V j).2.1 = nI b := fun j hj q => by
        have z := hfind_hit (nt := nt) q (fun k hk hk2 => hu k j hk hj (hk2.trans q.symm) (by rw [hk2]; exact nI_ne1 (by omega))) nt 0 (by omega)
        rw [if_pos ⟨Nat.zero_le _, by omega⟩] at z
        exact nI_ne1 (show j < 2 ^ 31 by omega) (z.symm.trans hl.2)
      refine ⟨fun j hj => ?_, fun j k hj hk he hne => ?_⟩
      · dsimp only
        by_cases e : j = i
        · simp only [if_pos e]; exact ⟨(h i hi).1, .inr ⟨b, hb, rfl⟩⟩
        · simp only [if_neg e]; exact h j hj
      · dsimp only at he hne
        by_cases e : j = i
        · by_cases e2 : k = i
          · omega
          · simp only [if_pos e, if_neg e2] at he; exact absurd he.symm (hno k hk)
        · by_cases e2 : k = i
          · simp only [if_neg e, if_pos e2] at he; exact absurd he (hno j hj)
          · simp only [if_neg e, if_neg e2] at he hne; exact hu j k hj hk he hne
    · rw [show stLend nb B nt V (nI i) (nI b) = _ from (by rw [stLend, if_pos hc, nI_clamp (show i < 2 ^ 31 by omega), if_neg hl])]; exact ⟨h, hu⟩
  · rw [show stLend nb B nt V x y = _ from if_neg hc]; exact ⟨h, hu⟩
