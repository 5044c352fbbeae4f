/-! both sides together: what the law's loop keeps -/
def Pk (nb nt : Nat) (V : ThT) (hI : Bool) (kn : Nat) (KV : ThT) (hn : Nat) : Prop := okV nb nt V ∧ uqV nt V ∧ (0 < nt → 0 < nb) ∧ (hI = true → okV nb kn KV ∧ uqV kn KV ∧ (0 < kn → 0 < nb)) ∧ hn ≤ 60
theorem Pk.thing {nb nt kn hn : Nat} {V KV : ThT} {hI : Bool} (h : Pk nb nt V hI kn KV hn) (s : Int32) : Pk nb (stThing nb nt V s).2.1 (stThing nb nt V s).2.2 hI kn KV hn := by
  obtain ⟨h1, h2, h3, h4, h5⟩ := h
  obtain ⟨k1, k2⟩ := keep_thing (s := s) h1 h2
  refine ⟨k1, k2, fun q => ?_, h4, h5⟩
  unfold stThing at q
  split at q
  · split at q
    · exact h3 q
    · omega
  · exact h3 q
theorem Pk.day {nb nt kn hn : Nat} {B : BorT} {dy : Int32} {V KV : ThT} {hI : Bool} (h : Pk nb nt V hI kn KV hn) (hb : okB nb B) (hn6 : nb ≤ 6) : Pk nb nt (stDay nb B nt dy V).2.2 hI kn KV hn := by
  obtain ⟨h1, h2, h3, h4, h5⟩ := h
  obtain ⟨k1, k2⟩ := keep_day (dy := dy) hb hn6 h1 h2
  exact ⟨k1, k2, h3, h4, h5⟩
theorem Pk.lend {nb nt kn hn : Nat} {B : BorT} {V KV : ThT} {hI : Bool} (h : Pk nb nt V hI kn KV hn) (hn6 : nb ≤ 6) (hnt : nt ≤ 4) (x y : Int32) : Pk nb nt (stLend nb B nt V x y).2 hI kn KV hn := by
  obtain ⟨h1, h2, h3, h4, h5⟩ := h
  obtain ⟨k1, k2⟩ := keep_lend (B := B) (x := x) (y := y) hn6 hnt h1 h2
  exact ⟨k1, k2, h3, h4, h5⟩
theorem Pk.image {nb nt kn hn : Nat} {dy kd : Int32} {V KV : ThT} {hI : Bool} (h : Pk nb nt V hI kn KV hn) : Pk nb nt V (stImage nb nt dy V hI kn kd KV).2.1 (stImage nb nt dy V hI kn kd KV).2.2.1 (stImage nb nt dy V hI kn kd KV).2.2.2.2 hn := by
  obtain ⟨h1, h2, h3, h4, h5⟩ := h
  by_cases hz : nb = 0
  · rw [show stImage nb nt dy V hI kn kd KV = _ from if_pos hz]; exact ⟨h1, h2, h3, h4, h5⟩
  · rw [show stImage nb nt dy V hI kn kd KV = _ from if_neg hz]; exact ⟨h1, h2, h3, fun _ => ⟨h1, h2, h3⟩, h5⟩
theorem Pk.restore {nb nt kn hn : Nat} {dy kd : Int32} {V KV : ThT} {hI : Bool} (h : Pk nb nt V hI kn KV hn) : Pk nb (stRestore nt dy V hI kn kd KV).2.1 (stRestore nt dy V hI kn kd KV).2.2.2 hI kn KV hn := by
  obtain ⟨h1, h2, h3, h4, h5⟩ := h
  by_cases hz : hI = true
  · rw [show stRestore nt dy V hI kn kd KV = _ from if_pos hz]
    obtain ⟨k1, k2, k3⟩ := h4 hz
    exact ⟨k1, k2, k3, h4, h5⟩
  · rw [show stRestore nt dy V hI kn kd KV = _ from if_neg hz]; exact ⟨h1, h2, h3, h4, h5⟩
theorem Pk.town {len nb nt kn hn tw : Nat} {cd : Nat → Nat} {B : BorT} {dy : Int32} {V KV : ThT} {hI : Bool} (h : Pk nb nt V hI kn KV hn) : Pk (stTown len cd nb B nt dy hI tw).2.2.1 (stTown len cd nb B nt dy hI tw).2.2.2.2.1 V (stTown len cd nb B nt dy hI tw).2.2.2.2.2.2.1 kn KV hn := by
  by_cases hT : isTwB cd len = true
  · rw [show stTown len cd nb B nt dy hI tw = _ from if_pos hT]
    obtain ⟨h1, h2, h3, h4, h5⟩ := h
    exact ⟨fun i hi => absurd hi (Nat.not_lt_zero i), fun i j hi => absurd hi (Nat.not_lt_zero i), fun q => absurd q (Nat.lt_irrefl 0), fun q => absurd (show false = true from q) (by decide), h5⟩
  · rw [show stTown len cd nb B nt dy hI tw = _ from if_neg hT]; exact h
theorem tw_le {len nb nt tw : Nat} {cd : Nat → Nat} {B : BorT} {dy : Int32} {hI : Bool} : (stTown len cd nb B nt dy hI tw).2.2.2.2.2.2.2 ≤ tw + 1 := by
  unfold stTown
  split
  · exact Nat.le_refl _
  · exact Nat.le_succ _
theorem Pk.hands {nb nt kn hn : Nat} {B : BorT} {V KV : ThT} {hI : Bool} (h : Pk nb nt V hI kn KV hn) (x y k w : Int32) : Pk nb nt V hI kn KV (stHands nb B hn x y k w).2 := by
  obtain ⟨h1, h2, h3, h4, h5⟩ := h
  refine ⟨h1, h2, h3, h4, ?_⟩
  unfold stHands
  split
  · split
    · exact h5
    · show hn + 1 ≤ 60
      omega
  · exact h5
theorem RX.fr {G : aG} {b tp sr len nb nt kn tw hn lo hi : Nat} {cd : Nat → Nat} {B : BorT} {dy kd : Int32} {V KV : ThT} {hI : Bool} {σ σ' : aS} (h : RX G b tp sr len cd nb B nt dy V hI kn kd KV tw hn σ) (hf : Fr lo hi σ σ') (h1 : b + 40 ≤ lo) (h2 : hi ≤ tp) : RX G b tp sr len cd nb B nt dy V hI kn kd KV tw hn σ' := by
  obtain ⟨o0, hpg, htw, hth, hkp, hy1, hy2, hsp, hro, htp⟩ := h
  exact ⟨lk_f hf o0 (by omega), hpg.fr hf (by omega), htw.fr hf (by omega) (by omega), hth.fr hf (by omega), hkp.fr hf (by omega), hy1.fr hf (by omega), hy2.fr hf (by omega), hsp.fr hf (by omega), hro.fr hf (by omega), htp⟩
theorem RX.lift0 {G : aG} {b tp tp' sr len nt kn tw hn : Nat} {cd : Nat → Nat} {B : BorT} {dy kd : Int32} {V KV : ThT} {hI : Bool} {σ σ' : aS} (h : RX G b tp sr len cd 0 B nt dy V hI kn kd KV tw hn σ) (hk : ∀ a, b ≤ a → a < b + 40 → σ'.2 a = σ.2 a) (ht : b + 40 ≤ tp') : RX G b tp' sr len cd 0 B nt dy V hI kn kd KV tw hn σ' := by
  obtain ⟨o0, hpg, htw, hth, hkp, hy1, hy2, hsp, hro, htp⟩ := h
  exact ⟨(hk b (by omega) (by omega)).trans o0, hpg.kept fun a _ _ => hk a (by omega) (by omega), htw.kept0 (fun a _ _ => hk a (by omega) (by omega)) (by omega), hth.kept fun a _ _ => hk a (by omega) (by omega), hkp.kept fun a _ _ => hk a (by omega) (by omega), hy1.kept fun a _ _ => hk a (by omega) (by omega), hy2.kept fun a _ _ => hk a (by omega) (by omega), hsp.kept fun a _ _ => hk a (by omega) (by omega), hro.kept fun a _ _ => hk a (by omega) (by omega), ht⟩
theorem RMs.kx {G : aG} {m : Nat} {σ σ' : aS} (h : RMs G m σ) (hk : ∀ a, m + 14 ≤ a → a < m + 19 → σ'.2 a = σ.2 a) : RMs G m σ' := by
  obtain ⟨a, b, c, d, e, e1, e2, e3, e4, e5⟩ := h
  exact ⟨a, b, c, d, e, (hk _ (by omega) (by omega)).trans e1, (hk _ (by omega) (by omega)).trans e2, (hk _ (by omega) (by omega)).trans e3, (hk _ (by omega) (by omega)).trans e4, (hk _ (by omega) (by omega)).trans e5⟩
theorem RM.kx {G : aG} {m len nb nt kn tw hn : Nat} {cd : Nat → Nat} {B : BorT} {dy kd : Int32} {V KV : ThT} {hI : Bool} {σ σ' : aS} (h : RM G m len cd nb B nt dy V hI kn kd KV tw hn σ) (hk : ∀ a, m ≤ a → a < m + 23 → σ'.2 a = σ.2 a) : RM G m len cd nb B nt dy V hI kn kd KV tw hn σ' := by
  obtain ⟨fa, nm, wh, hkk, sn, hd, kt, ho, ha, ht, hp, hn1, hs1, hkp, hI1, hI2⟩ := h
  exact ⟨fa, nm, wh, hkk, sn, hd, kt, (hk m (by omega) (by omega)).trans ho, ha.kx fun a _ _ => hk a (by omega) (by omega), ht.kx fun a _ _ => hk a (by omega) (by omega), hp.kx (hk _ (by omega) (by omega)), hn1.kx fun a _ _ => hk a (by omega) (by omega), hs1.kx fun a _ _ => hk a (by omega) (by omega), hkp.kx fun a _ _ => hk a (by omega) (by omega), hI1, hI2⟩
theorem RM.fr {G : aG} {m len nb nt kn tw hn lo hi : Nat} {cd : Nat → Nat} {B : BorT} {dy kd : Int32} {V KV : ThT} {hI : Bool} {σ σ' : aS} (h : RM G m len cd nb B nt dy V hI kn kd KV tw hn σ) (hf : Fr lo hi σ σ') (h1 : hi ≤ m ∨ m + 23 ≤ lo) : RM G m len cd nb B nt dy V hI kn kd KV tw hn σ' := h.kx fun a _ _ => hf.2 a (by omega)
theorem RM.n4 {G : aG} {m len nb nt kn tw hn : Nat} {cd : Nat → Nat} {B : BorT} {dy kd : Int32} {V KV : ThT} {hI : Bool} {σ : aS} (h : RM G m len cd nb B nt dy V hI kn kd KV tw hn σ) : nb ≤ 6 ∧ okB nb B ∧ nt ≤ 4 ∧ ∃ fs, σ.2 m = some (aO 12 fs) := by
  obtain ⟨fa, nm, wh, hkk, sn, hd, kt, ho, ⟨ha, ha2, _⟩, ⟨_, _, _, _, _, _, _, _, ht, _⟩, _⟩ := h
  exact ⟨ha, ha2, ht, _, ho⟩
/-- the class's object at x, the model's at x + 40, n calls done -/
def Jn (G : aG) (x n : Nat) (σ : aS) : Prop := ∃ (tp sr len : Nat) (cd : Nat → Nat) (nb : Nat) (B : BorT) (nt : Nat) (dy : Int32) (V : ThT) (hI : Bool) (kn : Nat) (kd : Int32) (KV : ThT) (tw hn : Nat), RX G x tp sr len cd nb B nt dy V hI kn kd KV tw hn σ ∧ RM G (x + 40) len cd nb B nt dy V hI kn kd KV tw hn σ ∧ Pk nb nt V hI kn KV hn ∧ sr ≤ 448 * n ∧ tw ≤ n ∧ x + 63 ≤ tp ∧ tp ≤ σ.1
theorem Jn.up {G : aG} {x n : Nat} {σ : aS} (h : Jn G x n σ) : Jn G x (n + 1) σ := by
  obtain ⟨tp, sr, len, cd, nb, B, nt, dy, V, hI, kn, kd, KV, tw, hn, h1, h2, h3, h4, h5, h6, h7⟩ := h
  exact ⟨tp, sr, len, cd, nb, B, nt, dy, V, hI, kn, kd, KV, tw, hn, h1, h2, h3, by omega, by omega, h6, h7⟩
