/-! the waves: what the model finds from a state -/
def dnW (D : Nat → Nat) (c s b : Nat) : Nat → Nat → Prop := fun s' b' => D s' < c ∨ (D s' = c ∧ (s' < s ∨ (s' = s ∧ b' < b)))
def KD (c : Nat) (D D' : Nat → Nat) : Prop := ∀ q, D' q = D q ∨ (c < D' q ∧ D' q < inf ∧ c < D q)
def fur (c : Nat) (D : Nat → Nat) : Prop := ∃ q, q < 512 ∧ c < D q ∧ D q < inf
theorem KD.rf {c : Nat} {D : Nat → Nat} : KD c D D := fun _ => .inl rfl
theorem KD.tr {c : Nat} {D D1 D2 : Nat → Nat} (h : KD c D D1) (h2 : KD c D1 D2) : KD c D D2 := fun q => by
  rcases h2 q with e | ⟨a, b, d⟩
  · rcases h q with e2 | ⟨a2, b2, d2⟩
    · exact .inl (e.trans e2)
    · exact .inr ⟨by omega, by omega, d2⟩
  · rcases h q with e2 | ⟨a2, b2, d2⟩
    · exact .inr ⟨a, b, by omega⟩
    · exact .inr ⟨a, b, d2⟩
theorem KD.fur {c : Nat} {D D1 : Nat → Nat} (h : KD c D D1) (hf : fur c D) : fur c D1 := by
  obtain ⟨q, h1, h2, h3⟩ := hf
  rcases h q with e | ⟨a, b, _⟩
  · exact ⟨q, h1, by omega, by omega⟩
  · exact ⟨q, h1, a, b⟩
def Cnr (D F : Nat → Nat) (s0 to c w b s : Nat) : Prop := c + w < D to ∨ (c + w = D to ∧ cnd s0 F b s < F to)
theorem wv_step {nb : Nat} {mB : Nat → Nat → Nat} {wt : Nat → Nat} {al : Nat → Bool} {s0 c s b : Nat} {D F : Nat → Nat} (hw : okW nb mB wt) (h : SpI nb mB wt al s0 (dnW D c s b) D F) (hb : b < nb) (ha : al b = true) (hs : s < 512) (hd : D s = c) (hci : c < inf) (hC : Cnr D F s0 (mB b s) c (wt b) b s) :
    SpI nb mB wt al s0 (dnW (fun q => if q = mB b s then c + wt b else D q) c s (b + 1)) (fun q => if q = mB b s then c + wt b else D q) (fun q => if q = mB b s then cnd s0 F b s else F q) ∧ (if s = mB b s then c + wt b else D s) = c ∧ KD c D (fun q => if q = mB b s then c + wt b else D q) ∧ c < D (mB b s) ∧ c + wt b < inf ∧ mB b s ≠ s0 ∧ fur c (fun q => if q = mB b s then c + wt b else D q) := by
  obtain ⟨w1, w2, w3⟩ := hw b hb
  have hto := w3 s hs
  have hbd := h.bnd hw s hs (by omega)
  have hto2 : c < D (mB b s) := by rcases hC with q | ⟨q, _⟩ <;> omega
  have hts : s ≠ mB b s := fun e => by rw [← e] at hto2; omega
  have hin : c + wt b < inf := by simp only [inf]; omega
  have hne : mB b s ≠ s0 := fun e => by have := h.2.1; rw [e] at hto2; omega
  refine ⟨?_, by rw [if_neg hts]; exact hd, fun q => ?_, hto2, hin, hne, ?_⟩
  · have h2 := SpI.relax (dn' := dnW D c s (b + 1)) (D' := fun q => if q = mB b s then c + wt b else D q) (F' := fun q => if q = mB b s then cnd s0 F b s else F q) hw h hb ha hs (by omega) (fun s' b' => by
      unfold dnW
      constructor
      · rintro (q | ⟨q1, q2 | ⟨q2, q3⟩⟩)
        · exact .inl (.inl q)
        · exact .inl (.inr ⟨q1, .inl q2⟩)
        · by_cases e : b' = b
          · exact .inr ⟨q2, e⟩
          · exact .inl (.inr ⟨q1, .inr ⟨q2, by omega⟩⟩)
      · rintro ((q | ⟨q1, q2 | ⟨q2, q3⟩⟩) | ⟨q1, q2⟩)
        · exact .inl q
        · exact .inr ⟨q1, .inl q2⟩
        · exact .inr ⟨q1, .inr ⟨q2, by omega⟩⟩
        · exact .inr ⟨by rw [q1]; exact hd, .inr ⟨q1, by omega⟩⟩) (.inr ⟨by rw [hd]; exact hC, fun b' q => by
        rcases q with q | ⟨q1, _⟩ <;> omega, fun q => by rw [hd], fun q => rfl⟩)
    refine h2.cg fun s' b' _ _ _ => ?_
    unfold dnW
    by_cases e : s' = mB b s
    · simp only [if_pos e]
      rw [e]
      exact ⟨fun q => by rcases q with q | ⟨q, _⟩ <;> omega, fun q => by rcases q with q | ⟨q, _⟩ <;> omega⟩
    · simp only [if_neg e]
  · by_cases e : q = mB b s
    · refine .inr ⟨?_, ?_, by rw [e]; exact hto2⟩
      · simp only [if_pos e]; omega
      · simp only [if_pos e]; exact hin
    · exact .inl (if_neg e)
  · refine ⟨mB b s, hto, ?_, ?_⟩
    · simp only [if_pos]; omega
    · simp only [if_pos]; exact hin
theorem wv_stay {nb : Nat} {mB : Nat → Nat → Nat} {wt : Nat → Nat} {al : Nat → Bool} {s0 c s b : Nat} {D F : Nat → Nat} (hw : okW nb mB wt) (h : SpI nb mB wt al s0 (dnW D c s b) D F) (hb : b < nb) (ha : al b = true) (hs : s < 512) (hd : D s = c) (hci : c < inf) (hC : ¬ Cnr D F s0 (mB b s) c (wt b) b s) : SpI nb mB wt al s0 (dnW D c s (b + 1)) D F := by
  refine SpI.relax (dn' := dnW D c s (b + 1)) hw h hb ha hs (by omega) (fun s' b' => ?_) (.inl ⟨rfl, rfl, by rw [hd]; exact hC⟩)
  unfold dnW
  constructor
  · rintro (q | ⟨q1, q2 | ⟨q2, q3⟩⟩)
    · exact .inl (.inl q)
    · exact .inl (.inr ⟨q1, .inl q2⟩)
    · by_cases e : b' = b
      · exact .inr ⟨q2, e⟩
      · exact .inl (.inr ⟨q1, .inr ⟨q2, by omega⟩⟩)
  · rintro ((q | ⟨q1, q2 | ⟨q2, q3⟩⟩) | ⟨q1, q2⟩)
    · exact .inl q
    · exact .inr ⟨q1, .inl q2⟩
    · exact .inr ⟨q1, .inr ⟨q2, by omega⟩⟩
    · exact .inr ⟨by rw [q1]; exact hd, .inr ⟨q1, by omega⟩⟩
theorem wv_skip {nb : Nat} {mB : Nat → Nat → Nat} {wt : Nat → Nat} {al : Nat → Bool} {s0 c s b : Nat} {D F : Nat → Nat} (h : SpI nb mB wt al s0 (dnW D c s b) D F) (ha : ¬ al b = true) : SpI nb mB wt al s0 (dnW D c s (b + 1)) D F :=
  h.cg fun s' b' _ _ ha' => by
    unfold dnW
    have : b' ≠ b := fun e => ha (e ▸ ha')
    constructor
    · rintro (q | ⟨q1, q2 | ⟨q2, q3⟩⟩)
      · exact .inl q
      · exact .inr ⟨q1, .inl q2⟩
      · exact .inr ⟨q1, .inr ⟨q2, by omega⟩⟩
    · rintro (q | ⟨q1, q2 | ⟨q2, q3⟩⟩)
      · exact .inl q
      · exact .inr ⟨q1, .inl q2⟩
      · exact .inr ⟨q1, .inr ⟨q2, by omega⟩⟩
theorem wv_end {nb : Nat} {mB : Nat → Nat → Nat} {wt : Nat → Nat} {al : Nat → Bool} {s0 c s : Nat} {D F : Nat → Nat} (h : SpI nb mB wt al s0 (dnW D c s nb) D F) : SpI nb mB wt al s0 (dnW D c (s + 1) 0) D F :=
  h.cg fun s' b' _ hb' _ => by
    unfold dnW
    constructor
    · rintro (q | ⟨q1, q2 | ⟨q2, q3⟩⟩)
      · exact .inl q
      · exact .inr ⟨q1, .inl (by omega)⟩
      · exact .inr ⟨q1, .inl (by omega)⟩
    · rintro (q | ⟨q1, q2 | ⟨q2, q3⟩⟩)
      · exact .inl q
      · by_cases e : s' = s
        · exact .inr ⟨q1, .inr ⟨e, hb'⟩⟩
        · exact .inr ⟨q1, .inl (by omega)⟩
      · exact absurd q3 (Nat.not_lt_zero _)
theorem wv_next {nb : Nat} {mB : Nat → Nat → Nat} {wt : Nat → Nat} {al : Nat → Bool} {s0 c s : Nat} {D F : Nat → Nat} (h : SpI nb mB wt al s0 (dnW D c s 0) D F) (hne : ¬ D s = c) : SpI nb mB wt al s0 (dnW D c (s + 1) 0) D F :=
  h.cg fun s' b' _ _ _ => by
    unfold dnW
    constructor
    · rintro (q | ⟨q1, q2 | ⟨q2, q3⟩⟩)
      · exact .inl q
      · exact .inr ⟨q1, .inl (by omega)⟩
      · exact absurd q3 (Nat.not_lt_zero _)
    · rintro (q | ⟨q1, q2 | ⟨q2, q3⟩⟩)
      · exact .inl q
      · by_cases e : s' = s
        · exact absurd (e ▸ q1) hne
        · exact .inr ⟨q1, .inl (by omega)⟩
      · exact absurd q3 (Nat.not_lt_zero _)
theorem wv_wave {nb : Nat} {mB : Nat → Nat → Nat} {wt : Nat → Nat} {al : Nat → Bool} {s0 c : Nat} {D F : Nat → Nat} (h : SpI nb mB wt al s0 (dnW D c 512 0) D F) : SpI nb mB wt al s0 (dnW D (c + 1) 0 0) D F :=
  h.cg fun s' b' hs' _ _ => by
    unfold dnW
    constructor
    · rintro (q | ⟨q1, q2 | ⟨q2, q3⟩⟩)
      · exact .inl (by omega)
      · exact .inl (by omega)
      · exact absurd q3 (Nat.not_lt_zero _)
    · rintro (q | ⟨q1, q2 | ⟨q2, q3⟩⟩)
      · by_cases e : D s' = c
        · exact .inr ⟨e, .inl hs'⟩
        · exact .inl (by omega)
      · exact absurd q2 (Nat.not_lt_zero _)
      · exact absurd q3 (Nat.not_lt_zero _)
theorem wv_fin {nb : Nat} {mB : Nat → Nat → Nat} {wt : Nat → Nat} {al : Nat → Bool} {s0 c : Nat} {D F : Nat → Nat} (h : SpI nb mB wt al s0 (dnW D c 0 0) D F) (hc : c ≤ inf) (hall : ∀ q, q < 512 → D q < inf → D q < c) : SpF nb mB wt al s0 D F :=
  h.cg fun s' b' hs' _ _ => by
    unfold dnW
    constructor
    · rintro (q | ⟨q1, q2 | ⟨q2, q3⟩⟩)
      · show D s' < inf
        omega
      · exact absurd q2 (Nat.not_lt_zero _)
      · exact absurd q3 (Nat.not_lt_zero _)
    · intro q
      exact .inl (hall s' hs' q)
theorem wv_0 {nb : Nat} {mB : Nat → Nat → Nat} {wt : Nat → Nat} {al : Nat → Bool} {s0 : Nat} (hs : s0 < 512) : SpI nb mB wt al s0 (dnW (fun q => if q = s0 then 0 else inf) 0 0 0) (fun q => if q = s0 then 0 else inf) (fun _ => 0) := by
  refine ⟨hs, if_pos rfl, fun q hq => ?_, fun q hq hne hd => ?_, fun b q hb _ hq hd => ?_⟩
  · show (if q = s0 then 0 else inf) ≤ inf
    split <;> omega
  · simp only [if_neg hne] at hd
    exact absurd hd (Nat.lt_irrefl _)
  · unfold dnW at hd
    rcases hd with z | ⟨_, z | ⟨_, z⟩⟩ <;> exact absurd z (Nat.not_lt_zero _)
/-- farOf and firstOf -/
def RWv (G : aG) (m s0 : Nat) (D F : Nat → Nat) (σ : aS) : Prop := ∃ g f : Nat → Int32, σ.2 (m + 14) = some (aI G 512 g) ∧ σ.2 (m + 15) = some (aI G 512 f) ∧ ∀ q, q < 512 → g q = nI (D q) ∧ f q = fV s0 q (D q) (F q)
theorem bit_al {wo b : Nat} : alS wo b = true ↔ wo / 2 ^ b % 2 = 0 := by
  unfold alS bitN
  by_cases h : wo / 2 ^ b % 2 = 1
  · rw [decide_eq_true h]
    exact ⟨fun q => absurd q (by decide), fun q => absurd h (by omega)⟩
  · rw [decide_eq_false h]
    exact ⟨fun _ => by omega, fun _ => rfl⟩
theorem alS0 : alS 0 = alT := funext fun b => by
  show alS 0 b = true
  rw [bit_al, Nat.zero_div]
theorem wv_ft {nb : Nat} {mB : Nat → Nat → Nat} {wt : Nat → Nat} {al : Nat → Bool} {s0 to : Nat} {dn : Nat → Nat → Prop} {D F : Nat → Nat} (hw : okW nb mB wt) (h : SpI nb mB wt al s0 dn D F) (hs : to < 512) (hc : 1 ≤ D to) (hi : D to < inf) : fV s0 to (D to) (F to) = nI (F to) ∧ F to < nb := by
  have q2 : to ≠ s0 := fun q => by have := h.2.1; rw [q] at hc; omega
  exact ⟨fV_in hi q2, h.fst hw _ hs q2 hi⟩
theorem RWv.s {G : aG} {m s0 : Nat} {D F : Nat → Nat} {σ σ' : aS} (h : RWv G m s0 D F σ') (hs : RMs G m σ) (hf : Fr (m + 14) (m + 16) σ σ') : RMs G m σ' := by
  obtain ⟨g, f, h1, h2, _⟩ := h
  obtain ⟨a, b, c, d, e, _, _, s3, s4, s5⟩ := hs
  exact ⟨g, f, c, d, e, h1, h2, lk_f hf s3 (by omega), lk_f hf s4 (by omega), lk_f hf s5 (by omega)⟩
set_option maxRecDepth 100000 in
set_option maxHeartbeats 1000000 in
theorem ct_goFrom (l : Launch) (G : aG) {m tw nb nt hn len kt kn s s0 c wo : Nat} {dy fa nm kd : Int32} {wh hk : Bool} {sn hd : Int64} {σ : aS} (ho : σ.2 m = some (oM m tw nb nt dy hn len fa wh nm sn hk kt kn kd hd)) {D F : Nat → Nat} {byd : Bool} {B : BorT} (ha : RMa G m nb B σ) (hv : RWv G m s0 D F σ) (hI : SpI nb (mkB B) (wtB byd B) (alS wo) s0 (dnW D c s 0) D F) (hs : s < 512) (hd : D s = c) (hci : c < inf) (hwo : wo < 64) : ACt l G yX12_goFrom cX12_goFrom 10 (some (.boolean)) 2 0 0 [.ref m, .int (nI s), .int (bI byd), .int (nI wo)] σ (iP (fun v σ' => ∃ (a : Bool) (D1 F1 : Nat → Nat), v = bI a ∧ RWv G m s0 D1 F1 σ' ∧ SpI nb (mkB B) (wtB byd B) (alS wo) s0 (dnW D1 c s nb) D1 F1 ∧ KD c D D1 ∧ (a = true → fur c D1) ∧ (a = false → D1 = D) ∧ Fr (m + 14) (m + 16) σ σ')) := by
  obtain ⟨hnb, hok, gk, gt, gm, gd, e1, e2, e3, e4, e5⟩ := id ha
  have hw := okW_of byd hok
  have hsc := nI_clamp (n := s) (by omega)
  refine ACt.intro (own := RX12) (nm := "goFrom") mk_X12_goFrom rfl rfl [some (.ref m), some (.int (nI s)), some (.int (bI byd)), some (.int (nI wo)), none, none, none, none, none, none] rfl (Nat.le_of_ble_eq_true rfl) (fun X hX hR => ?_)
  refine A_iconst (pc := 0) (v := (nI 0)) (by decide) hX dX12_goFrom_0 ?_
  refine A_istore (pc := 1) (lv' := [_, _, _, _, _, _, _, _, _, _]) hX dX12_goFrom_1 (Nat.le_of_ble_eq_true rfl) rfl rfl ?_
  refine A_iconst (pc := 3) (v := (nI 0)) (by decide) hX dX12_goFrom_3 ?_
  refine A_istore (pc := 4) (lv' := [_, _, _, _, _, _, _, _, _, _]) hX dX12_goFrom_4 (Nat.le_of_ble_eq_true rfl) rfl rfl ?_
  suffices hl : ∀ (k b : Nat) (σ1 : aS) (a : Bool) (D1 F1 : Nat → Nat) (v6 v7 v8 v9 : Option Value), b ≤ nb → nb - b = k → Fr (m + 14) (m + 16) σ σ1 → RWv G m s0 D1 F1 σ1 → SpI nb (mkB B) (wtB byd B) (alS wo) s0 (dnW D1 c s b) D1 F1 → D1 s = c → KD c D D1 → (a = true → fur c D1) → (a = false → D1 = D) → AA G X 0 0 6 [some (.ref m), some (.int (nI s)), some (.int (bI byd)), some (.int (nI wo)), some (.int (bI a)), some (.int (nI b)), v6, v7, v8, v9] [] σ1 from hl nb 0 σ false D F none none none none (Nat.zero_le _) rfl Fr.rf hv hI hd KD.rf (fun q => absurd q (by decide)) (fun _ => rfl)
  intro k
  induction k with
  | zero =>
    intro b σ1 a D1 F1 v6 v7 v8 v9 hb hk hF hv1 hI1 hd1 hK ha1 ha2
    have e : nb = b := by omega
    subst e
    have o1 := lk_f hF ho (by omega)
    refine A_iload (pc := 6) rfl hX dX12_goFrom_6 ?_
    refine A_aload_n (pc := 8) rfl hX dX12_goFrom_8 ?_
    refine A_getf (pc := 9) hX fl_X12_103_12 dX12_goFrom_9 (by repeat (first | assumption | exact aSet_s | exact aNew_s | refine lk_n ?_ (by omega) | refine lk_f (by assumption) ?_ (by omega) | refine lk_w ?_ (by omega))) (by exact rfl) ?_
    refine A_icmp_ge (pc := 12) 193 hX dX12_goFrom_12 rfl (fun c12 => ?_) (fun c12 => ?_)
    · refine A_iload (pc := 193) rfl hX dX12_goFrom_193 ?_
      refine A_iret (pc := 195) hX hR dX12_goFrom_195 rfl (bI_z _) ?_
      exact ⟨_, rfl, a, D1, F1, rfl, hv1, hI1, hK, ha1, ha2, hF⟩
    · exact absurd (nI_le (Nat.le_refl _) (by omega)) c12
  | succ k ih =>
    intro b σ1 a D1 F1 v6 v7 v8 v9 hb hk hF hv1 hI1 hd1 hK ha1 ha2
    have hbl : b < nb := by omega
    have o1 := lk_f hF ho (by omega)
    have haa := ha.fr hF (by omega)
    obtain ⟨g, f, x1, x2, hr⟩ := id hv1
    have y4 := lk_f hF e4 (by omega)
    have hbc := nI_clamp (n := b) (by omega)
    obtain ⟨u1, u2, u3, u4⟩ := e5 b hbl
    by_cases hal : alS wo b = true
    · have htl : mkB B b s < 512 := mkB_lt hok hbl hs
      have htc := nI_clamp (n := mkB B b s) (by omega)
      obtain ⟨w1, w2, w3⟩ := hw b hbl
      have hbd := hI1.bnd hw s hs (by omega)
      have hDt := hI1.2.2.1 _ htl
      have hDt2 : D1 (mkB B b s) < 2 ^ 31 := by simp only [inf] at hDt; omega
      have hin : c + wtB byd B b < inf := by simp only [inf]; omega
      have h1 : Cnr D1 F1 s0 (mkB B b s) c (wtB byd B b) b s → AA G X 0 0 120 [some (.ref m), some (.int (nI s)), some (.int (bI byd)), some (.int (nI wo)), some (.int (bI a)), some (.int (nI b)), some (.int (nI (mkB B b s))), some (.int (nI (c + wtB byd B b))), some (.int (nI (cnd s0 F1 b s))), v9] [.int (nI 1)] σ1 := by
        intro hC
        obtain ⟨k1, k2, k3, k4, k5, k6, k7⟩ := wv_step hw hI1 hbl hal hs hd1 hci hC
        have hgo : AA G X 0 0 185 [some (.ref m), some (.int (nI s)), some (.int (bI byd)), some (.int (nI wo)), some (.int (bI a)), some (.int (nI b)), some (.int (nI (mkB B b s))), some (.int (nI (c + wtB byd B b))), some (.int (nI (cnd s0 F1 b s))), some (.int (nI 1))] [.int (bI true)] (aSet (aSet σ1 (m + 14) (aI G 512 (upd g (mkB B b s) (nI (c + wtB byd B b))))) (m + 15) (aI G 512 (upd f (mkB B b s) (nI (cnd s0 F1 b s))))) := by
          skip
          refine A_istore (pc := 185) (lv' := [_, _, _, _, _, _, _, _, _, _]) hX dX12_goFrom_185 (Nat.le_of_ble_eq_true rfl) rfl rfl ?_
          refine A_iinc (pc := 187) (v := (nI (b + 1))) (lv' := [_, _, _, _, _, _, _, _, _, _]) hX dX12_goFrom_187 rfl (nI_succ b).symm rfl rfl ?_
          refine A_goto (pc := 190) 6 hX dX12_goFrom_190 rfl ?_
          refine ih (b + 1) _ true _ _ _ _ _ _ (by omega) (by omega) (by repeat (first | exact Fr.rf | refine Fr.set ?_ (by omega) (by omega) | refine Fr.tr ?_ (Fr.wd (by assumption) (by omega) (by omega)))) ⟨_, _, (by repeat (first | assumption | exact aSet_s | exact aNew_s | refine lk_n ?_ (by omega) | refine lk_f (by assumption) ?_ (by omega) | refine lk_w ?_ (by omega))), aSet_s, (fun q hq => by
            by_cases e : q = mkB B b s
            · subst e; simp only [upd, if_pos]; refine ⟨?_, ?_⟩ <;> first | rfl | trivial | exact (fV_in k5 k6).symm
            · simp only [upd, if_neg e]; exact hr q hq)⟩ k1 k2 (hK.tr k3) (fun _ => k7) (fun q => absurd q (by decide))
        refine A_istore (pc := 120) (lv' := [_, _, _, _, _, _, _, _, _, _]) hX dX12_goFrom_120 (Nat.le_of_ble_eq_true rfl) rfl rfl ?_
        refine A_aload_n (pc := 122) rfl hX dX12_goFrom_122 ?_
        refine A_getf (pc := 123) hX fl_X12_50_12 dX12_goFrom_123 (by repeat (first | assumption | exact aSet_s | exact aNew_s | refine lk_n ?_ (by omega) | refine lk_f (by assumption) ?_ (by omega) | refine lk_w ?_ (by omega))) (by exact rfl) ?_
        refine A_iload (pc := 126) rfl hX dX12_goFrom_126 ?_
        refine A_iload (pc := 128) rfl hX dX12_goFrom_128 ?_
        refine A_if_eq (pc := 130) 138 hX dX12_goFrom_130 rfl (fun c130 => ?_) (fun c130 => ?_)
        · exact absurd c130 (by decide)
        · refine A_iload (pc := 133) rfl hX dX12_goFrom_133 ?_
          refine A_goto (pc := 135) 145 hX dX12_goFrom_135 rfl ?_
          refine A_iast (pc := 145) hX dX12_goFrom_145 (by repeat (first | assumption | exact aSet_s | exact aNew_s | refine lk_n ?_ (by omega) | refine lk_f (by assumption) ?_ (by omega) | refine lk_w ?_ (by omega))) (vp_in_nI (by omega) (by decide)) ?_
          refine A_aload_n (pc := 146) rfl hX dX12_goFrom_146 ?_
          refine A_getf (pc := 147) hX fl_X12_53_12 dX12_goFrom_147 (by repeat (first | assumption | exact aSet_s | exact aNew_s | refine lk_n ?_ (by omega) | refine lk_f (by assumption) ?_ (by omega) | refine lk_w ?_ (by omega))) (by exact rfl) ?_
          refine A_iload (pc := 150) rfl hX dX12_goFrom_150 ?_
          refine A_iload (pc := 152) rfl hX dX12_goFrom_152 ?_
          refine A_if_eq (pc := 154) 162 hX dX12_goFrom_154 rfl (fun c154 => ?_) (fun c154 => ?_)
          · exact absurd c154 (by decide)
          · refine A_iload (pc := 157) rfl hX dX12_goFrom_157 ?_
            refine A_goto (pc := 159) 169 hX dX12_goFrom_159 rfl ?_
            refine A_iast (pc := 169) hX dX12_goFrom_169 (by repeat (first | assumption | exact aSet_s | exact aNew_s | refine lk_n ?_ (by omega) | refine lk_f (by assumption) ?_ (by omega) | refine lk_w ?_ (by omega))) (vp_in_nI (by omega) (by decide)) ?_
            refine A_iload (pc := 170) rfl hX dX12_goFrom_170 ?_
            refine A_if_ne (pc := 172) 180 hX dX12_goFrom_172 rfl (fun c172 => ?_) (fun c172 => ?_)
            · refine A_iconst (pc := 180) (v := (nI 1)) (by decide) hX dX12_goFrom_180 ?_
              refine A_goto (pc := 181) 185 hX dX12_goFrom_181 rfl ?_
              rw [htc]
              exact A_top rfl hgo
            · refine A_iload (pc := 175) rfl hX dX12_goFrom_175 ?_
              refine A_if_eq (pc := 177) 184 hX dX12_goFrom_177 rfl (fun c177 => ?_) (fun c177 => ?_)
              · exact absurd c177 (by decide)
              · refine A_iconst (pc := 180) (v := (nI 1)) (by decide) hX dX12_goFrom_180 ?_
                refine A_goto (pc := 181) 185 hX dX12_goFrom_181 rfl ?_
                rw [htc]
                exact A_top rfl hgo
      have h0 : ¬ Cnr D1 F1 s0 (mkB B b s) c (wtB byd B b) b s → AA G X 0 0 120 [some (.ref m), some (.int (nI s)), some (.int (bI byd)), some (.int (nI wo)), some (.int (bI a)), some (.int (nI b)), some (.int (nI (mkB B b s))), some (.int (nI (c + wtB byd B b))), some (.int (nI (cnd s0 F1 b s))), v9] [.int (nI 0)] σ1 := by
        intro hC
        have k1 := wv_stay hw hI1 hbl hal hs hd1 hci hC
        have hgo : ∀ z : Int32, z = bI a → AA G X 0 0 185 [some (.ref m), some (.int (nI s)), some (.int (bI byd)), some (.int (nI wo)), some (.int (bI a)), some (.int (nI b)), some (.int (nI (mkB B b s))), some (.int (nI (c + wtB byd B b))), some (.int (nI (cnd s0 F1 b s))), some (.int (nI 0))] [.int z] (aSet (aSet σ1 (m + 14) (aI G 512 (upd g (mkB B b s) (g (mkB B b s))))) (m + 15) (aI G 512 (upd f (mkB B b s) (f (mkB B b s))))) := by
          intro z hz
          subst hz
          refine A_istore (pc := 185) (lv' := [_, _, _, _, _, _, _, _, _, _]) hX dX12_goFrom_185 (Nat.le_of_ble_eq_true rfl) rfl rfl ?_
          refine A_iinc (pc := 187) (v := (nI (b + 1))) (lv' := [_, _, _, _, _, _, _, _, _, _]) hX dX12_goFrom_187 rfl (nI_succ b).symm rfl rfl ?_
          refine A_goto (pc := 190) 6 hX dX12_goFrom_190 rfl ?_
          refine ih (b + 1) _ a _ _ _ _ _ _ (by omega) (by omega) (by repeat (first | exact Fr.rf | refine Fr.set ?_ (by omega) (by omega) | refine Fr.tr ?_ (Fr.wd (by assumption) (by omega) (by omega)))) ⟨_, _, (by repeat (first | assumption | exact aSet_s | exact aNew_s | refine lk_n ?_ (by omega) | refine lk_f (by assumption) ?_ (by omega) | refine lk_w ?_ (by omega))), aSet_s, fun q hq => by
            by_cases e : q = mkB B b s
            · subst e; simp only [upd, if_pos]; exact hr _ hq
            · simp only [upd, if_neg e]; exact hr q hq⟩ k1 hd1 hK ha1 ha2
        refine A_istore (pc := 120) (lv' := [_, _, _, _, _, _, _, _, _, _]) hX dX12_goFrom_120 (Nat.le_of_ble_eq_true rfl) rfl rfl ?_
        refine A_aload_n (pc := 122) rfl hX dX12_goFrom_122 ?_
        refine A_getf (pc := 123) hX fl_X12_50_12 dX12_goFrom_123 (by repeat (first | assumption | exact aSet_s | exact aNew_s | refine lk_n ?_ (by omega) | refine lk_f (by assumption) ?_ (by omega) | refine lk_w ?_ (by omega))) (by exact rfl) ?_
        refine A_iload (pc := 126) rfl hX dX12_goFrom_126 ?_
        refine A_iload (pc := 128) rfl hX dX12_goFrom_128 ?_
        refine A_if_eq (pc := 130) 138 hX dX12_goFrom_130 rfl (fun c130 => ?_) (fun c130 => ?_)
        · refine A_aload_n (pc := 138) rfl hX dX12_goFrom_138 ?_
          refine A_getf (pc := 139) hX fl_X12_50_12 dX12_goFrom_139 (by repeat (first | assumption | exact aSet_s | exact aNew_s | refine lk_n ?_ (by omega) | refine lk_f (by assumption) ?_ (by omega) | refine lk_w ?_ (by omega))) (by exact rfl) ?_
          refine A_iload (pc := 142) rfl hX dX12_goFrom_142 ?_
          refine A_iald (pc := 144) hX dX12_goFrom_144 (by repeat (first | assumption | exact aSet_s | exact aNew_s | refine lk_n ?_ (by omega) | refine lk_f (by assumption) ?_ (by omega) | refine lk_w ?_ (by omega))) (vp_in_nI (by omega) (by decide)) ?_
          refine A_iast (pc := 145) hX dX12_goFrom_145 (by repeat (first | assumption | exact aSet_s | exact aNew_s | refine lk_n ?_ (by omega) | refine lk_f (by assumption) ?_ (by omega) | refine lk_w ?_ (by omega))) (vp_in_nI (by omega) (by decide)) ?_
          refine A_aload_n (pc := 146) rfl hX dX12_goFrom_146 ?_
          refine A_getf (pc := 147) hX fl_X12_53_12 dX12_goFrom_147 (by repeat (first | assumption | exact aSet_s | exact aNew_s | refine lk_n ?_ (by omega) | refine lk_f (by assumption) ?_ (by omega) | refine lk_w ?_ (by omega))) (by exact rfl) ?_
          refine A_iload (pc := 150) rfl hX dX12_goFrom_150 ?_
          refine A_iload (pc := 152) rfl hX dX12_goFrom_152 ?_
          refine A_if_eq (pc := 154) 162 hX dX12_goFrom_154 rfl (fun c154 => ?_) (fun c154 => ?_)
          · refine A_aload_n (pc := 162) rfl hX dX12_goFrom_162 ?_
            refine A_getf (pc := 163) hX fl_X12_53_12 dX12_goFrom_163 (by repeat (first | assumption | exact aSet_s | exact aNew_s | refine lk_n ?_ (by omega) | refine lk_f (by assumption) ?_ (by omega) | refine lk_w ?_ (by omega))) (by exact rfl) ?_
            refine A_iload (pc := 166) rfl hX dX12_goFrom_166 ?_
            refine A_iald (pc := 168) hX dX12_goFrom_168 (by repeat (first | assumption | exact aSet_s | exact aNew_s | refine lk_n ?_ (by omega) | refine lk_f (by assumption) ?_ (by omega) | refine lk_w ?_ (by omega))) (vp_in_nI (by omega) (by decide)) ?_
            refine A_iast (pc := 169) hX dX12_goFrom_169 (by repeat (first | assumption | exact aSet_s | exact aNew_s | refine lk_n ?_ (by omega) | refine lk_f (by assumption) ?_ (by omega) | refine lk_w ?_ (by omega))) (vp_in_nI (by omega) (by decide)) ?_
            refine A_iload (pc := 170) rfl hX dX12_goFrom_170 ?_
            refine A_if_ne (pc := 172) 180 hX dX12_goFrom_172 rfl (fun c172 => ?_) (fun c172 => ?_)
            · refine A_iconst (pc := 180) (v := (nI 1)) (by decide) hX dX12_goFrom_180 ?_
              refine A_goto (pc := 181) 185 hX dX12_goFrom_181 rfl ?_
              rw [htc]
              exact hgo _ (by first | (rw [bI_ne c172]; rfl) | (rw [bI_eq c172]; rfl))
            · refine A_iload (pc := 175) rfl hX dX12_goFrom_175 ?_
              refine A_if_eq (pc := 177) 184 hX dX12_goFrom_177 rfl (fun c177 => ?_) (fun c177 => ?_)
              · refine A_iconst (pc := 184) (v := (nI 0)) (by decide) hX dX12_goFrom_184 ?_
                rw [htc]
                exact hgo _ (by first | (rw [bI_ne c172]; rfl) | (rw [bI_eq c172]; rfl))
              · exact absurd rfl c177
          · exact absurd rfl c154
        · exact absurd rfl c130
      have h77 : AA G X 0 0 77 [some (.ref m), some (.int (nI s)), some (.int (bI byd)), some (.int (nI wo)), some (.int (bI a)), some (.int (nI b)), some (.int (nI (mkB B b s))), some (.int (nI (c + wtB byd B b))), v8, v9] [.int (nI (cnd s0 F1 b s))] σ1 := by
        have hcn : cnd s0 F1 b s < nb := by
          unfold cnd
          split
          · exact hbl
          · rename_i q
            exact hI1.fst hw s hs q (by omega)
        refine A_istore (pc := 77) (lv' := [_, _, _, _, _, _, _, _, _, _]) hX dX12_goFrom_77 (Nat.le_of_ble_eq_true rfl) rfl rfl ?_
        refine A_iload (pc := 79) rfl hX dX12_goFrom_79 ?_
        refine A_aload_n (pc := 81) rfl hX dX12_goFrom_81 ?_
        refine A_getf (pc := 82) hX fl_X12_50_12 dX12_goFrom_82 (by repeat (first | assumption | exact aSet_s | exact aNew_s | refine lk_n ?_ (by omega) | refine lk_f (by assumption) ?_ (by omega) | refine lk_w ?_ (by omega))) (by exact rfl) ?_
        refine A_iload (pc := 85) rfl hX dX12_goFrom_85 ?_
        refine A_iald (pc := 87) hX dX12_goFrom_87 (by repeat (first | assumption | exact aSet_s | exact aNew_s | refine lk_n ?_ (by omega) | refine lk_f (by assumption) ?_ (by omega) | refine lk_w ?_ (by omega))) (vp_in_nI (by omega) (by decide)) ?_
        refine A_top (y := nI (D1 (mkB B b s))) (by rw [htc]; exact (hr _ htl).1) ?_
        refine A_icmp_lt (pc := 88) 115 hX dX12_goFrom_88 rfl (fun c88 => ?_) (fun c88 => ?_)
        · refine A_iconst (pc := 115) (v := (nI 1)) (by decide) hX dX12_goFrom_115 ?_
          refine A_goto (pc := 116) 120 hX dX12_goFrom_116 rfl ?_
          exact h1 (Or.inl ((nI_ltI (by omega) hDt2).mp c88))
        · refine A_iload (pc := 91) rfl hX dX12_goFrom_91 ?_
          refine A_aload_n (pc := 93) rfl hX dX12_goFrom_93 ?_
          refine A_getf (pc := 94) hX fl_X12_50_12 dX12_goFrom_94 (by repeat (first | assumption | exact aSet_s | exact aNew_s | refine lk_n ?_ (by omega) | refine lk_f (by assumption) ?_ (by omega) | refine lk_w ?_ (by omega))) (by exact rfl) ?_
          refine A_iload (pc := 97) rfl hX dX12_goFrom_97 ?_
          refine A_iald (pc := 99) hX dX12_goFrom_99 (by repeat (first | assumption | exact aSet_s | exact aNew_s | refine lk_n ?_ (by omega) | refine lk_f (by assumption) ?_ (by omega) | refine lk_w ?_ (by omega))) (vp_in_nI (by omega) (by decide)) ?_
          refine A_top (y := nI (D1 (mkB B b s))) (by rw [htc]; exact (hr _ htl).1) ?_
          refine A_icmp_ne (pc := 100) 119 hX dX12_goFrom_100 rfl (fun c100 => ?_) (fun c100 => ?_)
          · refine A_iconst (pc := 119) (v := (nI 0)) (by decide) hX dX12_goFrom_119 ?_
            exact h0 (fun q => Or.elim q (fun q => c88 ((nI_ltI (by omega) hDt2).mpr q)) (fun q => c100 (by rw [q.1])))
          · have he := (nI_eq (by omega) hDt2).mp c100
            obtain ⟨q1, q2⟩ := wv_ft hw hI1 htl (by omega) (by rw [← he]; exact hin)
            refine A_iload (pc := 103) rfl hX dX12_goFrom_103 ?_
            refine A_aload_n (pc := 105) rfl hX dX12_goFrom_105 ?_
            refine A_getf (pc := 106) hX fl_X12_53_12 dX12_goFrom_106 (by repeat (first | assumption | exact aSet_s | exact aNew_s | refine lk_n ?_ (by omega) | refine lk_f (by assumption) ?_ (by omega) | refine lk_w ?_ (by omega))) (by exact rfl) ?_
            refine A_iload (pc := 109) rfl hX dX12_goFrom_109 ?_
            refine A_iald (pc := 111) hX dX12_goFrom_111 (by repeat (first | assumption | exact aSet_s | exact aNew_s | refine lk_n ?_ (by omega) | refine lk_f (by assumption) ?_ (by omega) | refine lk_w ?_ (by omega))) (vp_in_nI (by omega) (by decide)) ?_
            refine A_top (y := nI (F1 (mkB B b s))) (by rw [htc]; exact (hr _ htl).2.trans q1) ?_
            refine A_icmp_ge (pc := 112) 119 hX dX12_goFrom_112 rfl (fun c112 => ?_) (fun c112 => ?_)
            · refine A_iconst (pc := 119) (v := (nI 0)) (by decide) hX dX12_goFrom_119 ?_
              exact h0 (fun q => Or.elim q (fun q => by omega) (fun q => absurd q.2 (by have := (nI_leI (by omega) (by omega)).mp c112; omega)))
            · refine A_iconst (pc := 115) (v := (nI 1)) (by decide) hX dX12_goFrom_115 ?_
              refine A_goto (pc := 116) 120 hX dX12_goFrom_116 rfl ?_
              exact h1 (Or.inr ⟨he, by rcases Nat.lt_or_ge (cnd s0 F1 b s) (F1 (mkB B b s)) with q | q; exact q; exact absurd (nI_le q (by omega)) c112⟩)
      have h54 : ∀ w : Nat, w = wtB byd B b → AA G X 0 0 54 [some (.ref m), some (.int (nI s)), some (.int (bI byd)), some (.int (nI wo)), some (.int (bI a)), some (.int (nI b)), some (.int (nI (mkB B b s))), v7, v8, v9] [.int (nI w), .int (nI c)] σ1 := by
        intro w hwv
        subst hwv
        refine A_iadd (pc := 54) hX dX12_goFrom_54 ?_
        refine A_top (y := nI (c + wtB byd B b)) (nI_add _ _) ?_
        refine A_istore (pc := 55) (lv' := [_, _, _, _, _, _, _, _, _, _]) hX dX12_goFrom_55 (Nat.le_of_ble_eq_true rfl) rfl rfl ?_
        refine A_aload_n (pc := 57) rfl hX dX12_goFrom_57 ?_
        refine A_getf (pc := 58) hX fl_X12_50_12 dX12_goFrom_58 (by repeat (first | assumption | exact aSet_s | exact aNew_s | refine lk_n ?_ (by omega) | refine lk_f (by assumption) ?_ (by omega) | refine lk_w ?_ (by omega))) (by exact rfl) ?_
        refine A_iload_n (pc := 61) rfl hX dX12_goFrom_61 ?_
        refine A_iald (pc := 62) hX dX12_goFrom_62 (by repeat (first | assumption | exact aSet_s | exact aNew_s | refine lk_n ?_ (by omega) | refine lk_f (by assumption) ?_ (by omega) | refine lk_w ?_ (by omega))) (vp_in_nI (by omega) (by decide)) ?_
        refine A_top (y := nI c) (by rw [hsc, (hr _ hs).1, hd1]) ?_
        refine A_if_ne (pc := 63) 71 hX dX12_goFrom_63 rfl (fun c63 => ?_) (fun c63 => ?_)
        · have hne : ¬ s = s0 := fun q => c63 (by have := hI1.2.1; rw [← q, hd1] at this; rw [this]; rfl)
          refine A_aload_n (pc := 71) rfl hX dX12_goFrom_71 ?_
          refine A_getf (pc := 72) hX fl_X12_53_12 dX12_goFrom_72 (by repeat (first | assumption | exact aSet_s | exact aNew_s | refine lk_n ?_ (by omega) | refine lk_f (by assumption) ?_ (by omega) | refine lk_w ?_ (by omega))) (by exact rfl) ?_
          refine A_iload_n (pc := 75) rfl hX dX12_goFrom_75 ?_
          refine A_iald (pc := 76) hX dX12_goFrom_76 (by repeat (first | assumption | exact aSet_s | exact aNew_s | refine lk_n ?_ (by omega) | refine lk_f (by assumption) ?_ (by omega) | refine lk_w ?_ (by omega))) (vp_in_nI (by omega) (by decide)) ?_
          refine A_top (y := nI (F1 s)) (by rw [hsc, (hr _ hs).2]; exact fV_in (by omega) hne) ?_
          exact A_top (by rw [cnd, if_neg hne]) h77
        · have hce := (nI_eq (b := 0) (by omega) (by decide)).mp c63
          have hse : s = s0 := Decidable.byContradiction fun q => by have := hI1.pos hw hs q; omega
          refine A_iload (pc := 66) rfl hX dX12_goFrom_66 ?_
          refine A_goto (pc := 68) 77 hX dX12_goFrom_68 rfl ?_
          exact A_top (by rw [cnd, if_pos hse]) h77
      refine A_iload (pc := 6) rfl hX dX12_goFrom_6 ?_
      refine A_aload_n (pc := 8) rfl hX dX12_goFrom_8 ?_
      refine A_getf (pc := 9) hX fl_X12_103_12 dX12_goFrom_9 (by repeat (first | assumption | exact aSet_s | exact aNew_s | refine lk_n ?_ (by omega) | refine lk_f (by assumption) ?_ (by omega) | refine lk_w ?_ (by omega))) (by exact rfl) ?_
      refine A_icmp_ge (pc := 12) 193 hX dX12_goFrom_12 rfl (fun c12 => ?_) (fun c12 => ?_)
      · exact absurd c12 (nI_ge hbl (by omega))
      · refine A_iload_n (pc := 15) rfl hX dX12_goFrom_15 ?_
        refine A_iload (pc := 16) rfl hX dX12_goFrom_16 ?_
        refine A_ishr (pc := 18) hX dX12_goFrom_18 ?_
        refine A_iconst (pc := 19) (v := (nI 1)) (by decide) hX dX12_goFrom_19 ?_
        refine A_iand (pc := 20) hX dX12_goFrom_20 ?_
        refine A_top (y := nI (wo / 2 ^ b % 2)) (i_bit hwo (by omega)) ?_
        refine A_if_ne (pc := 21) 187 hX dX12_goFrom_21 rfl (fun c21 => ?_) (fun c21 => ?_)
        · exact absurd (by rw [bit_al.mp hal]; rfl) c21
        · refine A_aload_n (pc := 24) rfl hX dX12_goFrom_24 ?_
          refine A_iload (pc := 25) rfl hX dX12_goFrom_25 ?_
          refine A_iload_n (pc := 27) rfl hX dX12_goFrom_27 ?_
          refine A_V2d (pc := 28) hX mk_X12_made lv_X12_141 dX12_goFrom_28 (by repeat (first | assumption | exact aSet_s | exact aNew_s | refine lk_n ?_ (by omega) | refine lk_f (by assumption) ?_ (by omega) | refine lk_w ?_ (by omega))) (ct_made l G o1 haa hbl hs) rfl (Nat.le_of_ble_eq_true rfl) (Nat.le_of_ble_eq_true rfl) (Nat.le_of_ble_eq_true rfl) (Nat.le_of_ble_eq_true rfl) (Nat.le_of_ble_eq_true rfl) ?_
          refine A_istore (pc := 31) (lv' := [_, _, _, _, _, _, _, _, _, _]) hX dX12_goFrom_31 (Nat.le_of_ble_eq_true rfl) rfl rfl ?_
          refine A_aload_n (pc := 33) rfl hX dX12_goFrom_33 ?_
          refine A_getf (pc := 34) hX fl_X12_50_12 dX12_goFrom_34 (by repeat (first | assumption | exact aSet_s | exact aNew_s | refine lk_n ?_ (by omega) | refine lk_f (by assumption) ?_ (by omega) | refine lk_w ?_ (by omega))) (by exact rfl) ?_
          refine A_iload_n (pc := 37) rfl hX dX12_goFrom_37 ?_
          refine A_iald (pc := 38) hX dX12_goFrom_38 (by repeat (first | assumption | exact aSet_s | exact aNew_s | refine lk_n ?_ (by omega) | refine lk_f (by assumption) ?_ (by omega) | refine lk_w ?_ (by omega))) (vp_in_nI (by omega) (by decide)) ?_
          refine A_top (y := nI c) (by rw [hsc, (hr _ hs).1, hd1]) ?_
          refine A_iload_n (pc := 39) rfl hX dX12_goFrom_39 ?_
          refine A_if_eq (pc := 40) 53 hX dX12_goFrom_40 rfl (fun c40 => ?_) (fun c40 => ?_)
          · refine A_iconst (pc := 53) (v := (nI 1)) (by decide) hX dX12_goFrom_53 ?_
            exact h54 1 (by rw [wtB, bI_eq c40]; rfl)
          · have hby : byd = true := bI_ne c40
            refine A_aload_n (pc := 43) rfl hX dX12_goFrom_43 ?_
            refine A_getf (pc := 44) hX fl_X12_19_12 dX12_goFrom_44 (by repeat (first | assumption | exact aSet_s | exact aNew_s | refine lk_n ?_ (by omega) | refine lk_f (by assumption) ?_ (by omega) | refine lk_w ?_ (by omega))) (by exact rfl) ?_
            refine A_iload (pc := 47) rfl hX dX12_goFrom_47 ?_
            refine A_iald (pc := 49) hX dX12_goFrom_49 (by repeat (first | assumption | exact aSet_s | exact aNew_s | refine lk_n ?_ (by omega) | refine lk_f (by assumption) ?_ (by omega) | refine lk_w ?_ (by omega))) (vp_in_nI (by omega) (by decide)) ?_
            refine A_top (y := nI (B b).2.2.2) (by rw [hbc]; exact u4) ?_
            refine A_goto (pc := 50) 54 hX dX12_goFrom_50 rfl ?_
            exact h54 _ (by rw [wtB, if_pos hby])
    · have k1 := wv_skip hI1 hal
      refine A_iload (pc := 6) rfl hX dX12_goFrom_6 ?_
      refine A_aload_n (pc := 8) rfl hX dX12_goFrom_8 ?_
      refine A_getf (pc := 9) hX fl_X12_103_12 dX12_goFrom_9 (by repeat (first | assumption | exact aSet_s | exact aNew_s | refine lk_n ?_ (by omega) | refine lk_f (by assumption) ?_ (by omega) | refine lk_w ?_ (by omega))) (by exact rfl) ?_
      refine A_icmp_ge (pc := 12) 193 hX dX12_goFrom_12 rfl (fun c12 => ?_) (fun c12 => ?_)
      · exact absurd c12 (nI_ge hbl (by omega))
      · refine A_iload_n (pc := 15) rfl hX dX12_goFrom_15 ?_
        refine A_iload (pc := 16) rfl hX dX12_goFrom_16 ?_
        refine A_ishr (pc := 18) hX dX12_goFrom_18 ?_
        refine A_iconst (pc := 19) (v := (nI 1)) (by decide) hX dX12_goFrom_19 ?_
        refine A_iand (pc := 20) hX dX12_goFrom_20 ?_
        refine A_top (y := nI (wo / 2 ^ b % 2)) (i_bit hwo (by omega)) ?_
        refine A_if_ne (pc := 21) 187 hX dX12_goFrom_21 rfl (fun c21 => ?_) (fun c21 => ?_)
        · refine A_iinc (pc := 187) (v := (nI (b + 1))) (lv' := [_, _, _, _, _, _, _, _, _, _]) hX dX12_goFrom_187 rfl (nI_succ b).symm rfl rfl ?_
          refine A_goto (pc := 190) 6 hX dX12_goFrom_190 rfl ?_
          exact ih (b + 1) σ1 a D1 F1 _ _ _ _ (by omega) (by omega) hF hv1 k1 hd1 hK ha1 ha2
        · exact absurd (bit_al.mpr ((nI_eq (b := 0) (by omega) (by decide)).mp c21)) hal
set_option maxRecDepth 100000 in
set_option maxHeartbeats 1000000 in
theorem ct_layWaves (l : Launch) (G : aG) {m tw nb nt hn len kt kn s0 wo : Nat} {dy fa nm kd : Int32} {wh hk : Bool} {sn hd : Int64} {σ : aS} (ho : σ.2 m = some (oM m tw nb nt dy hn len fa wh nm sn hk kt kn kd hd)) {byd : Bool} {B : BorT} (ha : RMa G m nb B σ) (hs1 : RMs G m σ) (hs0 : s0 < 512) (hwo : wo < 64) : ACt l G yX12_layWaves cX12_layWaves 7 (none) 3 0 0 [.ref m, .int (nI s0), .int (bI byd), .int (nI wo)] σ (vP (fun σ' => (∃ D F, SpF nb (mkB B) (wtB byd B) (alS wo) s0 D F ∧ RWv G m s0 D F σ') ∧ RMs G m σ' ∧ Fr (m + 14) (m + 16) σ σ')) := by
  obtain ⟨hnb, hok, _⟩ := id ha
  obtain ⟨sa, sb, sc, sd, se, s1, s2, s3, s4, s5⟩ := id hs1
  have hw := okW_of byd hok
  have hfc := nI_clamp (n := s0) (by omega)
  refine ACt.intro (own := RX12) (nm := "layWaves") mk_X12_layWaves rfl rfl [some (.ref m), some (.int (nI s0)), some (.int (bI byd)), some (.int (nI wo)), none, none, none] rfl (Nat.le_of_ble_eq_true rfl) (fun X hX hR => ?_)
  refine A_iconst (pc := 0) (v := (nI 0)) (by decide) hX dX12_layWaves_0 ?_
  refine A_istore (pc := 1) (lv' := [_, _, _, _, _, _, _]) hX dX12_layWaves_1 (Nat.le_of_ble_eq_true rfl) rfl rfl ?_
  have hW : ∀ (k c : Nat) (σ1 : aS) (mo : Bool) (D F : Nat → Nat) (v6 : Option Value), c + k = 2557 → Fr (m + 14) (m + 16) σ σ1 → RWv G m s0 D F σ1 → SpI nb (mkB B) (wtB byd B) (alS wo) s0 (dnW D c 0 0) D F → (mo = true → c ≤ 2556) → (mo = false → ∀ q, q < 512 → D q < inf → D q < c) → AA G X 0 0 47 [some (.ref m), some (.int (nI s0)), some (.int (bI byd)), some (.int (nI wo)), some (.int (bI mo)), some (.int (nI c)), v6] [] σ1 := by
    intro k
    induction k with
    | zero =>
      intro c σ1 mo D F v6 hk hF hv hI hm1 hm2
      refine A_iload (pc := 47) rfl hX dX12_layWaves_47 ?_
      refine A_if_eq (pc := 49) 149 hX dX12_layWaves_49 rfl (fun c49 => ?_) (fun c49 => ?_)
      · refine A_ret (pc := 149) hX hR dX12_layWaves_149 ?_
        exact ⟨rfl, ⟨D, F, wv_fin hI (by simp only [inf]; omega) (hm2 (bI_eq c49)), hv⟩, RWv.s hv hs1 hF, hF⟩
      · exact absurd (hm1 (bI_ne c49)) (by omega)
    | succ k ih =>
      intro c σ1 mo D F v6 hk hF hv hI hm1 hm2
      refine A_iload (pc := 47) rfl hX dX12_layWaves_47 ?_
      refine A_if_eq (pc := 49) 149 hX dX12_layWaves_49 rfl (fun c49 => ?_) (fun c49 => ?_)
      · refine A_ret (pc := 149) hX hR dX12_layWaves_149 ?_
        exact ⟨rfl, ⟨D, F, wv_fin hI (by simp only [inf]; omega) (hm2 (bI_eq c49)), hv⟩, RWv.s hv hs1 hF, hF⟩
      · refine A_iconst (pc := 52) (v := (nI 0)) (by decide) hX dX12_layWaves_52 ?_
        refine A_istore (pc := 53) (lv' := [_, _, _, _, _, _, _]) hX dX12_layWaves_53 (Nat.le_of_ble_eq_true rfl) rfl rfl ?_
        refine A_iconst (pc := 55) (v := (nI 0)) (by decide) hX dX12_layWaves_55 ?_
        refine A_istore (pc := 56) (lv' := [_, _, _, _, _, _, _]) hX dX12_layWaves_56 (Nat.le_of_ble_eq_true rfl) rfl rfl ?_
        have hc6 := hm1 (bI_ne c49)
        have hci : c < inf := by simp only [inf]; omega
        suffices hN : ∀ (n s : Nat) (σ2 : aS) (mo : Bool) (D F : Nat → Nat), s ≤ 512 → 512 - s = n → Fr (m + 14) (m + 16) σ σ2 → RWv G m s0 D F σ2 → SpI nb (mkB B) (wtB byd B) (alS wo) s0 (dnW D c s 0) D F → (mo = true → fur c D) → (mo = false → ∀ q, q < s → D q < inf → ¬ c < D q) → AA G X 0 0 58 [some (.ref m), some (.int (nI s0)), some (.int (bI byd)), some (.int (nI wo)), some (.int (bI mo)), some (.int (nI c)), some (.int (nI s))] [] σ2 from hN 512 0 σ1 false D F (Nat.zero_le _) rfl hF hv hI (fun q => absurd q (by decide)) (fun _ q h => absurd h (Nat.not_lt_zero q))
        clear hm1 hm2 hI hv hF
        intro n
        induction n with
        | zero =>
          intro s σ2 mo D F hs hn hF hv hI hm1 hm2
          have e : 512 = s := by omega
          subst e
          have hI2 := wv_wave hI
          refine A_iload (pc := 58) rfl hX dX12_layWaves_58 ?_
          refine A_sipush (pc := 60) (v := (nI 512)) (by decide) hX dX12_layWaves_60 ?_
          refine A_icmp_ge (pc := 63) 143 hX dX12_layWaves_63 rfl (fun c63 => ?_) (fun c63 => ?_)
          · refine A_iinc (pc := 143) (v := (nI (c + 1))) (lv' := [_, _, _, _, _, _, _]) hX dX12_layWaves_143 rfl (nI_succ c).symm rfl rfl ?_
            refine A_goto (pc := 146) 47 hX dX12_layWaves_146 rfl ?_
            refine ih (c + 1) σ2 mo D F _ (by omega) hF hv hI2 (fun q => ?_) (fun q q1 h1 h2 => ?_)
            · obtain ⟨q2, q3, q4, q5⟩ := hm1 q
              have := hI.bnd hw q2 q3 q5
              omega
            · have := hm2 q q1 h1 h2
              omega
          · exact absurd (nI_le (Nat.le_refl 512) (by decide)) c63
        | succ n ihn =>
          intro s σ2 mo D F hs hn hF hv hI hm1 hm2
          have hsl : s < 512 := by omega
          have hsc := nI_clamp (n := s) (by omega)
          have o2 := lk_f hF ho (by omega)
          have haa := ha.fr hF (by omega)
          obtain ⟨g, f, x1, x2, hr⟩ := id hv
          have hDs := hI.2.2.1 s hsl
          have hDs2 : D s < 2 ^ 31 := by simp only [inf] at hDs; omega
          have h100 : ∀ mo1 : Bool, (mo1 = true → fur c D) → (mo1 = false → ∀ q, q < s + 1 → D q < inf → ¬ c < D q) → AA G X 0 0 100 [some (.ref m), some (.int (nI s0)), some (.int (bI byd)), some (.int (nI wo)), some (.int (bI mo)), some (.int (nI c)), some (.int (nI s))] [.int (bI mo1)] σ2 := by
            intro mo1 hm3 hm4
            refine A_istore (pc := 100) (lv' := [_, _, _, _, _, _, _]) hX dX12_layWaves_100 (Nat.le_of_ble_eq_true rfl) rfl rfl ?_
            refine A_aload_n (pc := 102) rfl hX dX12_layWaves_102 ?_
            refine A_getf (pc := 103) hX fl_X12_50_12 dX12_layWaves_103 (by repeat (first | assumption | exact aSet_s | exact aNew_s | refine lk_n ?_ (by omega) | refine lk_f (by assumption) ?_ (by omega) | refine lk_w ?_ (by omega))) (by exact rfl) ?_
            refine A_iload (pc := 106) rfl hX dX12_layWaves_106 ?_
            refine A_iald (pc := 108) hX dX12_layWaves_108 (by repeat (first | assumption | exact aSet_s | exact aNew_s | refine lk_n ?_ (by omega) | refine lk_f (by assumption) ?_ (by omega) | refine lk_w ?_ (by omega))) (vp_in_nI (by omega) (by decide)) ?_
            refine A_top (y := nI (D s)) (by rw [hsc]; exact (hr s hsl).1) ?_
            refine A_iload (pc := 109) rfl hX dX12_layWaves_109 ?_
            refine A_icmp_ne (pc := 111) 137 hX dX12_layWaves_111 rfl (fun c111 => ?_) (fun c111 => ?_)
            · have hne : ¬ D s = c := fun q => c111 (by rw [q])
              refine A_iinc (pc := 137) (v := (nI (s + 1))) (lv' := [_, _, _, _, _, _, _]) hX dX12_layWaves_137 rfl (nI_succ s).symm rfl rfl ?_
              refine A_goto (pc := 140) 58 hX dX12_layWaves_140 rfl ?_
              exact ihn (s + 1) σ2 mo1 D F (by omega) (by omega) hF hv (wv_next hI hne) hm3 hm4
            · have hde : D s = c := (nI_eq hDs2 (by omega)).mp c111
              refine A_aload_n (pc := 114) rfl hX dX12_layWaves_114 ?_
              refine A_iload (pc := 115) rfl hX dX12_layWaves_115 ?_
              refine A_iload_n (pc := 117) rfl hX dX12_layWaves_117 ?_
              refine A_iload_n (pc := 118) rfl hX dX12_layWaves_118 ?_
              refine A_V3i (pc := 119) hX mk_X12_goFrom lv_X12_154 dX12_layWaves_119 (by repeat (first | assumption | exact aSet_s | exact aNew_s | refine lk_n ?_ (by omega) | refine lk_f (by assumption) ?_ (by omega) | refine lk_w ?_ (by omega))) (ct_goFrom l G o2 haa hv hI hsl hde hci hwo) rfl (Nat.le_of_ble_eq_true rfl) (Nat.le_of_ble_eq_true rfl) (Nat.le_of_ble_eq_true rfl) (Nat.le_of_ble_eq_true rfl) (Nat.le_of_ble_eq_true rfl) (fun x119 σ119 h119 => ?_)
              obtain ⟨a119, D119, F119, rfl, hv119, hI119, hK119, hp119, hn119, f119⟩ := h119
              have h135 : ∀ mo2 : Bool, (mo2 = true → fur c D119) → (mo2 = false → ∀ q, q < s + 1 → D119 q < inf → ¬ c < D119 q) → AA G X 0 0 135 [some (.ref m), some (.int (nI s0)), some (.int (bI byd)), some (.int (nI wo)), some (.int (bI mo1)), some (.int (nI c)), some (.int (nI s))] [.int (bI mo2)] σ119 := by
                intro mo2 hm5 hm6
                refine A_istore (pc := 135) (lv' := [_, _, _, _, _, _, _]) hX dX12_layWaves_135 (Nat.le_of_ble_eq_true rfl) rfl rfl ?_
                refine A_iinc (pc := 137) (v := (nI (s + 1))) (lv' := [_, _, _, _, _, _, _]) hX dX12_layWaves_137 rfl (nI_succ s).symm rfl rfl ?_
                refine A_goto (pc := 140) 58 hX dX12_layWaves_140 rfl ?_
                exact ihn (s + 1) σ119 mo2 D119 F119 (by omega) (by omega) (hF.tr f119) hv119 (wv_end hI119) hm5 hm6
              refine A_if_ne (pc := 122) 130 hX dX12_layWaves_122 rfl (fun c122 => ?_) (fun c122 => ?_)
              · refine A_iconst (pc := 130) (v := (nI 1)) (by decide) hX dX12_layWaves_130 ?_
                refine A_goto (pc := 131) 135 hX dX12_layWaves_131 rfl ?_
                exact A_top rfl (h135 true (fun _ => hp119 (bI_ne c122)) (fun q => absurd q (by decide)))
              · have hD9 := hn119 (bI_eq c122)
                refine A_iload (pc := 125) rfl hX dX12_layWaves_125 ?_
                refine A_if_eq (pc := 127) 134 hX dX12_layWaves_127 rfl (fun c127 => ?_) (fun c127 => ?_)
                · refine A_iconst (pc := 134) (v := (nI 0)) (by decide) hX dX12_layWaves_134 ?_
                  exact A_top rfl (h135 false (fun q => absurd q (by decide)) (fun _ q h1 h2 => by rw [hD9] at h2 ⊢; exact hm4 (bI_eq c127) q h1 h2))
                · refine A_iconst (pc := 130) (v := (nI 1)) (by decide) hX dX12_layWaves_130 ?_
                  refine A_goto (pc := 131) 135 hX dX12_layWaves_131 rfl ?_
                  exact A_top rfl (h135 true (fun _ => by rw [hD9]; exact hm3 (bI_ne c127)) (fun q => absurd q (by decide)))
          refine A_iload (pc := 58) rfl hX dX12_layWaves_58 ?_
          refine A_sipush (pc := 60) (v := (nI 512)) (by decide) hX dX12_layWaves_60 ?_
          refine A_icmp_ge (pc := 63) 143 hX dX12_layWaves_63 rfl (fun c63 => ?_) (fun c63 => ?_)
          · exact absurd c63 (nI_ge hsl (by decide))
          · refine A_iload (pc := 66) rfl hX dX12_layWaves_66 ?_
            refine A_if_ne (pc := 68) 95 hX dX12_layWaves_68 rfl (fun c68 => ?_) (fun c68 => ?_)
            · refine A_iconst (pc := 95) (v := (nI 1)) (by decide) hX dX12_layWaves_95 ?_
              refine A_goto (pc := 96) 100 hX dX12_layWaves_96 rfl ?_
              exact A_top rfl (h100 true (fun _ => hm1 (bI_ne c68)) (fun q => absurd q (by decide)))
            · refine A_aload_n (pc := 71) rfl hX dX12_layWaves_71 ?_
              refine A_getf (pc := 72) hX fl_X12_50_12 dX12_layWaves_72 (by repeat (first | assumption | exact aSet_s | exact aNew_s | refine lk_n ?_ (by omega) | refine lk_f (by assumption) ?_ (by omega) | refine lk_w ?_ (by omega))) (by exact rfl) ?_
              refine A_iload (pc := 75) rfl hX dX12_layWaves_75 ?_
              refine A_iald (pc := 77) hX dX12_layWaves_77 (by repeat (first | assumption | exact aSet_s | exact aNew_s | refine lk_n ?_ (by omega) | refine lk_f (by assumption) ?_ (by omega) | refine lk_w ?_ (by omega))) (vp_in_nI (by omega) (by decide)) ?_
              refine A_top (y := nI (D s)) (by rw [hsc]; exact (hr s hsl).1) ?_
              refine A_ldc (pc := 78) k_X12_153 hX dX12_layWaves_78 ?_
              refine A_top (y := nI inf) (by decide +kernel) ?_
              refine A_icmp_eq (pc := 80) 99 hX dX12_layWaves_80 rfl (fun c80 => ?_) (fun c80 => ?_)
              · have hq := (nI_eq hDs2 (Nat.le_of_ble_eq_true rfl)).mp c80
                refine A_iconst (pc := 99) (v := (nI 0)) (by decide) hX dX12_layWaves_99 ?_
                exact A_top rfl (h100 false (fun q => absurd q (by decide)) (fun _ q h1 h2 => by
                  by_cases e : q = s
                  · rw [e, hq] at h2; exact absurd h2 (Nat.lt_irrefl _)
                  · exact hm2 (bI_eq c68) q (by omega) h2))
              · refine A_aload_n (pc := 83) rfl hX dX12_layWaves_83 ?_
                refine A_getf (pc := 84) hX fl_X12_50_12 dX12_layWaves_84 (by repeat (first | assumption | exact aSet_s | exact aNew_s | refine lk_n ?_ (by omega) | refine lk_f (by assumption) ?_ (by omega) | refine lk_w ?_ (by omega))) (by exact rfl) ?_
                refine A_iload (pc := 87) rfl hX dX12_layWaves_87 ?_
                refine A_iald (pc := 89) hX dX12_layWaves_89 (by repeat (first | assumption | exact aSet_s | exact aNew_s | refine lk_n ?_ (by omega) | refine lk_f (by assumption) ?_ (by omega) | refine lk_w ?_ (by omega))) (vp_in_nI (by omega) (by decide)) ?_
                refine A_top (y := nI (D s)) (by rw [hsc]; exact (hr s hsl).1) ?_
                refine A_iload (pc := 90) rfl hX dX12_layWaves_90 ?_
                refine A_icmp_le (pc := 92) 99 hX dX12_layWaves_92 rfl (fun c92 => ?_) (fun c92 => ?_)
                · have hq := (nI_leI hDs2 (by omega)).mp c92
                  refine A_iconst (pc := 99) (v := (nI 0)) (by decide) hX dX12_layWaves_99 ?_
                  exact A_top rfl (h100 false (fun q => absurd q (by decide)) (fun _ q h1 h2 => by
                    by_cases e : q = s
                    · rw [e]; omega
                    · exact hm2 (bI_eq c68) q (by omega) h2))
                · have hq1 : c < D s := by
                    rcases Nat.lt_or_ge c (D s) with q | q
                    · exact q
                    · exact absurd (nI_le q (by omega)) c92
                  have hq2 : ¬ D s = inf := fun q => c80 (by rw [q])
                  refine A_iconst (pc := 95) (v := (nI 1)) (by decide) hX dX12_layWaves_95 ?_
                  refine A_goto (pc := 96) 100 hX dX12_layWaves_96 rfl ?_
                  exact A_top rfl (h100 true (fun _ => ⟨s, hsl, hq1, by omega⟩) (fun q => absurd q (by decide)))
  suffices hA : ∀ (n i : Nat) (σ1 : aS) (g f : Nat → Int32), i ≤ 512 → 512 - i = n → Fr (m + 14) (m + 16) σ σ1 → σ1.2 (m + 14) = some (aI G 512 g) → σ1.2 (m + 15) = some (aI G 512 f) → (∀ q, q < i → g q = nI inf ∧ f q = -1) → AA G X 0 0 3 [some (.ref m), some (.int (nI s0)), some (.int (bI byd)), some (.int (nI wo)), some (.int (nI i)), none, none] [] σ1 from hA 512 0 σ sa sb (Nat.zero_le _) rfl Fr.rf s1 s2 (fun q h => absurd h (Nat.not_lt_zero q))
  intro n
  induction n with
  | zero =>
    intro i σ1 g f hi hn hF x1 x2 hx
    have e : 512 = i := by omega
    subst e
    have o1 := lk_f hF ho (by omega)
    refine A_iload (pc := 3) rfl hX dX12_layWaves_3 ?_
    refine A_sipush (pc := 5) (v := (nI 512)) (by decide) hX dX12_layWaves_5 ?_
    refine A_icmp_ge (pc := 8) 34 hX dX12_layWaves_8 rfl (fun c8 => ?_) (fun c8 => ?_)
    · refine A_aload_n (pc := 34) rfl hX dX12_layWaves_34 ?_
      refine A_getf (pc := 35) hX fl_X12_50_12 dX12_layWaves_35 (by repeat (first | assumption | exact aSet_s | exact aNew_s | refine lk_n ?_ (by omega) | refine lk_f (by assumption) ?_ (by omega) | refine lk_w ?_ (by omega))) (by exact rfl) ?_
      refine A_iload_n (pc := 38) rfl hX dX12_layWaves_38 ?_
      refine A_iconst (pc := 39) (v := (nI 0)) (by decide) hX dX12_layWaves_39 ?_
      refine A_iast (pc := 40) hX dX12_layWaves_40 (by repeat (first | assumption | exact aSet_s | exact aNew_s | refine lk_n ?_ (by omega) | refine lk_f (by assumption) ?_ (by omega) | refine lk_w ?_ (by omega))) (vp_in_nI (by omega) (by decide)) ?_
      refine A_iconst (pc := 41) (v := (nI 1)) (by decide) hX dX12_layWaves_41 ?_
      refine A_istore (pc := 42) (lv' := [_, _, _, _, _, _, _]) hX dX12_layWaves_42 (Nat.le_of_ble_eq_true rfl) rfl rfl ?_
      refine A_iconst (pc := 44) (v := (nI 0)) (by decide) hX dX12_layWaves_44 ?_
      refine A_istore (pc := 45) (lv' := [_, _, _, _, _, _, _]) hX dX12_layWaves_45 (Nat.le_of_ble_eq_true rfl) rfl rfl ?_
      rw [hfc]
      refine hW 2557 0 _ true (fun q => if q = s0 then 0 else inf) (fun _ => 0) none (by omega) (by repeat (first | exact Fr.rf | refine Fr.set ?_ (by omega) (by omega) | refine Fr.tr ?_ (Fr.wd (by assumption) (by omega) (by omega)))) ⟨_, _, aSet_s, (by repeat (first | assumption | exact aSet_s | exact aNew_s | refine lk_n ?_ (by omega) | refine lk_f (by assumption) ?_ (by omega) | refine lk_w ?_ (by omega))), fun q hq => ?_⟩ (wv_0 hs0) (fun _ => by omega) (fun q => absurd q (by decide))
      by_cases e : q = s0
      · refine ⟨by simp only [upd, if_pos e], ?_⟩
        rw [(hx q hq).2, fV, if_neg (fun z => z.2 e)]
      · refine ⟨by simp only [upd, if_neg e]; exact (hx q hq).1, ?_⟩
        rw [(hx q hq).2, fV, if_neg (fun z => by have z1 := z.1; simp only [if_neg e] at z1; exact Nat.lt_irrefl _ z1)]
    · exact absurd (nI_le (Nat.le_refl 512) (by decide)) c8
  | succ n ih =>
    intro i σ1 g f hi hn hF x1 x2 hx
    have hil : i < 512 := by omega
    have hic := nI_clamp (n := i) (by omega)
    have o1 := lk_f hF ho (by omega)
    refine A_iload (pc := 3) rfl hX dX12_layWaves_3 ?_
    refine A_sipush (pc := 5) (v := (nI 512)) (by decide) hX dX12_layWaves_5 ?_
    refine A_icmp_ge (pc := 8) 34 hX dX12_layWaves_8 rfl (fun c8 => ?_) (fun c8 => ?_)
    · exact absurd c8 (nI_ge hil (by decide))
    · refine A_aload_n (pc := 11) rfl hX dX12_layWaves_11 ?_
      refine A_getf (pc := 12) hX fl_X12_50_12 dX12_layWaves_12 (by repeat (first | assumption | exact aSet_s | exact aNew_s | refine lk_n ?_ (by omega) | refine lk_f (by assumption) ?_ (by omega) | refine lk_w ?_ (by omega))) (by exact rfl) ?_
      refine A_iload (pc := 15) rfl hX dX12_layWaves_15 ?_
      refine A_ldc (pc := 17) k_X12_153 hX dX12_layWaves_17 ?_
      refine A_top (y := nI inf) (by decide +kernel) ?_
      refine A_iast (pc := 19) hX dX12_layWaves_19 (by repeat (first | assumption | exact aSet_s | exact aNew_s | refine lk_n ?_ (by omega) | refine lk_f (by assumption) ?_ (by omega) | refine lk_w ?_ (by omega))) (vp_in_nI (by omega) (by decide)) ?_
      refine A_aload_n (pc := 20) rfl hX dX12_layWaves_20 ?_
      refine A_getf (pc := 21) hX fl_X12_53_12 dX12_layWaves_21 (by repeat (first | assumption | exact aSet_s | exact aNew_s | refine lk_n ?_ (by omega) | refine lk_f (by assumption) ?_ (by omega) | refine lk_w ?_ (by omega))) (by exact rfl) ?_
      refine A_iload (pc := 24) rfl hX dX12_layWaves_24 ?_
      refine A_iconst (pc := 26) (v := (-1)) (by decide) hX dX12_layWaves_26 ?_
      refine A_iast (pc := 27) hX dX12_layWaves_27 (by repeat (first | assumption | exact aSet_s | exact aNew_s | refine lk_n ?_ (by omega) | refine lk_f (by assumption) ?_ (by omega) | refine lk_w ?_ (by omega))) (vp_in_nI (by omega) (by decide)) ?_
      refine A_iinc (pc := 28) (v := (nI (i + 1))) (lv' := [_, _, _, _, _, _, _]) hX dX12_layWaves_28 rfl (nI_succ i).symm rfl rfl ?_
      refine A_goto (pc := 31) 3 hX dX12_layWaves_31 rfl ?_
      rw [hic]
      refine ih (i + 1) _ _ _ (by omega) (by omega) (by repeat (first | exact Fr.rf | refine Fr.set ?_ (by omega) (by omega) | refine Fr.tr ?_ (Fr.wd (by assumption) (by omega) (by omega)))) (by repeat (first | assumption | exact aSet_s | exact aNew_s | refine lk_n ?_ (by omega) | refine lk_f (by assumption) ?_ (by omega) | refine lk_w ?_ (by omega))) aSet_s (fun q hq => ?_)
      by_cases e : q = i
      · refine ⟨by simp only [upd, if_pos e], by simp only [upd, if_pos e]⟩
      · simp only [upd, if_neg e]; exact hx q (by omega)
