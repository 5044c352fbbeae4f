/-! whom never to lend to: z the object, z + 1 the queue, z + 2 what was seen when -/
def bcI (x : Int32) : Int32 :=
  (fun e : Int32 => (fun d : Int32 => (fun c : Int32 => (fun b : Int32 => (fun a : Int32 => a &&& nI 63) (b + (b.toUInt32 >>> ((nI 16).toUInt32 &&& Int32.toUInt32 31)).toInt32)) (c + (c.toUInt32 >>> ((nI 8).toUInt32 &&& Int32.toUInt32 31)).toInt32)) ((d + (d.toUInt32 >>> ((nI 4).toUInt32 &&& Int32.toUInt32 31)).toInt32) &&& (252645135 : Int32))) ((e &&& (858993459 : Int32)) + ((e.toUInt32 >>> ((nI 2).toUInt32 &&& Int32.toUInt32 31)).toInt32 &&& (858993459 : Int32)))) (x - ((x.toUInt32 >>> ((nI 1).toUInt32 &&& Int32.toUInt32 31)).toInt32 &&& (1431655765 : Int32)))
def bitN (st b : Nat) : Bool := decide (st / 2 ^ b % 2 = 1)
def pcN (st : Nat) : Nat := cntN (bitN st) 6
theorem bcI_pc {st : Nat} (h : st < 64) : bcI (nI st) = nI (pcN st) := (by decide +kernel : ∀ st, st < 64 → bcI (nI st) = nI (pcN st)) st h
theorem i_bit {st b : Nat} (h : st < 64) (hb : b < 6) : (nI st >>> (nI b &&& 31)) &&& nI 1 = nI (st / 2 ^ b % 2) := (by decide +kernel : ∀ st, st < 64 → ∀ b, b < 6 → (nI st >>> (nI b &&& 31)) &&& nI 1 = nI (st / 2 ^ b % 2)) st h b hb
theorem i_pow {n : Nat} (h : n ≤ 6) : nI 1 <<< (nI n &&& 31) = nI (2 ^ n) := (by decide +kernel : ∀ n, n < 7 → nI 1 <<< (nI n &&& 31) = nI (2 ^ n)) n (by omega)
theorem p2_64 {n : Nat} (h : n ≤ 6) : 2 ^ n ≤ 64 := (by decide +kernel : ∀ n, n < 7 → 2 ^ n ≤ 64) n (by omega)
/-- who may be lent to, when nothing is lent to a set -/
def alS (st : Nat) : Nat → Bool := fun b => !bitN st b
def safeS (nb : Nat) (B : Nat → Nat × Nat × Nat × Nat) (s0 tr ls st : Nat) : Prop := ∀ s, s < 512 → Rch nb (mkB B) (alS st) s0 s → ls ≤ trt s tr
def RSp (G : aG) (z w sr : Nat) (σ : aS) : Prop := ∃ gq gs : Nat → Int32, σ.2 z = some (aO 5 [.ref w, .ref (z + 1), .ref (z + 2), .int (nI sr)]) ∧ σ.2 (z + 1) = some (aI G 512 gq) ∧ σ.2 (z + 2) = some (aI G 512 gs) ∧ ∀ s, s < 512 → ∃ k, k ≤ sr ∧ gs s = nI k
theorem RSp.kept {G : aG} {z w sr : Nat} {σ σ' : aS} (h : RSp G z w sr σ) (hk : ∀ a, z ≤ a → a < z + 3 → σ'.2 a = σ.2 a) : RSp G z w sr σ' := by
  obtain ⟨gq, gs, h0, h1, h2, h3⟩ := h
  exact ⟨gq, gs, (hk z (by omega) (by omega)).trans h0, (hk _ (by omega) (by omega)).trans h1, (hk _ (by omega) (by omega)).trans h2, h3⟩
/-- the fewest, of like ones the least bits -/
def Few (nb : Nat) (B : Nat → Nat × Nat × Nat × Nat) (s0 tr ls : Nat) (x : Int32) : Prop := (x = -1 ∧ ∀ st, st < 2 ^ nb → ¬ safeS nb B s0 tr ls st) ∨ ∃ st, st < 2 ^ nb ∧ x = nI st ∧ safeS nb B s0 tr ls st ∧ ∀ st', st' < 2 ^ nb → safeS nb B s0 tr ls st' → pcN st < pcN st' ∨ (pcN st = pcN st' ∧ st ≤ st')
theorem Few.uniq {nb : Nat} {B : Nat → Nat × Nat × Nat × Nat} {s0 tr ls : Nat} {x y : Int32} (h : Few nb B s0 tr ls x) (h' : Few nb B s0 tr ls y) : x = y := by
  rcases h with ⟨h1, h2⟩ | ⟨st, h1, h2, h3, h4⟩ <;> rcases h' with ⟨g1, g2⟩ | ⟨st', g1, g2, g3, g4⟩
  · rw [h1, g1]
  · exact absurd g3 (h2 st' g1)
  · exact absurd h3 (g2 st h1)
  · have a := h4 st' g1 g3
    have b := g4 st h1 h3
    rw [h2, g2, show st = st' by omega]
noncomputable def spV (nb : Nat) (B : Nat → Nat × Nat × Nat × Nat) (s0 tr ls : Nat) : Int32 := Classical.epsilon (Few nb B s0 tr ls)
theorem Few.name {nb : Nat} {B : Nat → Nat × Nat × Nat × Nat} {s0 tr ls : Nat} {x : Int32} (h : Few nb B s0 tr ls x) : x = spV nb B s0 tr ls := h.uniq (Classical.epsilon_spec (p := Few nb B s0 tr ls) ⟨x, h⟩)
set_option maxRecDepth 100000 in
set_option maxHeartbeats 1000000 in
theorem ct_bitCount (l : Launch) (G : aG) {x : Int32} {σ : aS} : ACt l G yJ6_bitCount_0f7a4 cJ6_bitCount_0f7a4 1 (some .int) 0 0 0 [.int x] σ (dP (some (.int (bcI x))) σ) := by
  refine ACt.intro (own := RJ6) (nm := "bitCount") mk_J6_bitCount_0f7a4 rfl rfl [some (.int x)] rfl (Nat.le_of_ble_eq_true rfl) (fun X hX hR => ?_)
  refine A_iload_n (pc := 0) rfl hX dJ6_bitCount_0f7a4_0 ?_
  refine A_iload_n (pc := 1) rfl hX dJ6_bitCount_0f7a4_1 ?_
  refine A_iconst (pc := 2) (v := (nI 1)) (by decide) hX dJ6_bitCount_0f7a4_2 ?_
  refine A_iushr (pc := 3) hX dJ6_bitCount_0f7a4_3 ?_
  refine A_ldcw (pc := 4) k_J6_265 hX dJ6_bitCount_0f7a4_4 ?_
  refine A_iand (pc := 7) hX dJ6_bitCount_0f7a4_7 ?_
  refine A_isub (pc := 8) hX dJ6_bitCount_0f7a4_8 ?_
  refine A_istore_n (pc := 9) (lv' := [_]) hX dJ6_bitCount_0f7a4_9 (Nat.le_of_ble_eq_true rfl) rfl rfl ?_
  refine A_iload_n (pc := 10) rfl hX dJ6_bitCount_0f7a4_10 ?_
  refine A_ldcw (pc := 11) k_J6_266 hX dJ6_bitCount_0f7a4_11 ?_
  refine A_iand (pc := 14) hX dJ6_bitCount_0f7a4_14 ?_
  refine A_iload_n (pc := 15) rfl hX dJ6_bitCount_0f7a4_15 ?_
  refine A_iconst (pc := 16) (v := (nI 2)) (by decide) hX dJ6_bitCount_0f7a4_16 ?_
  refine A_iushr (pc := 17) hX dJ6_bitCount_0f7a4_17 ?_
  refine A_ldcw (pc := 18) k_J6_266 hX dJ6_bitCount_0f7a4_18 ?_
  refine A_iand (pc := 21) hX dJ6_bitCount_0f7a4_21 ?_
  refine A_iadd (pc := 22) hX dJ6_bitCount_0f7a4_22 ?_
  refine A_istore_n (pc := 23) (lv' := [_]) hX dJ6_bitCount_0f7a4_23 (Nat.le_of_ble_eq_true rfl) rfl rfl ?_
  refine A_iload_n (pc := 24) rfl hX dJ6_bitCount_0f7a4_24 ?_
  refine A_iload_n (pc := 25) rfl hX dJ6_bitCount_0f7a4_25 ?_
  refine A_iconst (pc := 26) (v := (nI 4)) (by decide) hX dJ6_bitCount_0f7a4_26 ?_
  refine A_iushr (pc := 27) hX dJ6_bitCount_0f7a4_27 ?_
  refine A_iadd (pc := 28) hX dJ6_bitCount_0f7a4_28 ?_
  refine A_ldcw (pc := 29) k_J6_267 hX dJ6_bitCount_0f7a4_29 ?_
  refine A_iand (pc := 32) hX dJ6_bitCount_0f7a4_32 ?_
  refine A_istore_n (pc := 33) (lv' := [_]) hX dJ6_bitCount_0f7a4_33 (Nat.le_of_ble_eq_true rfl) rfl rfl ?_
  refine A_iload_n (pc := 34) rfl hX dJ6_bitCount_0f7a4_34 ?_
  refine A_iload_n (pc := 35) rfl hX dJ6_bitCount_0f7a4_35 ?_
  refine A_bipush (pc := 36) (v := (nI 8)) (by decide) hX dJ6_bitCount_0f7a4_36 ?_
  refine A_iushr (pc := 38) hX dJ6_bitCount_0f7a4_38 ?_
  refine A_iadd (pc := 39) hX dJ6_bitCount_0f7a4_39 ?_
  refine A_istore_n (pc := 40) (lv' := [_]) hX dJ6_bitCount_0f7a4_40 (Nat.le_of_ble_eq_true rfl) rfl rfl ?_
  refine A_iload_n (pc := 41) rfl hX dJ6_bitCount_0f7a4_41 ?_
  refine A_iload_n (pc := 42) rfl hX dJ6_bitCount_0f7a4_42 ?_
  refine A_bipush (pc := 43) (v := (nI 16)) (by decide) hX dJ6_bitCount_0f7a4_43 ?_
  refine A_iushr (pc := 45) hX dJ6_bitCount_0f7a4_45 ?_
  refine A_iadd (pc := 46) hX dJ6_bitCount_0f7a4_46 ?_
  refine A_istore_n (pc := 47) (lv' := [_]) hX dJ6_bitCount_0f7a4_47 (Nat.le_of_ble_eq_true rfl) rfl rfl ?_
  refine A_iload_n (pc := 48) rfl hX dJ6_bitCount_0f7a4_48 ?_
  refine A_bipush (pc := 49) (v := (nI 63)) (by decide) hX dJ6_bitCount_0f7a4_49 ?_
  refine A_iand (pc := 51) hX dJ6_bitCount_0f7a4_51 ?_
  refine A_iret (pc := 52) hX hR dJ6_bitCount_0f7a4_52 rfl rfl ?_
  exact ⟨rfl, rfl⟩
/-- the search as it stands: f states are in the queue -/
def QI (nb : Nat) (B : Nat → Nat × Nat × Nat × Nat) (st s0 tr ls sr f : Nat) (gq gs : Nat → Int32) (qu : Nat → Nat) : Prop := (∀ s, s < 512 → (gs s = nI (sr + 1) ↔ ∃ q, q < f ∧ qu q = s)) ∧ (∀ q, q < f → gq q = nI (qu q) ∧ qu q < 512 ∧ Rch nb (mkB B) (alS st) s0 (qu q) ∧ ls ≤ trt (qu q) tr) ∧ (∃ q, q < f ∧ qu q = s0) ∧ f = cntN (fun s => decide (gs s = nI (sr + 1))) 512 ∧ ∀ s, s < 512 → ∃ k, k ≤ sr + 1 ∧ gs s = nI k
theorem QI.add {nb : Nat} {B : Nat → Nat × Nat × Nat × Nat} {st s0 tr ls sr f to : Nat} {gq gs : Nat → Int32} {qu : Nat → Nat} (h : QI nb B st s0 tr ls sr f gq gs qu) (hto : to < 512) (hns : ¬ gs to = nI (sr + 1)) (hr : Rch nb (mkB B) (alS st) s0 to) (ht : ls ≤ trt to tr) : f < 512 ∧ QI nb B st s0 tr ls sr (f + 1) (upd gq f (nI to)) (upd gs to (nI (sr + 1))) (fun q => if q = f then to else qu q) := by
  obtain ⟨h1, h2, ⟨q0, h3, h3'⟩, h4, h5⟩ := h
  have hf : f < 512 := by rw [h4]; exact cntN_lt_n to hto (decide_eq_false hns)
  refine ⟨hf, fun s hs => ?_, fun q hq => ?_, ⟨q0, by omega, by simp only [if_neg (show ¬ q0 = f by omega)]; exact h3'⟩, ?_, fun s hs => ?_⟩
  · by_cases e : s = to
    · subst e
      simp only [upd, if_pos]
      exact ⟨fun _ => ⟨f, by omega, if_pos rfl⟩, fun _ => trivial⟩
    · simp only [upd, if_neg e]
      rw [h1 s hs]
      constructor
      · rintro ⟨q, y1, y2⟩
        exact ⟨q, by omega, by simp only [if_neg (show ¬ q = f by omega)]; exact y2⟩
      · rintro ⟨q, y1, y2⟩
        by_cases e2 : q = f
        · simp only [if_pos e2] at y2; exact absurd y2.symm e
        · simp only [if_neg e2] at y2; exact ⟨q, by omega, y2⟩
  · by_cases e : q = f
    · subst e; simp only [upd, if_pos]; exact ⟨trivial, hto, hr, ht⟩
    · simp only [upd, if_neg e]; exact h2 q (by omega)
  · rw [h4]
    refine (cntN_up to hto (decide_eq_false hns) (decide_eq_true (by simp [upd])) fun s hs hne => ?_).symm
    simp only [upd, if_neg hne]
  · by_cases e : s = to
    · subst e; exact ⟨sr + 1, Nat.le_refl _, by simp [upd]⟩
    · simp only [upd, if_neg e]; exact h5 s hs
theorem QI.done {nb : Nat} {B : Nat → Nat × Nat × Nat × Nat} {st s0 tr ls sr f : Nat} {gq gs : Nat → Int32} {qu : Nat → Nat} (h : QI nb B st s0 tr ls sr f gq gs qu) (hc : ∀ q b, q < f → b < nb → alS st b = true → gs (mkB B b (qu q)) = nI (sr + 1)) (hok : okB nb B) : safeS nb B s0 tr ls st := by
  obtain ⟨h1, h2, ⟨q0, h3, h3'⟩, h4, h5⟩ := h
  intro s hs hr
  have := hr (fun x => x < 512 ∧ ∃ q, q < f ∧ qu q = x) ⟨by rw [← h3']; exact (h2 q0 h3).2.1, q0, h3, h3'⟩ fun b x b1 b2 b3 ⟨_, q, y1, y2⟩ => by
    have k1 := hc q b y1 b1 b2
    rw [y2] at k1
    have k2 := mkB_lt hok b1 b3
    exact ⟨k2, (h1 _ k2).mp k1⟩
  obtain ⟨-, q, y1, y2⟩ := this
  rw [← y2]
  exact (h2 q y1).2.2.2
theorem Rch.step {nb : Nat} {mB : Nat → Nat → Nat} {al : Nat → Bool} {s0 s b : Nat} (h : Rch nb mB al s0 s) (hs : s < 512) (hb : b < nb) (ha : al b = true) : Rch nb mB al s0 (mB b s) := fun V v0 vc => vc b s hb ha hs (h V v0 vc)
set_option maxRecDepth 100000 in
set_option maxHeartbeats 1000000 in
theorem ct_isSafeWithout (l : Launch) (G : aG) {z w tp nb sr : Nat} {B : Nat → Nat × Nat × Nat × Nat} {σ : aS} (hw : RTw G w tp nb B σ) (hz : RSp G z w sr σ) (hwz : w + 5 ≤ z) (hzt : z + 3 ≤ tp) {st s0 tr ls : Nat} (hst : st < 64) (hs0 : s0 < 512) (htr : tr < 3) (hls : ls ≤ trt s0 tr) (hsr : sr < 2 ^ 30) : ACt l G yX5_isSafeWithout cX5_isSafeWithout 11 (some (.boolean)) 1 0 0 [.ref z, .int (nI st), .int (nI s0), .int (nI tr), .int (nI ls)] σ (iP (fun x σ' => (∃ r, x = bI r ∧ (r = true ↔ safeS nb B s0 tr ls st)) ∧ RSp G z w (sr + 1) σ' ∧ Fr z (z + 3) σ σ')) := by
  obtain ⟨hwt, hnb, hok, bor, fa, fo, fn, e0, e1, e2, e3, e4, e5, e6⟩ := id hw
  obtain ⟨gq0, gs0, a0, a1, a2, hse⟩ := id hz
  have hls8 := trt_lt s0 tr
  refine ACt.intro (own := RX5) (nm := "isSafeWithout") mk_X5_isSafeWithout rfl rfl [some (.ref z), some (.int (nI st)), some (.int (nI s0)), some (.int (nI tr)), some (.int (nI ls)), none, none, none, none, none, none] rfl (Nat.le_of_ble_eq_true rfl) (fun X hX hR => ?_)
  refine A_aload_n (pc := 0) rfl hX dX5_isSafeWithout_0 ?_
  refine A_dup (pc := 1) rfl hX dX5_isSafeWithout_1 ?_
  refine A_getf (pc := 2) hX fl_X5_42_5 dX5_isSafeWithout_2 (by repeat (first | assumption | exact aSet_s | exact aNew_s | refine lk_n ?_ (by omega) | refine lk_f (by assumption) ?_ (by omega) | refine lk_w ?_ (by omega))) (by exact rfl) ?_
  refine A_iconst (pc := 5) (v := (nI 1)) (by decide) hX dX5_isSafeWithout_5 ?_
  refine A_iadd (pc := 6) hX dX5_isSafeWithout_6 ?_
  refine A_top (y := nI (sr + 1)) (nI_succ sr).symm ?_
  refine A_putf (pc := 7) (fs' := [_, _, _, _]) hX pl_X5_42_5 dX5_isSafeWithout_7 (by repeat (first | assumption | exact aSet_s | exact aNew_s | refine lk_n ?_ (by omega) | refine lk_f (by assumption) ?_ (by omega) | refine lk_w ?_ (by omega))) (by exact Nat.le_of_ble_eq_true rfl) (by exact rfl) rfl rfl ?_
  refine A_aload_n (pc := 10) rfl hX dX5_isSafeWithout_10 ?_
  refine A_getf (pc := 11) hX fl_X5_15_5 dX5_isSafeWithout_11 (by repeat (first | assumption | exact aSet_s | exact aNew_s | refine lk_n ?_ (by omega) | refine lk_f (by assumption) ?_ (by omega) | refine lk_w ?_ (by omega))) (by exact rfl) ?_
  refine A_iload_n (pc := 14) rfl hX dX5_isSafeWithout_14 ?_
  refine A_aload_n (pc := 15) rfl hX dX5_isSafeWithout_15 ?_
  refine A_getf (pc := 16) hX fl_X5_42_5 dX5_isSafeWithout_16 (by repeat (first | assumption | exact aSet_s | exact aNew_s | refine lk_n ?_ (by omega) | refine lk_f (by assumption) ?_ (by omega) | refine lk_w ?_ (by omega))) (by exact rfl) ?_
  refine A_S3v (pc := 19) hX mk_X11_put ls_X5_45 dX5_isSafeWithout_19 (ct_put l G (by repeat (first | assumption | exact aSet_s | exact aNew_s | refine lk_n ?_ (by omega) | refine lk_f (by assumption) ?_ (by omega) | refine lk_w ?_ (by omega))) (by decide)) rfl (Nat.le_of_ble_eq_true rfl) (Nat.le_of_ble_eq_true rfl) (Nat.le_of_ble_eq_true rfl) (Nat.le_of_ble_eq_true rfl) (Nat.le_of_ble_eq_true rfl) (fun σ19 h19 => ?_)
  obtain ⟨h19, hf19⟩ := h19
  refine A_aload_n (pc := 22) rfl hX dX5_isSafeWithout_22 ?_
  refine A_getf (pc := 23) hX fl_X5_9_5 dX5_isSafeWithout_23 (by repeat (first | assumption | exact aSet_s | exact aNew_s | refine lk_n ?_ (by omega) | refine lk_f (by assumption) ?_ (by omega) | refine lk_w ?_ (by omega))) (by exact rfl) ?_
  refine A_iconst (pc := 26) (v := (nI 0)) (by decide) hX dX5_isSafeWithout_26 ?_
  refine A_iload_n (pc := 27) rfl hX dX5_isSafeWithout_27 ?_
  refine A_S3v (pc := 28) hX mk_X11_put ls_X5_45 dX5_isSafeWithout_28 (ct_put l G (by repeat (first | assumption | exact aSet_s | exact aNew_s | refine lk_n ?_ (by omega) | refine lk_f (by assumption) ?_ (by omega) | refine lk_w ?_ (by omega))) (by decide)) rfl (Nat.le_of_ble_eq_true rfl) (Nat.le_of_ble_eq_true rfl) (Nat.le_of_ble_eq_true rfl) (Nat.le_of_ble_eq_true rfl) (Nat.le_of_ble_eq_true rfl) (fun σ28 h28 => ?_)
  obtain ⟨h28, hf28⟩ := h28
  refine A_iconst (pc := 31) (v := (nI 1)) (by decide) hX dX5_isSafeWithout_31 ?_
  refine A_istore (pc := 32) (lv' := [_, _, _, _, _, _, _, _, _, _, _]) hX dX5_isSafeWithout_32 (Nat.le_of_ble_eq_true rfl) rfl rfl ?_
  refine A_iconst (pc := 34) (v := (nI 0)) (by decide) hX dX5_isSafeWithout_34 ?_
  refine A_istore (pc := 35) (lv' := [_, _, _, _, _, _, _, _, _, _, _]) hX dX5_isSafeWithout_35 (Nat.le_of_ble_eq_true rfl) rfl rfl ?_
  suffices hl : ∀ (m i f : Nat) (σ1 : aS) (gq gs : Nat → Int32) (qu : Nat → Nat) (v7 v8 v9 v10 : Option Value), i ≤ f → 512 - i = m → Fr z (z + 3) σ σ1 → σ1.2 z = some (aO 5 [.ref w, .ref (z + 1), .ref (z + 2), .int (nI (sr + 1))]) → σ1.2 (z + 1) = some (aI G 512 gq) → σ1.2 (z + 2) = some (aI G 512 gs) → QI nb B st s0 tr ls sr f gq gs qu → (∀ q b, q < i → b < nb → alS st b = true → gs (mkB B b (qu q)) = nI (sr + 1)) → AA G X 0 0 37 [some (.ref z), some (.int (nI st)), some (.int (nI s0)), some (.int (nI tr)), some (.int (nI ls)), some (.int (nI f)), some (.int (nI i)), v7, v8, v9, v10] [] σ1 from by
    refine hl 512 0 1 _ _ _ (fun _ => s0) none none none none (by omega) rfl (by repeat (first | exact Fr.rf | refine Fr.set ?_ (by omega) (by omega) | refine Fr.tr ?_ (Fr.wd (by assumption) (by omega) (by omega)))) (by repeat (first | assumption | exact aSet_s | exact aNew_s | refine lk_n ?_ (by omega) | refine lk_f (by assumption) ?_ (by omega) | refine lk_w ?_ (by omega))) (by repeat (first | assumption | exact aSet_s | exact aNew_s | refine lk_n ?_ (by omega) | refine lk_f (by assumption) ?_ (by omega) | refine lk_w ?_ (by omega))) (by repeat (first | assumption | exact aSet_s | exact aNew_s | refine lk_n ?_ (by omega) | refine lk_f (by assumption) ?_ (by omega) | refine lk_w ?_ (by omega))) ⟨fun s hs => ?_, fun q hq => ?_, ⟨0, by omega, rfl⟩, ?_, fun s hs => ?_⟩ (fun q b hq => absurd hq (by omega))
    · rw [putS_nI hs0 (by decide)]
      by_cases e : s = s0
      · subst e; simp only [upd, if_pos]; exact ⟨fun _ => ⟨0, by omega, by trivial⟩, fun _ => trivial⟩
      · simp only [upd, if_neg e]
        obtain ⟨k, k1, k2⟩ := hse s hs
        exact ⟨fun q => by rw [k2] at q; have := (nI_eq (by omega) (by omega)).mp q; omega, fun ⟨_, _, q⟩ => absurd q.symm e⟩
    · have e : q = 0 := by omega
      subst e
      rw [putS_nI (by decide) (by decide)]
      exact ⟨by simp [upd], hs0, fun V v0 _ => v0, hls⟩
    · rw [putS_nI hs0 (by decide), cntN_up (f := fun s => decide (gs0 s = nI (sr + 1))) s0 hs0 (decide_eq_false (fun q => by obtain ⟨k, k1, k2⟩ := hse s0 hs0; rw [k2] at q; have := (nI_eq (by omega) (by omega)).mp q; omega)) (decide_eq_true (by simp [upd])) (fun s hs hne => by simp only [upd, if_neg hne])]
      rw [cntN_cg (g := fun _ => false) fun s hs => decide_eq_false (fun q => by obtain ⟨k, k1, k2⟩ := hse s hs; rw [k2] at q; have := (nI_eq (by omega) (by omega)).mp q; omega), cntN_z]
    · rw [putS_nI hs0 (by decide)]
      by_cases e : s = s0
      · subst e; exact ⟨sr + 1, Nat.le_refl _, by simp [upd]⟩
      · simp only [upd, if_neg e]
        obtain ⟨k, k1, k2⟩ := hse s hs
        exact ⟨k, by omega, k2⟩
  intro m
  induction m with
  | zero =>
    intro i f σ1 gq gs qu v7 v8 v9 v10 hif hm hFr b0 b1 b2 hQ hc
    have hf5 : f ≤ 512 := by rw [hQ.2.2.2.1]; exact cntN_n _ _
    have e : i = 512 ∧ f = 512 := by omega
    obtain ⟨rfl, rfl⟩ := e
    refine A_iload (pc := 37) rfl hX dX5_isSafeWithout_37 ?_
    refine A_iload (pc := 39) rfl hX dX5_isSafeWithout_39 ?_
    refine A_icmp_ge (pc := 41) 181 hX dX5_isSafeWithout_41 rfl (fun c41 => ?_) (fun c41 => ?_)
    · refine A_iconst (pc := 181) (v := (nI 1)) (by decide) hX dX5_isSafeWithout_181 ?_
      refine A_iret (pc := 182) hX hR dX5_isSafeWithout_182 rfl rfl ?_
      exact ⟨_, rfl, ⟨true, rfl, fun _ => hQ.done hc hok, fun _ => rfl⟩, ⟨_, _, b0, b1, b2, hQ.2.2.2.2⟩, hFr⟩
    · exact absurd (nI_le (Nat.le_refl 512) (by decide)) c41
  | succ m ih =>
    intro i f σ1 gq gs qu v7 v8 v9 v10 hif hm hFr b0 b1 b2 hQ hc
    have hf5 : f ≤ 512 := by rw [hQ.2.2.2.1]; exact cntN_n _ _
    refine A_iload (pc := 37) rfl hX dX5_isSafeWithout_37 ?_
    refine A_iload (pc := 39) rfl hX dX5_isSafeWithout_39 ?_
    refine A_icmp_ge (pc := 41) 181 hX dX5_isSafeWithout_41 rfl (fun c41 => ?_) (fun c41 => ?_)
    · have c41 := (nI_leI (by omega) (by omega)).mp c41
      have e : i = f := by omega
      subst e
      refine A_iconst (pc := 181) (v := (nI 1)) (by decide) hX dX5_isSafeWithout_181 ?_
      refine A_iret (pc := 182) hX hR dX5_isSafeWithout_182 rfl rfl ?_
      exact ⟨_, rfl, ⟨true, rfl, fun _ => hQ.done hc hok, fun _ => rfl⟩, ⟨_, _, b0, b1, b2, hQ.2.2.2.2⟩, hFr⟩
    · have hlt : i < f := by
        rcases Nat.lt_or_ge i f with q | q
        · exact q
        · exact absurd (nI_le q (by omega)) c41
      have hqu := hQ.2.1 i hlt
      refine A_iload (pc := 44) rfl hX dX5_isSafeWithout_44 ?_
      refine A_sipush (pc := 46) (v := (nI 512)) (by decide) hX dX5_isSafeWithout_46 ?_
      refine A_icmp_ge (pc := 49) 181 hX dX5_isSafeWithout_49 rfl (fun c49 => ?_) (fun c49 => ?_)
      · exact absurd c49 (nI_ge (by omega) (by decide))
      · refine A_aload_n (pc := 52) rfl hX dX5_isSafeWithout_52 ?_
        refine A_getf (pc := 53) hX fl_X5_9_5 dX5_isSafeWithout_53 (by repeat (first | assumption | exact aSet_s | exact aNew_s | refine lk_n ?_ (by omega) | refine lk_f (by assumption) ?_ (by omega) | refine lk_w ?_ (by omega))) (by exact rfl) ?_
        refine A_iload (pc := 56) rfl hX dX5_isSafeWithout_56 ?_
        refine A_S2d (pc := 58) hX mk_X11_at ls_X5_49 dX5_isSafeWithout_58 (ct_at l G (by repeat (first | assumption | exact aSet_s | exact aNew_s | refine lk_n ?_ (by omega) | refine lk_f (by assumption) ?_ (by omega) | refine lk_w ?_ (by omega))) (by decide)) rfl (Nat.le_of_ble_eq_true rfl) (Nat.le_of_ble_eq_true rfl) (Nat.le_of_ble_eq_true rfl) (Nat.le_of_ble_eq_true rfl) (Nat.le_of_ble_eq_true rfl) ?_
        refine A_top (y := nI (qu i)) (by rw [atS_nI (by omega) (by decide), hqu.1]) ?_
        refine A_istore (pc := 61) (lv' := [_, _, _, _, _, _, _, _, _, _, _]) hX dX5_isSafeWithout_61 (Nat.le_of_ble_eq_true rfl) rfl rfl ?_
        refine A_iconst (pc := 63) (v := (nI 0)) (by decide) hX dX5_isSafeWithout_63 ?_
        refine A_istore (pc := 64) (lv' := [_, _, _, _, _, _, _, _, _, _, _]) hX dX5_isSafeWithout_64 (Nat.le_of_ble_eq_true rfl) rfl rfl ?_
        suffices hi : ∀ (m2 b f2 : Nat) (σ2 : aS) (gq gs : Nat → Int32) (qu2 : Nat → Nat) (v9 v10 : Option Value), b ≤ nb → nb - b = m2 → i < f2 → qu2 i = qu i → Fr z (z + 3) σ σ2 → σ2.2 z = some (aO 5 [.ref w, .ref (z + 1), .ref (z + 2), .int (nI (sr + 1))]) → σ2.2 (z + 1) = some (aI G 512 gq) → σ2.2 (z + 2) = some (aI G 512 gs) → QI nb B st s0 tr ls sr f2 gq gs qu2 → (∀ q b, q < i → b < nb → alS st b = true → gs (mkB B b (qu2 q)) = nI (sr + 1)) → (∀ b', b' < b → alS st b' = true → gs (mkB B b' (qu i)) = nI (sr + 1)) → AA G X 0 0 66 [some (.ref z), some (.int (nI st)), some (.int (nI s0)), some (.int (nI tr)), some (.int (nI ls)), some (.int (nI f2)), some (.int (nI i)), some (.int (nI (qu i))), some (.int (nI b)), v9, v10] [] σ2 from hi nb 0 f σ1 gq gs qu v9 v10 (Nat.zero_le _) rfl hlt rfl hFr b0 b1 b2 hQ hc (fun b' hb => absurd hb (by omega))
        intro m2
        induction m2 with
        | zero =>
          intro b f2 σ2 gq gs qu2 v9 v10 hb hm2 hif2 hqi hFr2 k0 k1 k2 hQ2 hc2 hb2
          have e : b = nb := by omega
          subst e
          have g0 := lk_f hFr2 e0 (by omega)
          refine A_iload (pc := 66) rfl hX dX5_isSafeWithout_66 ?_
          refine A_aload_n (pc := 68) rfl hX dX5_isSafeWithout_68 ?_
          refine A_getf (pc := 69) hX fl_X5_18_5 dX5_isSafeWithout_69 (by repeat (first | assumption | exact aSet_s | exact aNew_s | refine lk_n ?_ (by omega) | refine lk_f (by assumption) ?_ (by omega) | refine lk_w ?_ (by omega))) (by exact rfl) ?_
          refine A_getf (pc := 72) hX fl_X5_26_8 dX5_isSafeWithout_72 (by repeat (first | assumption | exact aSet_s | exact aNew_s | refine lk_n ?_ (by omega) | refine lk_f (by assumption) ?_ (by omega) | refine lk_w ?_ (by omega))) (by exact rfl) ?_
          refine A_icmp_ge (pc := 75) 175 hX dX5_isSafeWithout_75 rfl (fun c75 => ?_) (fun c75 => ?_)
          · refine A_iinc (pc := 175) (v := (nI (i + 1))) (lv' := [_, _, _, _, _, _, _, _, _, _, _]) hX dX5_isSafeWithout_175 rfl (nI_succ i).symm rfl rfl ?_
            refine A_goto (pc := 178) 37 hX dX5_isSafeWithout_178 rfl ?_
            exact ih (i + 1) f2 σ2 gq gs qu2 _ _ _ _ (by omega) (by omega) hFr2 k0 k1 k2 hQ2 (fun q b' hq hb' ha => by
              by_cases e : q = i
              · subst e; rw [hqi]; exact hb2 b' hb' ha
              · exact hc2 q b' (by omega) hb' ha)
          · exact absurd (nI_le (Nat.le_refl _) (by omega)) c75
        | succ m2 ih2 =>
          intro b f2 σ2 gq gs qu2 v9 v10 hb hm2 hif2 hqi hFr2 k0 k1 k2 hQ2 hc2 hb2
          have hbl : b < nb := by omega
          have g0 := lk_f hFr2 e0 (by omega)
          have hw2 := hw.fr hFr2 (by omega) (.inr (by omega))
          have hto : mkB B b (qu i) < 512 := mkB_lt hok hbl hqu.2.1
          have hf25 : f2 ≤ 512 := by rw [hQ2.2.2.2.1]; exact cntN_n _ _
          have hnx : ∀ (f3 : Nat) (σ3 : aS) (gq gs : Nat → Int32) (qu3 : Nat → Nat) (v9 v10 : Option Value), i < f3 → qu3 i = qu i → Fr z (z + 3) σ σ3 → σ3.2 z = some (aO 5 [.ref w, .ref (z + 1), .ref (z + 2), .int (nI (sr + 1))]) → σ3.2 (z + 1) = some (aI G 512 gq) → σ3.2 (z + 2) = some (aI G 512 gs) → QI nb B st s0 tr ls sr f3 gq gs qu3 → (∀ q b, q < i → b < nb → alS st b = true → gs (mkB B b (qu3 q)) = nI (sr + 1)) → (∀ b', b' < b + 1 → alS st b' = true → gs (mkB B b' (qu i)) = nI (sr + 1)) → AA G X 0 0 169 [some (.ref z), some (.int (nI st)), some (.int (nI s0)), some (.int (nI tr)), some (.int (nI ls)), some (.int (nI f3)), some (.int (nI i)), some (.int (nI (qu i))), some (.int (nI b)), v9, v10] [] σ3 := by
            intro f3 σ3 gq gs qu3 v9 v10 x1 x2 x3 x4 x5 x6 x7 x8 x9
            refine A_iinc (pc := 169) (v := (nI (b + 1))) (lv' := [_, _, _, _, _, _, _, _, _, _, _]) hX dX5_isSafeWithout_169 rfl (nI_succ b).symm rfl rfl ?_
            refine A_goto (pc := 172) 66 hX dX5_isSafeWithout_172 rfl ?_
            exact ih2 (b + 1) f3 σ3 gq gs qu3 _ _ (by omega) (by omega) x1 x2 x3 x4 x5 x6 x7 x8 x9
          suffices hj : AA G X 0 0 93 [some (.ref z), some (.int (nI st)), some (.int (nI s0)), some (.int (nI tr)), some (.int (nI ls)), some (.int (nI f2)), some (.int (nI i)), some (.int (nI (qu i))), some (.int (nI b)), v9, v10] [.int (bI (bitN st b))] σ2 from by
            refine A_iload (pc := 66) rfl hX dX5_isSafeWithout_66 ?_
            refine A_aload_n (pc := 68) rfl hX dX5_isSafeWithout_68 ?_
            refine A_getf (pc := 69) hX fl_X5_18_5 dX5_isSafeWithout_69 (by repeat (first | assumption | exact aSet_s | exact aNew_s | refine lk_n ?_ (by omega) | refine lk_f (by assumption) ?_ (by omega) | refine lk_w ?_ (by omega))) (by exact rfl) ?_
            refine A_getf (pc := 72) hX fl_X5_26_8 dX5_isSafeWithout_72 (by repeat (first | assumption | exact aSet_s | exact aNew_s | refine lk_n ?_ (by omega) | refine lk_f (by assumption) ?_ (by omega) | refine lk_w ?_ (by omega))) (by exact rfl) ?_
            refine A_icmp_ge (pc := 75) 175 hX dX5_isSafeWithout_75 rfl (fun c75 => ?_) (fun c75 => ?_)
            · exact absurd c75 (nI_ge hbl (by omega))
            · refine A_iload_n (pc := 78) rfl hX dX5_isSafeWithout_78 ?_
              refine A_iload (pc := 79) rfl hX dX5_isSafeWithout_79 ?_
              refine A_ishr (pc := 81) hX dX5_isSafeWithout_81 ?_
              refine A_iconst (pc := 82) (v := (nI 1)) (by decide) hX dX5_isSafeWithout_82 ?_
              refine A_iand (pc := 83) hX dX5_isSafeWithout_83 ?_
              refine A_top (y := nI (st / 2 ^ b % 2)) (i_bit hst (by omega)) ?_
              refine A_iconst (pc := 84) (v := (nI 1)) (by decide) hX dX5_isSafeWithout_84 ?_
              refine A_icmp_ne (pc := 85) 92 hX dX5_isSafeWithout_85 rfl (fun c85 => ?_) (fun c85 => ?_)
              · have hx : nI 0 = bI (bitN st b) := by
                  rw [bitN, decide_eq_false (fun q => c85 (by rw [q]))]; rfl
                refine A_iconst (pc := 92) (v := (nI 0)) (by decide) hX dX5_isSafeWithout_92 ?_
                exact A_top (by assumption) hj
              · have c85 : nI (st / 2 ^ b % 2) = nI 1 := Decidable.byContradiction fun q => absurd c85 (by simpa using q)
                have hx : nI 1 = bI (bitN st b) := by
                  rw [bitN, decide_eq_true ((nI_eq (by omega) (by decide)).mp c85)]; rfl
                refine A_iconst (pc := 88) (v := (nI 1)) (by decide) hX dX5_isSafeWithout_88 ?_
                refine A_goto (pc := 89) 93 hX dX5_isSafeWithout_89 rfl ?_
                exact A_top (by assumption) hj
          refine A_istore (pc := 93) (lv' := [_, _, _, _, _, _, _, _, _, _, _]) hX dX5_isSafeWithout_93 (Nat.le_of_ble_eq_true rfl) rfl rfl ?_
          refine A_aload_n (pc := 95) rfl hX dX5_isSafeWithout_95 ?_
          refine A_getf (pc := 96) hX fl_X5_18_5 dX5_isSafeWithout_96 (by repeat (first | assumption | exact aSet_s | exact aNew_s | refine lk_n ?_ (by omega) | refine lk_f (by assumption) ?_ (by omega) | refine lk_w ?_ (by omega))) (by exact rfl) ?_
          refine A_iload (pc := 99) rfl hX dX5_isSafeWithout_99 ?_
          refine A_iload (pc := 101) rfl hX dX5_isSafeWithout_101 ?_
          refine A_V2d (pc := 103) hX mk_X8_after lv_X5_53 dX5_isSafeWithout_103 (by repeat (first | assumption | exact aSet_s | exact aNew_s | refine lk_n ?_ (by omega) | refine lk_f (by assumption) ?_ (by omega) | refine lk_w ?_ (by omega))) (ct_after l G hw2 hbl hqu.2.1) rfl (Nat.le_of_ble_eq_true rfl) (Nat.le_of_ble_eq_true rfl) (Nat.le_of_ble_eq_true rfl) (Nat.le_of_ble_eq_true rfl) (Nat.le_of_ble_eq_true rfl) ?_
          refine A_istore (pc := 106) (lv' := [_, _, _, _, _, _, _, _, _, _, _]) hX dX5_isSafeWithout_106 (Nat.le_of_ble_eq_true rfl) rfl rfl ?_
          refine A_iload (pc := 108) rfl hX dX5_isSafeWithout_108 ?_
          refine A_if_ne (pc := 110) 169 hX dX5_isSafeWithout_110 rfl (fun c110 => ?_) (fun c110 => ?_)
          · exact hnx f2 σ2 gq gs qu2 _ _ hif2 hqi hFr2 k0 k1 k2 hQ2 hc2 (fun b' hb' ha => by
              by_cases e : b' = b
              · subst e; rw [alS, bI_ne c110] at ha; exact absurd ha (by decide)
              · exact hb2 b' (by omega) ha)
          · have cv0 : bI (bitN st b) = 0 := Decidable.byContradiction fun q => absurd c110 (by simpa using q)
            have hal : alS st b = true := by rw [alS, bI_eq cv0]; rfl
            have hrt := hqu.2.2.1.step hqu.2.1 hbl hal
            refine A_aload_n (pc := 113) rfl hX dX5_isSafeWithout_113 ?_
            refine A_getf (pc := 114) hX fl_X5_15_5 dX5_isSafeWithout_114 (by repeat (first | assumption | exact aSet_s | exact aNew_s | refine lk_n ?_ (by omega) | refine lk_f (by assumption) ?_ (by omega) | refine lk_w ?_ (by omega))) (by exact rfl) ?_
            refine A_iload (pc := 117) rfl hX dX5_isSafeWithout_117 ?_
            refine A_S2d (pc := 119) hX mk_X11_at ls_X5_49 dX5_isSafeWithout_119 (ct_at l G k2 (by decide)) rfl (Nat.le_of_ble_eq_true rfl) (Nat.le_of_ble_eq_true rfl) (Nat.le_of_ble_eq_true rfl) (Nat.le_of_ble_eq_true rfl) (Nat.le_of_ble_eq_true rfl) ?_
            refine A_top (y := gs (mkB B b (qu i))) (atS_nI hto (by decide)) ?_
            refine A_aload_n (pc := 122) rfl hX dX5_isSafeWithout_122 ?_
            refine A_getf (pc := 123) hX fl_X5_42_5 dX5_isSafeWithout_123 (by repeat (first | assumption | exact aSet_s | exact aNew_s | refine lk_n ?_ (by omega) | refine lk_f (by assumption) ?_ (by omega) | refine lk_w ?_ (by omega))) (by exact rfl) ?_
            refine A_icmp_eq (pc := 126) 169 hX dX5_isSafeWithout_126 rfl (fun c126 => ?_) (fun c126 => ?_)
            · exact hnx f2 σ2 gq gs qu2 _ _ hif2 hqi hFr2 k0 k1 k2 hQ2 hc2 (fun b' hb' ha => by
                by_cases e : b' = b
                · subst e; exact c126
                · exact hb2 b' (by omega) ha)
            · refine A_iload (pc := 129) rfl hX dX5_isSafeWithout_129 ?_
              refine A_iload_n (pc := 131) rfl hX dX5_isSafeWithout_131 ?_
              refine A_S2d (pc := 132) hX mk_X11_traitOf ls_X5_22 dX5_isSafeWithout_132 (ct_traitOf l G hto htr) rfl (Nat.le_of_ble_eq_true rfl) (Nat.le_of_ble_eq_true rfl) (Nat.le_of_ble_eq_true rfl) (Nat.le_of_ble_eq_true rfl) (Nat.le_of_ble_eq_true rfl) ?_
              refine A_iload (pc := 135) rfl hX dX5_isSafeWithout_135 ?_
              refine A_icmp_ge (pc := 137) 142 hX dX5_isSafeWithout_137 rfl (fun c137 => ?_) (fun c137 => ?_)
              · rw [nI_leI (by omega) (by have := trt_lt (mkB B b (qu i)) tr; omega)] at c137
                obtain ⟨y1, y2⟩ := hQ2.add hto c126 hrt c137
                refine A_aload_n (pc := 142) rfl hX dX5_isSafeWithout_142 ?_
                refine A_getf (pc := 143) hX fl_X5_15_5 dX5_isSafeWithout_143 (by repeat (first | assumption | exact aSet_s | exact aNew_s | refine lk_n ?_ (by omega) | refine lk_f (by assumption) ?_ (by omega) | refine lk_w ?_ (by omega))) (by exact rfl) ?_
                refine A_iload (pc := 146) rfl hX dX5_isSafeWithout_146 ?_
                refine A_aload_n (pc := 148) rfl hX dX5_isSafeWithout_148 ?_
                refine A_getf (pc := 149) hX fl_X5_42_5 dX5_isSafeWithout_149 (by repeat (first | assumption | exact aSet_s | exact aNew_s | refine lk_n ?_ (by omega) | refine lk_f (by assumption) ?_ (by omega) | refine lk_w ?_ (by omega))) (by exact rfl) ?_
                refine A_S3v (pc := 152) hX mk_X11_put ls_X5_45 dX5_isSafeWithout_152 (ct_put l G k2 (by decide)) rfl (Nat.le_of_ble_eq_true rfl) (Nat.le_of_ble_eq_true rfl) (Nat.le_of_ble_eq_true rfl) (Nat.le_of_ble_eq_true rfl) (Nat.le_of_ble_eq_true rfl) (fun σ152 h152 => ?_)
                obtain ⟨h152, hf152⟩ := h152
                refine A_aload_n (pc := 155) rfl hX dX5_isSafeWithout_155 ?_
                refine A_getf (pc := 156) hX fl_X5_9_5 dX5_isSafeWithout_156 (by repeat (first | assumption | exact aSet_s | exact aNew_s | refine lk_n ?_ (by omega) | refine lk_f (by assumption) ?_ (by omega) | refine lk_w ?_ (by omega))) (by exact rfl) ?_
                refine A_iload (pc := 159) rfl hX dX5_isSafeWithout_159 ?_
                refine A_iload (pc := 161) rfl hX dX5_isSafeWithout_161 ?_
                refine A_S3v (pc := 163) hX mk_X11_put ls_X5_45 dX5_isSafeWithout_163 (ct_put l G (lk_f hf152 k1 (by omega)) (by decide)) rfl (Nat.le_of_ble_eq_true rfl) (Nat.le_of_ble_eq_true rfl) (Nat.le_of_ble_eq_true rfl) (Nat.le_of_ble_eq_true rfl) (Nat.le_of_ble_eq_true rfl) (fun σ163 h163 => ?_)
                obtain ⟨h163, hf163⟩ := h163
                refine A_iinc (pc := 166) (v := (nI (f2 + 1))) (lv' := [_, _, _, _, _, _, _, _, _, _, _]) hX dX5_isSafeWithout_166 rfl (nI_succ f2).symm rfl rfl ?_
                refine hnx (f2 + 1) σ163 _ _ _ _ _ (by omega) (by simp only [if_neg (show ¬ i = f2 by omega)]; exact hqi) (by repeat (first | exact Fr.rf | refine Fr.set ?_ (by omega) (by omega) | refine Fr.tr ?_ (Fr.wd (by assumption) (by omega) (by omega)))) (by repeat (first | assumption | exact aSet_s | exact aNew_s | refine lk_n ?_ (by omega) | refine lk_f (by assumption) ?_ (by omega) | refine lk_w ?_ (by omega))) (h163.trans (by rw [putS_nI y1 (by decide)])) ((lk_f hf163 h152 (by omega)).trans (by rw [putS_nI hto (by decide)])) y2 (fun q b' hq hb' ha => ?_) (fun b' hb' ha => ?_)
                · simp only [if_neg (show ¬ q = f2 by omega), upd]
                  split
                  · rfl
                  · exact hc2 q b' hq hb' ha
                · simp only [upd]
                  split
                  · rfl
                  · rename_i e
                    exact hb2 b' (by
                      by_cases e2 : b' = b
                      · subst e2; exact absurd rfl e
                      · omega) ha
              · refine A_iconst (pc := 140) (v := (nI 0)) (by decide) hX dX5_isSafeWithout_140 ?_
                refine A_iret (pc := 141) hX hR dX5_isSafeWithout_141 rfl rfl ?_
                have c137' : ¬ ls ≤ trt (mkB B b (qu i)) tr := fun q => c137 (nI_le q (by have := trt_lt (mkB B b (qu i)) tr; omega))
                exact ⟨_, rfl, ⟨false, rfl, fun q => absurd q (by decide), fun q => absurd (q _ hto hrt) c137'⟩, ⟨_, _, k0, k1, k2, hQ2.2.2.2.2⟩, hFr2⟩
theorem pcN_le {nb st : Nat} (hnb : nb ≤ 6) (h : st < 2 ^ nb) : pcN st ≤ nb := (by decide +kernel : ∀ nb, nb < 7 → ∀ st, st < 64 → st < 2 ^ nb → pcN st ≤ nb) nb (by omega) st (Nat.lt_of_lt_of_le h (p2_64 hnb)) h
theorem pcN_6 {st : Nat} : pcN st ≤ 6 := cntN_n _ _
theorem Rch.self {nb : Nat} {mB : Nat → Nat → Nat} {al : Nat → Bool} {s0 : Nat} : Rch nb mB al s0 s0 := fun V v0 _ => v0
set_option maxRecDepth 100000 in
set_option maxHeartbeats 1000000 in
theorem ct_fewest (l : Launch) (G : aG) {z w tp nb sr : Nat} {B : Nat → Nat × Nat × Nat × Nat} {σ : aS} (hw : RTw G w tp nb B σ) (hz : RSp G z w sr σ) (hwz : w + 5 ≤ z) (hzt : z + 3 ≤ tp) {s0 tr ls : Nat} (hs0 : s0 < 512) (htr : tr < 3) (hls : ls < 8) (hsr : sr < 2 ^ 29) : ACt l G yX5_fewest cX5_fewest 7 (some .int) 2 0 0 [.ref z, .int (nI s0), .int (nI tr), .int (nI ls)] σ (iP (fun x σ' => x = spV nb B s0 tr ls ∧ (∃ k, k ≤ sr + 448 ∧ RSp G z w k σ') ∧ Fr z (z + 3) σ σ')) := by
  obtain ⟨hwt, hnb, hok, bor, fa, fo, fn, e0, e1, e2, e3, e4, e5, e6⟩ := id hw
  obtain ⟨gq0, gs0, a0, a1, a2, hse⟩ := id hz
  have htl := trt_lt s0 tr
  have hp6 := p2_64 hnb
  refine ACt.intro (own := RX5) (nm := "fewest") mk_X5_fewest rfl rfl [some (.ref z), some (.int (nI s0)), some (.int (nI tr)), some (.int (nI ls)), none, none, none] rfl (Nat.le_of_ble_eq_true rfl) (fun X hX hR => ?_)
  refine A_iload_n (pc := 0) rfl hX dX5_fewest_0 ?_
  refine A_iload_n (pc := 1) rfl hX dX5_fewest_1 ?_
  refine A_S2d (pc := 2) hX mk_X11_traitOf ls_X5_22 dX5_fewest_2 (ct_traitOf l G hs0 htr) rfl (Nat.le_of_ble_eq_true rfl) (Nat.le_of_ble_eq_true rfl) (Nat.le_of_ble_eq_true rfl) (Nat.le_of_ble_eq_true rfl) (Nat.le_of_ble_eq_true rfl) ?_
  refine A_iload_n (pc := 5) rfl hX dX5_fewest_5 ?_
  refine A_icmp_ge (pc := 6) 11 hX dX5_fewest_6 rfl (fun c6 => ?_) (fun c6 => ?_)
  · have hlt := (nI_leI (by omega) (by omega)).mp c6
    refine A_iconst (pc := 11) (v := (nI 1)) (by decide) hX dX5_fewest_11 ?_
    refine A_aload_n (pc := 12) rfl hX dX5_fewest_12 ?_
    refine A_getf (pc := 13) hX fl_X5_18_5 dX5_fewest_13 (by repeat (first | assumption | exact aSet_s | exact aNew_s | refine lk_n ?_ (by omega) | refine lk_f (by assumption) ?_ (by omega) | refine lk_w ?_ (by omega))) (by exact rfl) ?_
    refine A_getf (pc := 16) hX fl_X5_26_8 dX5_fewest_16 (by repeat (first | assumption | exact aSet_s | exact aNew_s | refine lk_n ?_ (by omega) | refine lk_f (by assumption) ?_ (by omega) | refine lk_w ?_ (by omega))) (by exact rfl) ?_
    refine A_ishl (pc := 19) hX dX5_fewest_19 ?_
    refine A_top (y := nI (2 ^ nb)) (i_pow hnb) ?_
    refine A_istore (pc := 20) (lv' := [_, _, _, _, _, _, _]) hX dX5_fewest_20 (Nat.le_of_ble_eq_true rfl) rfl rfl ?_
    refine A_iconst (pc := 22) (v := (nI 0)) (by decide) hX dX5_fewest_22 ?_
    refine A_istore (pc := 23) (lv' := [_, _, _, _, _, _, _]) hX dX5_fewest_23 (Nat.le_of_ble_eq_true rfl) rfl rfl ?_
    suffices hl : ∀ (m i k1 : Nat) (σ1 : aS) (v6 : Option Value), i ≤ nb + 1 → nb + 1 - i = m → k1 ≤ sr + i * 64 → RSp G z w k1 σ1 → Fr z (z + 3) σ σ1 → (∀ st, st < 2 ^ nb → pcN st < i → ¬ safeS nb B s0 tr ls st) → AA G X 0 0 25 [some (.ref z), some (.int (nI s0)), some (.int (nI tr)), some (.int (nI ls)), some (.int (nI (2 ^ nb))), some (.int (nI i)), v6] [] σ1 from hl (nb + 1) 0 sr σ none (Nat.zero_le _) rfl (by omega) hz Fr.rf (fun st _ q => absurd q (by omega))
    intro m
    induction m with
    | zero =>
      intro i k1 σ1 v6 hi hm hk hz1 hFr hno
      have e : i = nb + 1 := by omega
      subst e
      obtain ⟨gq, gs, b0, b1, b2, _⟩ := id hz1
      have g0 := lk_f hFr e0 (by omega)
      refine A_iload (pc := 25) rfl hX dX5_fewest_25 ?_
      refine A_aload_n (pc := 27) rfl hX dX5_fewest_27 ?_
      refine A_getf (pc := 28) hX fl_X5_18_5 dX5_fewest_28 (by repeat (first | assumption | exact aSet_s | exact aNew_s | refine lk_n ?_ (by omega) | refine lk_f (by assumption) ?_ (by omega) | refine lk_w ?_ (by omega))) (by exact rfl) ?_
      refine A_getf (pc := 31) hX fl_X5_26_8 dX5_fewest_31 (by repeat (first | assumption | exact aSet_s | exact aNew_s | refine lk_n ?_ (by omega) | refine lk_f (by assumption) ?_ (by omega) | refine lk_w ?_ (by omega))) (by exact rfl) ?_
      refine A_icmp_gt (pc := 34) 84 hX dX5_fewest_34 rfl (fun c34 => ?_) (fun c34 => ?_)
      · refine A_iconst (pc := 84) (v := (-1)) (by decide) hX dX5_fewest_84 ?_
        refine A_iret (pc := 85) hX hR dX5_fewest_85 rfl rfl ?_
        refine ⟨_, rfl, Few.name ?_, ⟨k1, by omega, hz1⟩, hFr⟩
        exact .inl ⟨rfl, fun st h1 h2 => hno st h1 (by have := pcN_le hnb h1; omega) h2⟩
      · exact absurd ((nI_ltI (by omega) (by omega)).mpr (by omega)) c34
    | succ m ih =>
      intro i k1 σ1 v6 hi hm hk hz1 hFr hno
      have hin : i ≤ nb := by omega
      obtain ⟨gq, gs, b0, b1, b2, _⟩ := id hz1
      have g0 := lk_f hFr e0 (by omega)
      refine A_iload (pc := 25) rfl hX dX5_fewest_25 ?_
      refine A_aload_n (pc := 27) rfl hX dX5_fewest_27 ?_
      refine A_getf (pc := 28) hX fl_X5_18_5 dX5_fewest_28 (by repeat (first | assumption | exact aSet_s | exact aNew_s | refine lk_n ?_ (by omega) | refine lk_f (by assumption) ?_ (by omega) | refine lk_w ?_ (by omega))) (by exact rfl) ?_
      refine A_getf (pc := 31) hX fl_X5_26_8 dX5_fewest_31 (by repeat (first | assumption | exact aSet_s | exact aNew_s | refine lk_n ?_ (by omega) | refine lk_f (by assumption) ?_ (by omega) | refine lk_w ?_ (by omega))) (by exact rfl) ?_
      refine A_icmp_gt (pc := 34) 84 hX dX5_fewest_34 rfl (fun c34 => ?_) (fun c34 => ?_)
      · exact absurd ((nI_ltI (by omega) (by omega)).mp c34) (by omega)
      · refine A_iconst (pc := 37) (v := (nI 0)) (by decide) hX dX5_fewest_37 ?_
        refine A_istore (pc := 38) (lv' := [_, _, _, _, _, _, _]) hX dX5_fewest_38 (Nat.le_of_ble_eq_true rfl) rfl rfl ?_
        suffices hj : ∀ (m2 j k2 : Nat) (σ2 : aS), j ≤ 2 ^ nb → 2 ^ nb - j = m2 → k2 ≤ sr + i * 64 + j → RSp G z w k2 σ2 → Fr z (z + 3) σ σ2 → (∀ st, st < j → pcN st = i → ¬ safeS nb B s0 tr ls st) → AA G X 0 0 40 [some (.ref z), some (.int (nI s0)), some (.int (nI tr)), some (.int (nI ls)), some (.int (nI (2 ^ nb))), some (.int (nI i)), some (.int (nI j))] [] σ2 from hj (2 ^ nb) 0 k1 σ1 (Nat.zero_le _) rfl (by omega) hz1 hFr (fun st q => absurd q (by omega))
        intro m2
        induction m2 with
        | zero =>
          intro j k2 σ2 hj hm2 hk2 hz2 hFr2 hno2
          have e : j = 2 ^ nb := by omega
          subst e
          refine A_iload (pc := 40) rfl hX dX5_fewest_40 ?_
          refine A_iload (pc := 42) rfl hX dX5_fewest_42 ?_
          refine A_icmp_ge (pc := 44) 78 hX dX5_fewest_44 rfl (fun c44 => ?_) (fun c44 => ?_)
          · refine A_iinc (pc := 78) (v := (nI (i + 1))) (lv' := [_, _, _, _, _, _, _]) hX dX5_fewest_78 rfl (nI_succ i).symm rfl rfl ?_
            refine A_goto (pc := 81) 25 hX dX5_fewest_81 rfl ?_
            exact ih (i + 1) k2 σ2 _ (by omega) (by omega) (by omega) hz2 hFr2 (fun st h1 h2 => by
              rcases Nat.lt_or_ge (pcN st) i with q | q
              · exact hno st h1 q
              · exact hno2 st h1 (by omega))
          · exact absurd (nI_le (Nat.le_refl _) (by omega)) c44
        | succ m2 ih2 =>
          intro j k2 σ2 hj hm2 hk2 hz2 hFr2 hno2
          have hjl : j < 2 ^ nb := by omega
          obtain ⟨gq2, gs2, d0, d1, d2, _⟩ := id hz2
          have hw2 := hw.fr hFr2 (by omega) (.inr (by omega))
          refine A_iload (pc := 40) rfl hX dX5_fewest_40 ?_
          refine A_iload (pc := 42) rfl hX dX5_fewest_42 ?_
          refine A_icmp_ge (pc := 44) 78 hX dX5_fewest_44 rfl (fun c44 => ?_) (fun c44 => ?_)
          · exact absurd c44 (nI_ge hjl (by omega))
          · refine A_iload (pc := 47) rfl hX dX5_fewest_47 ?_
            refine A_S1d (pc := 49) hX mk_J6_bitCount_0f7a4 ls_X5_32 dX5_fewest_49 (ct_bitCount l G) rfl (Nat.le_of_ble_eq_true rfl) (Nat.le_of_ble_eq_true rfl) (Nat.le_of_ble_eq_true rfl) (Nat.le_of_ble_eq_true rfl) (Nat.le_of_ble_eq_true rfl) ?_
            refine A_top (y := nI (pcN j)) (bcI_pc (by omega)) ?_
            refine A_iload (pc := 52) rfl hX dX5_fewest_52 ?_
            refine A_icmp_ne (pc := 54) 72 hX dX5_fewest_54 rfl (fun c54 => ?_) (fun c54 => ?_)
            · have c54q : ¬ pcN j = i := fun q => c54 (by rw [q])
              refine A_iinc (pc := 72) (v := (nI (j + 1))) (lv' := [_, _, _, _, _, _, _]) hX dX5_fewest_72 rfl (nI_succ j).symm rfl rfl ?_
              refine A_goto (pc := 75) 40 hX dX5_fewest_75 rfl ?_
              exact ih2 (j + 1) k2 σ2 (by omega) (by omega) (by omega) hz2 hFr2 (fun st h1 h2 => by
                by_cases e : st = j
                · subst e; exact absurd h2 c54q
                · exact hno2 st (by omega) h2)
            · have c54q := (nI_eq (Nat.lt_of_le_of_lt pcN_6 (by decide)) (by omega)).mp c54
              refine A_aload_n (pc := 57) rfl hX dX5_fewest_57 ?_
              refine A_iload (pc := 58) rfl hX dX5_fewest_58 ?_
              refine A_iload_n (pc := 60) rfl hX dX5_fewest_60 ?_
              refine A_iload_n (pc := 61) rfl hX dX5_fewest_61 ?_
              refine A_iload_n (pc := 62) rfl hX dX5_fewest_62 ?_
              refine A_V4i (pc := 63) hX mk_X5_isSafeWithout lv_X5_38 dX5_fewest_63 (by repeat (first | assumption | exact aSet_s | exact aNew_s | refine lk_n ?_ (by omega) | refine lk_f (by assumption) ?_ (by omega) | refine lk_w ?_ (by omega))) (ct_isSafeWithout l G hw2 hz2 hwz hzt (by omega) hs0 htr hlt (by omega)) rfl (Nat.le_of_ble_eq_true rfl) (Nat.le_of_ble_eq_true rfl) (Nat.le_of_ble_eq_true rfl) (Nat.le_of_ble_eq_true rfl) (Nat.le_of_ble_eq_true rfl) (fun x63 σ63 h63 => ?_)
              obtain ⟨⟨r, hxr, hr⟩, hz63, hF63⟩ := h63
              subst hxr
              refine A_if_eq (pc := 66) 72 hX dX5_fewest_66 rfl (fun c66 => ?_) (fun c66 => ?_)
              · have hrf := bI_eq c66
                subst hrf
                refine A_iinc (pc := 72) (v := (nI (j + 1))) (lv' := [_, _, _, _, _, _, _]) hX dX5_fewest_72 rfl (nI_succ j).symm rfl rfl ?_
                refine A_goto (pc := 75) 40 hX dX5_fewest_75 rfl ?_
                exact ih2 (j + 1) (k2 + 1) σ63 (by omega) (by omega) (by omega) hz63 (hFr2.tr hF63) (fun st h1 h2 => by
                  by_cases e : st = j
                  · subst e; exact fun q => absurd (hr.mpr q) (by decide)
                  · exact hno2 st (by omega) h2)
              · have hrf := bI_ne c66
                subst hrf
                refine A_iload (pc := 69) rfl hX dX5_fewest_69 ?_
                refine A_iret (pc := 71) hX hR dX5_fewest_71 rfl rfl ?_
                refine ⟨_, rfl, Few.name (.inr ⟨j, hjl, rfl, hr.mp rfl, fun st' h1 h2 => ?_⟩), ⟨k2 + 1, by omega, hz63⟩, hFr2.tr hF63⟩
                rcases Nat.lt_or_ge (pcN st') i with q | q
                · exact absurd h2 (hno st' h1 q)
                · by_cases q2 : pcN st' = i
                  · exact .inr ⟨by omega, by
                      rcases Nat.lt_or_ge st' j with q3 | q3
                      · exact absurd h2 (hno2 st' q3 q2)
                      · exact q3⟩
                  · exact .inl (by omega)
  · have c6q : ¬ ls ≤ trt s0 tr := fun q => c6 (nI_le q (by omega))
    refine A_iconst (pc := 9) (v := (-1)) (by decide) hX dX5_fewest_9 ?_
    refine A_iret (pc := 10) hX hR dX5_fewest_10 rfl rfl ?_
    exact ⟨_, rfl, Few.name (.inl ⟨rfl, fun st _ hq => c6q (hq s0 hs0 Rch.self)⟩), ⟨sr, by omega, hz⟩, Fr.rf⟩
set_option maxRecDepth 100000 in
set_option maxHeartbeats 1000000 in
theorem ct_Sp_init (l : Launch) (G : aG) {y w : Nat} {σ : aS} (ho : σ.2 y = some (aO 5 [.null, .null, .null, .int 0])) (hz : σ.1 = y + 1) : ACt l G yX5_init cX5_init 2 (none) 1 2 1024 [.ref y, .ref w] σ (vP (fun σ' => σ'.1 = y + 3 ∧ (∀ a, a < y → σ'.2 a = σ.2 a) ∧ RSp G y w 0 σ')) := by
  have hl : ∀ a, a < y → σ.2 a = σ.2 a := fun _ _ => rfl
  refine ACt.intro (own := RX5) (nm := "<init>") mk_X5_init rfl rfl [some (.ref y), some (.ref w)] rfl (Nat.le_of_ble_eq_true rfl) (fun X hX hR => ?_)
  refine A_aload_n (pc := 0) rfl hX dX5_init_0 ?_
  refine A_objInit (pc := 1) hX lo_X5_3 dX5_init_1 rfl (Nat.le_of_ble_eq_true rfl) (Nat.le_of_ble_eq_true rfl) ?_
  refine A_aload_n (pc := 4) rfl hX dX5_init_4 ?_
  refine A_sipush (pc := 5) (v := (nI 512)) (by decide) hX dX5_init_5 ?_
  refine A_newI (pc := 8) (N := 512) hX dX5_init_8 (by decide) (by decide) (by decide) (Nat.le_of_ble_eq_true rfl) (Nat.le_of_ble_eq_true rfl) ?_
  refine A_putF (pc := 10) (fs' := [_, _, _, _]) hX pl_X5_9_5 dX5_init_10 (by repeat (first | assumption | exact aSet_s | exact aNew_s | refine lk_n ?_ (by omega) | refine lk_f (by assumption) ?_ (by omega) | refine lk_w ?_ (by omega))) (by exact Nat.le_of_ble_eq_true rfl) (by exact rfl) rfl rfl ?_
  refine A_gen (fun z => z.1 = y + 2 ∧ (∀ a, a < y → z.2 a = σ.2 a) ∧ z.2 y = some (aO 5 [.null, .ref (y + 1), .null, .int 0]) ∧ z.2 (y + 1) = some (aI G 512 (fun _ => 0))) ⟨by show _ + 1 = _; omega, fun a ha => (aSet_n (by omega)).trans ((aNew_n (by omega)).trans (hl a ha)), by rw [aSet_s, hz], lk_n (aNew_s' (by omega)) (by omega)⟩ (fun σ13 hg => ?_)
  obtain ⟨hz, hl, ho, hc1⟩ := hg
  refine A_aload_n (pc := 13) rfl hX dX5_init_13 ?_
  refine A_sipush (pc := 14) (v := (nI 512)) (by decide) hX dX5_init_14 ?_
  refine A_newI (pc := 17) (N := 512) hX dX5_init_17 (by decide) (by decide) (by decide) (Nat.le_of_ble_eq_true rfl) (Nat.le_of_ble_eq_true rfl) ?_
  refine A_putF (pc := 19) (fs' := [_, _, _, _]) hX pl_X5_15_5 dX5_init_19 (by repeat (first | assumption | exact aSet_s | exact aNew_s | refine lk_n ?_ (by omega) | refine lk_f (by assumption) ?_ (by omega) | refine lk_w ?_ (by omega))) (by exact Nat.le_of_ble_eq_true rfl) (by exact rfl) rfl rfl ?_
  refine A_gen (fun z => z.1 = y + 3 ∧ (∀ a, a < y → z.2 a = σ.2 a) ∧ z.2 y = some (aO 5 [.null, .ref (y + 1), .ref (y + 2), .int 0]) ∧ z.2 (y + 1) = some (aI G 512 (fun _ => 0)) ∧ z.2 (y + 2) = some (aI G 512 (fun _ => 0))) ⟨by show _ + 1 = _; omega, fun a ha => (aSet_n (by omega)).trans ((aNew_n (by omega)).trans (hl a ha)), by rw [aSet_s, hz], lk_n (lk_w hc1 (by omega)) (by omega), lk_n (aNew_s' (by omega)) (by omega)⟩ (fun σ22 hg => ?_)
  obtain ⟨hz, hl, ho, hc1, hc2⟩ := hg
  refine A_aload_n (pc := 22) rfl hX dX5_init_22 ?_
  refine A_aload_n (pc := 23) rfl hX dX5_init_23 ?_
  refine A_putF (pc := 24) (fs' := [_, _, _, _]) hX pl_X5_18_5 dX5_init_24 (by repeat (first | assumption | exact aSet_s | exact aNew_s | refine lk_n ?_ (by omega) | refine lk_f (by assumption) ?_ (by omega) | refine lk_w ?_ (by omega))) (by exact Nat.le_of_ble_eq_true rfl) (by exact rfl) rfl rfl ?_
  refine A_gen (fun z => z.1 = y + 3 ∧ (∀ a, a < y → z.2 a = σ.2 a) ∧ z.2 y = some (aO 5 [.ref w, .ref (y + 1), .ref (y + 2), .int 0]) ∧ z.2 (y + 1) = some (aI G 512 (fun _ => 0)) ∧ z.2 (y + 2) = some (aI G 512 (fun _ => 0))) ⟨hz, fun a ha => (aSet_n (by omega)).trans (hl a ha), aSet_s, lk_n hc1 (by omega), lk_n hc2 (by omega)⟩ (fun σ27 hg => ?_)
  obtain ⟨hz, hl, ho, hc1, hc2⟩ := hg
  refine A_ret (pc := 27) hX hR dX5_init_27 ?_
  exact ⟨rfl, hz, hl, _, _, ho, hc1, hc2, fun s _ => ⟨0, Nat.le_refl 0, rfl⟩⟩
