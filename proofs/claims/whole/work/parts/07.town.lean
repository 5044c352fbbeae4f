/-! the town: w the object, w + 1 its borrowers, w + 2 what each makes of each state, w + 3, w + 4 the rows of a round; the borrowers lie at tp and above -/
def mkB (B : Nat → Nat × Nat × Nat × Nat) (b s : Nat) : Nat := mk (B b).1 (B b).2.1 (B b).2.2.1 s
def oB (B : Nat → Nat × Nat × Nat × Nat) (b : Nat) : va_E := oK (B b).1 (B b).2.1 (B b).2.2.1 (B b).2.2.2
def okB (nb : Nat) (B : Nat → Nat × Nat × Nat × Nat) : Prop := ∀ b, b < nb → (B b).1 ≤ 4 ∧ (B b).2.1 < 3 ∧ 1 ≤ (B b).2.2.1 ∧ (B b).2.2.1 < 8 ∧ 1 ≤ (B b).2.2.2 ∧ (B b).2.2.2 ≤ 5
theorem mkB_lt {nb : Nat} {B : Nat → Nat × Nat × Nat × Nat} (h : okB nb B) {b s : Nat} (hb : b < nb) (hs : s < 512) : mkB B b s < 512 := mk_lt hs (h b hb).2.1 (h b hb).2.2.2.1
def RTw (G : aG) (w tp nb : Nat) (B : Nat → Nat × Nat × Nat × Nat) (σ : aS) : Prop := w + 5 ≤ tp ∧ nb ≤ 6 ∧ okB nb B ∧ ∃ (bor : Nat → Option Nat) (fa fo fn : Nat → Int32), σ.2 w = some (aO 8 [.ref (w + 1), .ref (w + 2), .ref (w + 3), .ref (w + 4), .int (nI nb)]) ∧ σ.2 (w + 1) = some (aR G 6 bor) ∧ σ.2 (w + 2) = some (aI G 3072 fa) ∧ σ.2 (w + 3) = some (aI G 512 fo) ∧ σ.2 (w + 4) = some (aI G 512 fn) ∧
  (∀ b, b < nb → ∃ a, bor b = some a ∧ tp ≤ a ∧ σ.2 a = some (oB B b)) ∧ ∀ b, b < nb → ∀ s, s < 512 → fa (b * 512 + s) = nI (mkB B b s)
theorem RTw.kept {G : aG} {w tp nb : Nat} {B : Nat → Nat × Nat × Nat × Nat} {σ σ' : aS} (h : RTw G w tp nb B σ) (hk : ∀ a, (w ≤ a ∧ a < w + 5) ∨ tp ≤ a → (σ.2 a).isSome = true → σ'.2 a = σ.2 a) : RTw G w tp nb B σ' := by
  obtain ⟨h1, h2, h3, bor, fa, fo, fn, e0, e1, e2, e3, e4, e5, e6⟩ := h
  refine ⟨h1, h2, h3, bor, fa, fo, fn, (hk w (by omega) (by rw [e0]; rfl)).trans e0, (hk (w + 1) (by omega) (by rw [e1]; rfl)).trans e1, (hk (w + 2) (by omega) (by rw [e2]; rfl)).trans e2, (hk (w + 3) (by omega) (by rw [e3]; rfl)).trans e3, (hk (w + 4) (by omega) (by rw [e4]; rfl)).trans e4, fun b hb => ?_, e6⟩
  obtain ⟨a, a1, a2, a3⟩ := e5 b hb
  exact ⟨a, a1, a2, (hk a (.inr a2) (by rw [a3]; rfl)).trans a3⟩
theorem RTw.fr {G : aG} {w tp nb lo hi : Nat} {B : Nat → Nat × Nat × Nat × Nat} {σ σ' : aS} (h : RTw G w tp nb B σ) (hf : Fr lo hi σ σ') (h1 : hi ≤ tp) (h2 : hi ≤ w ∨ w + 5 ≤ lo) : RTw G w tp nb B σ' := h.kept fun a ha _ => hf.2 a (by omega)
theorem RPg.fr {G : aG} {p len lo hi : Nat} {cd : Nat → Nat} {σ σ' : aS} (h : RPg G p len cd σ) (hf : Fr lo hi σ σ') (h2 : hi ≤ p ∨ p + 2 ≤ lo) : RPg G p len cd σ' := h.kept fun a ha _ => hf.2 a (by omega)
set_option maxRecDepth 100000 in
set_option maxHeartbeats 1000000 in
theorem ct_Tw_init (l : Launch) (G : aG) {w : Nat} {σ : aS} (ho : σ.2 w = some (aO 8 [.null, .null, .null, .null, .int 0])) (hz : σ.1 = w + 1) : ACt l G yX8_init cX8_init 1 (none) 1 4 4102 [.ref w] σ (vP (fun σ' => σ'.1 = w + 5 ∧ (∀ a, a < w → σ'.2 a = σ.2 a) ∧ RTw G w (w + 5) 0 (fun _ => (0, 0, 0, 0)) σ')) := by
  have hl : ∀ a, a < w → σ.2 a = σ.2 a := fun _ _ => rfl
  refine ACt.intro (own := RX8) (nm := "<init>") mk_X8_init rfl rfl [some (.ref w)] rfl (Nat.le_of_ble_eq_true rfl) (fun X hX hR => ?_)
  refine A_aload_n (pc := 0) rfl hX dX8_init_0 ?_
  refine A_objInit (pc := 1) hX lo_X8_3 dX8_init_1 rfl (Nat.le_of_ble_eq_true rfl) (Nat.le_of_ble_eq_true rfl) ?_
  refine A_aload_n (pc := 4) rfl hX dX8_init_4 ?_
  refine A_bipush (pc := 5) (v := (nI 6)) (by decide) hX dX8_init_5 ?_
  refine A_newQ (pc := 7) (N := 6) hX cl_X8_9 dX8_init_7 (by decide) (by decide) (by decide) (Nat.le_of_ble_eq_true rfl) (Nat.le_of_ble_eq_true rfl) ?_
  refine A_putF (pc := 10) (fs' := [_, _, _, _, _]) hX pl_X8_11_8 dX8_init_10 (by repeat (first | assumption | exact aSet_s | exact aNew_s | refine lk_n ?_ (by omega) | refine lk_f (by assumption) ?_ (by omega) | refine lk_w ?_ (by omega))) (by exact Nat.le_of_ble_eq_true rfl) (by exact rfl) rfl rfl ?_
  refine A_gen (fun z => z.1 = w + 2 ∧ (∀ a, a < w → z.2 a = σ.2 a) ∧ z.2 w = some (aO 8 [.ref (w + 1), .null, .null, .null, .int 0]) ∧ z.2 (w + 1) = some (aR G 6 (fun _ => none))) ⟨by show _ + 1 = _; omega, fun a ha => (aSet_n (by omega)).trans ((aNew_n (by omega)).trans (hl a ha)), by rw [aSet_s, hz], lk_n (aNew_s' (by omega)) (by omega)⟩ (fun σ13 hg => ?_)
  obtain ⟨hz, hl, ho, hc1⟩ := hg
  refine A_aload_n (pc := 13) rfl hX dX8_init_13 ?_
  refine A_sipush (pc := 14) (v := (nI 3072)) (by decide) hX dX8_init_14 ?_
  refine A_newI (pc := 17) (N := 3072) hX dX8_init_17 (by decide) (by decide) (by decide) (Nat.le_of_ble_eq_true rfl) (Nat.le_of_ble_eq_true rfl) ?_
  refine A_putF (pc := 19) (fs' := [_, _, _, _, _]) hX pl_X8_17_8 dX8_init_19 (by repeat (first | assumption | exact aSet_s | exact aNew_s | refine lk_n ?_ (by omega) | refine lk_f (by assumption) ?_ (by omega) | refine lk_w ?_ (by omega))) (by exact Nat.le_of_ble_eq_true rfl) (by exact rfl) rfl rfl ?_
  refine A_gen (fun z => z.1 = w + 3 ∧ (∀ a, a < w → z.2 a = σ.2 a) ∧ z.2 w = some (aO 8 [.ref (w + 1), .ref (w + 2), .null, .null, .int 0]) ∧ z.2 (w + 1) = some (aR G 6 (fun _ => none)) ∧ z.2 (w + 2) = some (aI G 3072 (fun _ => 0))) ⟨by show _ + 1 = _; omega, fun a ha => (aSet_n (by omega)).trans ((aNew_n (by omega)).trans (hl a ha)), by rw [aSet_s, hz], lk_n (lk_w hc1 (by omega)) (by omega), lk_n (aNew_s' (by omega)) (by omega)⟩ (fun σ22 hg => ?_)
  obtain ⟨hz, hl, ho, hc1, hc2⟩ := hg
  refine A_aload_n (pc := 22) rfl hX dX8_init_22 ?_
  refine A_sipush (pc := 23) (v := (nI 512)) (by decide) hX dX8_init_23 ?_
  refine A_newI (pc := 26) (N := 512) hX dX8_init_26 (by decide) (by decide) (by decide) (Nat.le_of_ble_eq_true rfl) (Nat.le_of_ble_eq_true rfl) ?_
  refine A_putF (pc := 28) (fs' := [_, _, _, _, _]) hX pl_X8_21_8 dX8_init_28 (by repeat (first | assumption | exact aSet_s | exact aNew_s | refine lk_n ?_ (by omega) | refine lk_f (by assumption) ?_ (by omega) | refine lk_w ?_ (by omega))) (by exact Nat.le_of_ble_eq_true rfl) (by exact rfl) rfl rfl ?_
  refine A_gen (fun z => z.1 = w + 4 ∧ (∀ a, a < w → z.2 a = σ.2 a) ∧ z.2 w = some (aO 8 [.ref (w + 1), .ref (w + 2), .ref (w + 3), .null, .int 0]) ∧ z.2 (w + 1) = some (aR G 6 (fun _ => none)) ∧ z.2 (w + 2) = some (aI G 3072 (fun _ => 0)) ∧ z.2 (w + 3) = some (aI G 512 (fun _ => 0))) ⟨by show _ + 1 = _; omega, fun a ha => (aSet_n (by omega)).trans ((aNew_n (by omega)).trans (hl a ha)), by rw [aSet_s, hz], lk_n (lk_w hc1 (by omega)) (by omega), lk_n (lk_w hc2 (by omega)) (by omega), lk_n (aNew_s' (by omega)) (by omega)⟩ (fun σ31 hg => ?_)
  obtain ⟨hz, hl, ho, hc1, hc2, hc3⟩ := hg
  refine A_aload_n (pc := 31) rfl hX dX8_init_31 ?_
  refine A_sipush (pc := 32) (v := (nI 512)) (by decide) hX dX8_init_32 ?_
  refine A_newI (pc := 35) (N := 512) hX dX8_init_35 (by decide) (by decide) (by decide) (Nat.le_of_ble_eq_true rfl) (Nat.le_of_ble_eq_true rfl) ?_
  refine A_putF (pc := 37) (fs' := [_, _, _, _, _]) hX pl_X8_24_8 dX8_init_37 (by repeat (first | assumption | exact aSet_s | exact aNew_s | refine lk_n ?_ (by omega) | refine lk_f (by assumption) ?_ (by omega) | refine lk_w ?_ (by omega))) (by exact Nat.le_of_ble_eq_true rfl) (by exact rfl) rfl rfl ?_
  refine A_gen (fun z => z.1 = w + 5 ∧ (∀ a, a < w → z.2 a = σ.2 a) ∧ z.2 w = some (aO 8 [.ref (w + 1), .ref (w + 2), .ref (w + 3), .ref (w + 4), .int 0]) ∧ z.2 (w + 1) = some (aR G 6 (fun _ => none)) ∧ z.2 (w + 2) = some (aI G 3072 (fun _ => 0)) ∧ z.2 (w + 3) = some (aI G 512 (fun _ => 0)) ∧ z.2 (w + 4) = some (aI G 512 (fun _ => 0))) ⟨by show _ + 1 = _; omega, fun a ha => (aSet_n (by omega)).trans ((aNew_n (by omega)).trans (hl a ha)), by rw [aSet_s, hz], lk_n (lk_w hc1 (by omega)) (by omega), lk_n (lk_w hc2 (by omega)) (by omega), lk_n (lk_w hc3 (by omega)) (by omega), lk_n (aNew_s' (by omega)) (by omega)⟩ (fun σ40 hg => ?_)
  obtain ⟨hz, hl, ho, hc1, hc2, hc3, hc4⟩ := hg
  refine A_ret (pc := 40) hX hR dX8_init_40 ?_
  exact ⟨rfl, hz, hl, Nat.le_refl _, by omega, fun b hb => absurd hb (by omega), _, _, _, _, ho, hc1, hc2, hc3, hc4, fun b hb => absurd hb (by omega), fun b hb => absurd hb (by omega)⟩
set_option maxRecDepth 100000 in
set_option maxHeartbeats 1000000 in
theorem ct_borrowerAt (l : Launch) (G : aG) {w tp nb : Nat} {B : Nat → Nat × Nat × Nat × Nat} {σ : aS} (hw : RTw G w tp nb B σ) {x : Int32} : ACt l G yX8_borrowerAt cX8_borrowerAt 2 (some (.object "LentChanged$Adder")) 0 0 0 [.ref w, .int x] σ (fun r σ' => σ' = σ ∧ ((r = some .null ∧ ¬ (0 ≤ x ∧ x < nI nb)) ∨ ∃ b a, b < nb ∧ x = nI b ∧ r = some (.ref a) ∧ tp ≤ a ∧ σ.2 a = some (oB B b))) := by
  obtain ⟨hwt, hnb, hok, bor, fa, fo, fn, e0, e1, e2, e3, e4, e5, e6⟩ := id hw
  refine ACt.intro (own := RX8) (nm := "borrowerAt") mk_X8_borrowerAt rfl rfl [some (.ref w), some (.int x)] rfl (Nat.le_of_ble_eq_true rfl) (fun X hX hR => ?_)
  refine A_iload_n (pc := 0) rfl hX dX8_borrowerAt_0 ?_
  refine A_if_lt (pc := 1) 30 hX dX8_borrowerAt_1 rfl (fun c1 => ?_) (fun c1 => ?_)
  · refine A_null (pc := 30) hX dX8_borrowerAt_30 ?_
    refine A_aret (pc := 31) hX hR dX8_borrowerAt_31 (Or.inl rfl) ?_
    exact ⟨rfl, .inl ⟨rfl, fun q => i_nlt.mpr q.1 c1⟩⟩
  · refine A_iload_n (pc := 4) rfl hX dX8_borrowerAt_4 ?_
    refine A_aload_n (pc := 5) rfl hX dX8_borrowerAt_5 ?_
    refine A_getf (pc := 6) hX fl_X8_38_8 dX8_borrowerAt_6 (by repeat (first | assumption | exact aSet_s | exact aNew_s | refine lk_n ?_ (by omega) | refine lk_f (by assumption) ?_ (by omega) | refine lk_w ?_ (by omega))) (by exact rfl) ?_
    refine A_icmp_ge (pc := 9) 30 hX dX8_borrowerAt_9 rfl (fun c9 => ?_) (fun c9 => ?_)
    · refine A_null (pc := 30) hX dX8_borrowerAt_30 ?_
      refine A_aret (pc := 31) hX hR dX8_borrowerAt_31 (Or.inl rfl) ?_
      exact ⟨rfl, .inl ⟨rfl, fun q => i_nle.mpr q.2 c9⟩⟩
    · obtain ⟨b, hb31, rfl⟩ := nI_of c1
      have hb : b < nb := (nI_ltI hb31 (by omega)).mp (i_nle.mp c9)
      obtain ⟨a, a1, a2, a3⟩ := e5 b hb
      refine A_iload_n (pc := 12) rfl hX dX8_borrowerAt_12 ?_
      refine A_aload_n (pc := 13) rfl hX dX8_borrowerAt_13 ?_
      refine A_getf (pc := 14) hX fl_X8_11_8 dX8_borrowerAt_14 (by repeat (first | assumption | exact aSet_s | exact aNew_s | refine lk_n ?_ (by omega) | refine lk_f (by assumption) ?_ (by omega) | refine lk_w ?_ (by omega))) (by exact rfl) ?_
      refine A_alenQ (pc := 17) hX dX8_borrowerAt_17 (by repeat (first | assumption | exact aSet_s | exact aNew_s | refine lk_n ?_ (by omega) | refine lk_f (by assumption) ?_ (by omega) | refine lk_w ?_ (by omega))) ?_
      refine A_icmp_ge (pc := 18) 30 hX dX8_borrowerAt_18 rfl (fun c18 => ?_) (fun c18 => ?_)
      · exact absurd c18 (nI_ge (by omega) (by decide))
      · refine A_aload_n (pc := 21) rfl hX dX8_borrowerAt_21 ?_
        refine A_getf (pc := 22) hX fl_X8_11_8 dX8_borrowerAt_22 (by repeat (first | assumption | exact aSet_s | exact aNew_s | refine lk_n ?_ (by omega) | refine lk_f (by assumption) ?_ (by omega) | refine lk_w ?_ (by omega))) (by exact rfl) ?_
        refine A_iload_n (pc := 25) rfl hX dX8_borrowerAt_25 ?_
        refine A_aald (pc := 26) hX dX8_borrowerAt_26 (by repeat (first | assumption | exact aSet_s | exact aNew_s | refine lk_n ?_ (by omega) | refine lk_f (by assumption) ?_ (by omega) | refine lk_w ?_ (by omega))) (vp_in_nI (by omega) (by decide)) (by rw [nI_clamp (by omega), a1]; try rfl) ?_
        refine A_goto (pc := 27) 31 hX dX8_borrowerAt_27 rfl ?_
        refine A_aret (pc := 31) hX hR dX8_borrowerAt_31 (Or.inr ⟨_, rfl⟩) ?_
        exact ⟨rfl, .inr ⟨b, a, hb, rfl, rfl, a2, a3⟩⟩
set_option maxRecDepth 100000 in
set_option maxHeartbeats 1000000 in
theorem ct_after (l : Launch) (G : aG) {w tp nb : Nat} {B : Nat → Nat × Nat × Nat × Nat} {σ : aS} (hw : RTw G w tp nb B σ) {b s : Nat} (hb : b < nb) (hs : s < 512) : ACt l G yX8_after cX8_after 4 (some .int) 0 0 0 [.ref w, .int (nI b), .int (nI s)] σ (dP (some (.int (nI (mkB B b s)))) σ) := by
  obtain ⟨hwt, hnb, hok, bor, fa, fo, fn, e0, e1, e2, e3, e4, e5, e6⟩ := id hw
  refine ACt.intro (own := RX8) (nm := "after") mk_X8_after rfl rfl [some (.ref w), some (.int (nI b)), some (.int (nI s)), none] rfl (Nat.le_of_ble_eq_true rfl) (fun X hX hR => ?_)
  refine A_iload_n (pc := 0) rfl hX dX8_after_0 ?_
  refine A_sipush (pc := 1) (v := (nI 512)) (by decide) hX dX8_after_1 ?_
  refine A_imul (pc := 4) hX dX8_after_4 ?_
  refine A_top (y := nI (b * 512)) (pk_mul _ _) ?_
  refine A_iload_n (pc := 5) rfl hX dX8_after_5 ?_
  refine A_iadd (pc := 6) hX dX8_after_6 ?_
  refine A_top (y := nI (b * 512 + s)) (nI_add _ _) ?_
  refine A_istore_n (pc := 7) (lv' := [_, _, _, _]) hX dX8_after_7 (Nat.le_of_ble_eq_true rfl) rfl rfl ?_
  refine A_iload_n (pc := 8) rfl hX dX8_after_8 ?_
  refine A_if_lt (pc := 9) 30 hX dX8_after_9 rfl (fun c9 => ?_) (fun c9 => ?_)
  · exact absurd c9 (nI_pos (by omega))
  · refine A_iload_n (pc := 12) rfl hX dX8_after_12 ?_
    refine A_aload_n (pc := 13) rfl hX dX8_after_13 ?_
    refine A_getf (pc := 14) hX fl_X8_17_8 dX8_after_14 (by repeat (first | assumption | exact aSet_s | exact aNew_s | refine lk_n ?_ (by omega) | refine lk_f (by assumption) ?_ (by omega) | refine lk_w ?_ (by omega))) (by exact rfl) ?_
    refine A_alenI (pc := 17) hX dX8_after_17 (by repeat (first | assumption | exact aSet_s | exact aNew_s | refine lk_n ?_ (by omega) | refine lk_f (by assumption) ?_ (by omega) | refine lk_w ?_ (by omega))) ?_
    refine A_icmp_ge (pc := 18) 30 hX dX8_after_18 rfl (fun c18 => ?_) (fun c18 => ?_)
    · exact absurd c18 (nI_ge (by omega) (by decide))
    · refine A_aload_n (pc := 21) rfl hX dX8_after_21 ?_
      refine A_getf (pc := 22) hX fl_X8_17_8 dX8_after_22 (by repeat (first | assumption | exact aSet_s | exact aNew_s | refine lk_n ?_ (by omega) | refine lk_f (by assumption) ?_ (by omega) | refine lk_w ?_ (by omega))) (by exact rfl) ?_
      refine A_iload_n (pc := 25) rfl hX dX8_after_25 ?_
      refine A_iald (pc := 26) hX dX8_after_26 (by repeat (first | assumption | exact aSet_s | exact aNew_s | refine lk_n ?_ (by omega) | refine lk_f (by assumption) ?_ (by omega) | refine lk_w ?_ (by omega))) (vp_in_nI (by omega) (by decide)) ?_
      refine A_goto (pc := 27) 31 hX dX8_after_27 rfl ?_
      refine A_iret (pc := 31) hX hR dX8_after_31 rfl rfl ?_
      exact ⟨by rw [nI_clamp (by omega), e6 b hb s hs], rfl⟩
theorem oK_get {a k t m d : Nat} {σ : aS} (hk : k ≤ 4) (h : σ.2 a = some (oK k t m d)) : σ.2 a = some (aO 0 [.int (nI t), .int (nI m), .int (nI d)]) ∧ k = 0 ∨ σ.2 a = some (aO 4 [.int (nI t), .int (nI m), .int (nI d)]) ∧ k = 1 ∨ σ.2 a = some (aO 9 [.int (nI t), .int (nI m), .int (nI d)]) ∧ k = 2 ∨ σ.2 a = some (aO 6 [.int (nI t), .int (nI m), .int (nI d)]) ∧ k = 3 ∨ σ.2 a = some (aO 1 [.int (nI t), .int (nI m), .int (nI d)]) ∧ k = 4 := by
  rcases (show k = 0 ∨ k = 1 ∨ k = 2 ∨ k = 3 ∨ k = 4 by omega) with rfl | rfl | rfl | rfl | rfl
  · exact .inl ⟨h, rfl⟩
  · exact .inr (.inl ⟨h, rfl⟩)
  · exact .inr (.inr (.inl ⟨h, rfl⟩))
  · exact .inr (.inr (.inr (.inl ⟨h, rfl⟩)))
  · exact .inr (.inr (.inr (.inr ⟨h, rfl⟩)))
set_option maxRecDepth 100000 in
set_option maxHeartbeats 4000000 in
theorem A_getK {l : Launch} {G : aG} {X : aX} {cc : ByteArray} {own nm : String} {nL : Nat} {R : Room} {cs ss pc idx j a k t m d : Nat} {lv : List (Option Value)} {st : List Value} {σ : aS} {v : Value} (hX : AOk l G X cc own nm nL R) (f0 : LkF own idx 0 j) (f4 : LkF own idx 4 j) (f9 : LkF own idx 9 j) (f6 : LkF own idx 6 j) (f1 : LkF own idx 1 j) (dd : decode cc pc = .ok (.getfield idx, 3)) (hk : k ≤ 4) (h : σ.2 a = some (oK k t m d)) (hv : [Value.int (nI t), .int (nI m), .int (nI d)][j]? = some v) (kk : AA G X cs ss (pc + 3) lv (v :: st) σ) : AA G X cs ss pc lv (.ref a :: st) σ := by
  rcases oK_get hk h with ⟨e, -⟩ | ⟨e, -⟩ | ⟨e, -⟩ | ⟨e, -⟩ | ⟨e, -⟩
  · exact A_getf hX f0 dd e hv kk
  · exact A_getf hX f4 dd e hv kk
  · exact A_getf hX f9 dd e hv kk
  · exact A_getf hX f6 dd e hv kk
  · exact A_getf hX f1 dd e hv kk
set_option maxRecDepth 100000 in
set_option maxHeartbeats 1000000 in
theorem ct_daysOf (l : Launch) (G : aG) {w tp nb : Nat} {B : Nat → Nat × Nat × Nat × Nat} {σ : aS} (hw : RTw G w tp nb B σ) {b : Nat} (hb : b < nb) : ACt l G yX8_daysOf cX8_daysOf 3 (some .int) 1 0 0 [.ref w, .int (nI b)] σ (dP (some (.int (nI (B b).2.2.2))) σ) := by
  obtain ⟨hwt, hnb, hok, bor, fa, fo, fn, e0, e1, e2, e3, e4, e5, e6⟩ := id hw
  refine ACt.intro (own := RX8) (nm := "daysOf") mk_X8_daysOf rfl rfl [some (.ref w), some (.int (nI b)), none] rfl (Nat.le_of_ble_eq_true rfl) (fun X hX hR => ?_)
  refine A_aload_n (pc := 0) rfl hX dX8_daysOf_0 ?_
  refine A_iload_n (pc := 1) rfl hX dX8_daysOf_1 ?_
  refine A_V1p (pc := 2) hX mk_X8_borrowerAt lv_X8_54 dX8_daysOf_2 (by repeat (first | assumption | exact aSet_s | exact aNew_s | refine lk_n ?_ (by omega) | refine lk_f (by assumption) ?_ (by omega) | refine lk_w ?_ (by omega))) (ct_borrowerAt l G hw) rfl (Nat.le_of_ble_eq_true rfl) (Nat.le_of_ble_eq_true rfl) (Nat.le_of_ble_eq_true rfl) (Nat.le_of_ble_eq_true rfl) (Nat.le_of_ble_eq_true rfl) (fun x2 σ2 h2 => ?_)
  obtain ⟨rfl, ⟨-, z⟩ | ⟨b', a, hb', hbb, rfl, ha, hobj⟩⟩ := h2
  · exact absurd ⟨nI_pos' (by omega), nI_lt hb (by omega)⟩ z
  cases (nI_eq (by omega) (by omega)).mp hbb
  refine A_astore_n (pc := 5) (lv' := [_, _, _]) hX dX8_daysOf_5 (Nat.le_of_ble_eq_true rfl) rfl rfl ?_
  refine A_aload_n (pc := 6) rfl hX dX8_daysOf_6 ?_
  refine A_ifnonnull (pc := 7) 14 hX dX8_daysOf_7 rfl ?_
  refine A_aload_n (pc := 14) rfl hX dX8_daysOf_14 ?_
  refine A_getK (pc := 15) hX fl_X8_57_0 fl_X8_57_4 fl_X8_57_9 fl_X8_57_6 fl_X8_57_1 dX8_daysOf_15 (hok b hb).1 hobj rfl ?_
  refine A_iret (pc := 18) hX hR dX8_daysOf_18 rfl rfl ?_
  exact ⟨rfl, rfl⟩
/-- what becomes of a state by n borrowers of the page, from place i on -/
def endF (B : Nat → Nat × Nat × Nat × Nat) (cd : Nat → Nat) : Nat → Nat → Nat → Nat
  | 0, _, s => s
  | n + 1, i, s => endF B cd n (i + 1) (mkB B (cd i - 48) s)
def okR (nb : Nat) (cd : Nat → Nat) (len : Nat) : Prop := ∀ j, j < len → 48 ≤ cd j ∧ cd j < 48 + nb
theorem endF_lt {nb : Nat} {B : Nat → Nat × Nat × Nat × Nat} {cd : Nat → Nat} {len : Nat} (h : okB nb B) (hr : okR nb cd len) : ∀ n i s, n + i ≤ len → s < 512 → endF B cd n i s < 512
  | 0, _, _, _, hs => hs
  | n + 1, i, s, hn, hs => endF_lt h hr n (i + 1) _ (by omega) (mkB_lt h (by have := hr i (by omega); omega) hs)
theorem isRnB_ok {nb : Nat} {cd : Nat → Nat} {len : Nat} (h : isRnB nb cd len = true) : okR nb cd len := by
  obtain ⟨h1, h2⟩ := of_decide_eq_true h
  intro j hj
  have := of_decide_eq_true (flt_all (fitR nb cd) len 0 h2 j (Nat.zero_le _) hj)
  exact this.2
set_option maxRecDepth 100000 in
set_option maxHeartbeats 1000000 in
theorem ct_endOf (l : Launch) (G : aG) {w tp nb : Nat} {B : Nat → Nat × Nat × Nat × Nat} {σ : aS} (hw : RTw G w tp nb B σ) {p len : Nat} {cd : Nat → Nat} (hp : RPg G p len cd σ) (hr : okR nb cd len) {s : Nat} (hs : s < 512) : ACt l G yX8_endOf cX8_endOf 5 (some .int) 2 0 0 [.ref w, .ref p, .int (nI s)] σ (dP (some (.int (nI (endF B cd len 0 s)))) σ) := by
  obtain ⟨hwt, hnb, hok, bor, fa, fo, fn, e0, e1, e2, e3, e4, e5, e6⟩ := id hw
  obtain ⟨f, h0, h1, hlen, hcd⟩ := id hp
  refine ACt.intro (own := RX8) (nm := "endOf") mk_X8_endOf rfl rfl [some (.ref w), some (.ref p), some (.int (nI s)), none, none] rfl (Nat.le_of_ble_eq_true rfl) (fun X hX hR => ?_)
  refine A_iload_n (pc := 0) rfl hX dX8_endOf_0 ?_
  refine A_istore_n (pc := 1) (lv' := [_, _, _, _, _]) hX dX8_endOf_1 (Nat.le_of_ble_eq_true rfl) rfl rfl ?_
  refine A_iconst (pc := 2) (v := (nI 0)) (by decide) hX dX8_endOf_2 ?_
  refine A_istore (pc := 3) (lv' := [_, _, _, _, _]) hX dX8_endOf_3 (Nat.le_of_ble_eq_true rfl) rfl rfl ?_
  suffices hl : ∀ (m i s1 : Nat), i ≤ len → len - i = m → s1 < 512 → endF B cd m i s1 = endF B cd len 0 s → AA G X 0 0 5 [some (.ref w), some (.ref p), some (.int (nI s)), some (.int (nI s1)), some (.int (nI i))] [] σ from hl len 0 s (Nat.zero_le _) (by omega) hs rfl
  intro m
  induction m with
  | zero =>
    intro i s1 hi hm hs1 hf
    refine A_iload (pc := 5) rfl hX dX8_endOf_5 ?_
    refine A_aload_n (pc := 7) rfl hX dX8_endOf_7 ?_
    refine A_getf (pc := 8) hX fl_X8_60_2 dX8_endOf_8 (by repeat (first | assumption | exact aSet_s | exact aNew_s | refine lk_n ?_ (by omega) | refine lk_f (by assumption) ?_ (by omega) | refine lk_w ?_ (by omega))) (by exact rfl) ?_
    refine A_icmp_ge (pc := 11) 32 hX dX8_endOf_11 rfl (fun c11 => ?_) (fun c11 => ?_)
    · refine A_iload_n (pc := 32) rfl hX dX8_endOf_32 ?_
      refine A_iret (pc := 33) hX hR dX8_endOf_33 rfl rfl ?_
      exact ⟨by rw [← hf]; rfl, rfl⟩
    · exact absurd (nI_le (by omega) (by omega)) c11
  | succ m ih =>
    intro i s1 hi hm hs1 hf
    have hlt : i < len := by omega
    have hri := hr i hlt
    refine A_iload (pc := 5) rfl hX dX8_endOf_5 ?_
    refine A_aload_n (pc := 7) rfl hX dX8_endOf_7 ?_
    refine A_getf (pc := 8) hX fl_X8_60_2 dX8_endOf_8 (by repeat (first | assumption | exact aSet_s | exact aNew_s | refine lk_n ?_ (by omega) | refine lk_f (by assumption) ?_ (by omega) | refine lk_w ?_ (by omega))) (by exact rfl) ?_
    refine A_icmp_ge (pc := 11) 32 hX dX8_endOf_11 rfl (fun c11 => ?_) (fun c11 => ?_)
    · exact absurd c11 (nI_ge hlt (by omega))
    · refine A_aload_n (pc := 14) rfl hX dX8_endOf_14 ?_
      refine A_aload_n (pc := 15) rfl hX dX8_endOf_15 ?_
      refine A_iload (pc := 16) rfl hX dX8_endOf_16 ?_
      refine A_V1d (pc := 18) hX mk_X2_digitAt lv_X8_63 dX8_endOf_18 (by repeat (first | assumption | exact aSet_s | exact aNew_s | refine lk_n ?_ (by omega) | refine lk_f (by assumption) ?_ (by omega) | refine lk_w ?_ (by omega))) (ct_Pg_digitAt l G hp hlt) rfl (Nat.le_of_ble_eq_true rfl) (Nat.le_of_ble_eq_true rfl) (Nat.le_of_ble_eq_true rfl) (Nat.le_of_ble_eq_true rfl) (Nat.le_of_ble_eq_true rfl) ?_
      refine A_top (y := nI (cd i - 48)) (pk_sub hri.1) ?_
      refine A_iload_n (pc := 21) rfl hX dX8_endOf_21 ?_
      refine A_V2d (pc := 22) hX mk_X8_after lv_X8_66 dX8_endOf_22 (by repeat (first | assumption | exact aSet_s | exact aNew_s | refine lk_n ?_ (by omega) | refine lk_f (by assumption) ?_ (by omega) | refine lk_w ?_ (by omega))) (ct_after l G hw (b := cd i - 48) (by omega) hs1) rfl (Nat.le_of_ble_eq_true rfl) (Nat.le_of_ble_eq_true rfl) (Nat.le_of_ble_eq_true rfl) (Nat.le_of_ble_eq_true rfl) (Nat.le_of_ble_eq_true rfl) ?_
      refine A_istore_n (pc := 25) (lv' := [_, _, _, _, _]) hX dX8_endOf_25 (Nat.le_of_ble_eq_true rfl) rfl rfl ?_
      refine A_iinc (pc := 26) (v := (nI (i + 1))) (lv' := [_, _, _, _, _]) hX dX8_endOf_26 rfl (nI_succ i).symm rfl rfl ?_
      refine A_goto (pc := 29) 5 hX dX8_endOf_29 rfl ?_
      exact ih (i + 1) _ (by omega) (by omega) (mkB_lt hok (by omega) hs1) hf
def allN (f : Nat → Nat) : Nat → Bool
  | 0 => true
  | n + 1 => allN f n && decide (f n = n)
def allB (f : Nat → Nat) : Bool := allN f 512
theorem allN_iff {f : Nat → Nat} : ∀ {n : Nat}, allN f n = true ↔ ∀ s, s < n → f s = s
  | 0 => ⟨fun _ s hs => absurd hs (by omega), fun _ => rfl⟩
  | n + 1 => by
    rw [allN, Bool.and_eq_true, allN_iff (n := n), decide_eq_true_iff]
    constructor
    · rintro ⟨h1, h2⟩ s hs
      rcases Nat.lt_or_ge s n with q | q
      · exact h1 s q
      · rw [show s = n by omega]; exact h2
    · exact fun h => ⟨fun s hs => h s (by omega), h n (by omega)⟩
def bk (once : Nat → Nat) : Nat → Nat → (Nat → Nat) → Int32
  | 0, _, _ => -1
  | n + 1, k, now => if allB (fun s => once (now s)) = true then nI k else bk once n (k + 1) (fun s => once (now s))
def backOf (once : Nat → Nat) : Int32 := bk once 60 1 (fun s => s)
set_option maxRecDepth 100000 in
set_option maxHeartbeats 1000000 in
theorem ct_areAllBack (l : Launch) (G : aG) {w : Nat} {v0 v1 v4 : Value} {fo fn : Nat → Int32} {on nw : Nat → Nat} {σ : aS} (e0 : σ.2 w = some (aO 8 [v0, v1, .ref (w + 3), .ref (w + 4), v4])) (e3 : σ.2 (w + 3) = some (aI G 512 fo)) (e4 : σ.2 (w + 4) = some (aI G 512 fn)) (ho : ∀ s, s < 512 → fo s = nI (on s) ∧ on s < 512) (hn : ∀ s, s < 512 → fn s = nI (nw s) ∧ nw s < 512) : ACt l G yX8_areAllBackAfterOneMore cX8_areAllBackAfterOneMore 4 (some (.boolean)) 1 0 0 [.ref w] σ (iP (fun x σ' => x = bI (allB (fun s => on (nw s))) ∧ Fr (w + 4) (w + 5) σ σ' ∧ ∃ fn', σ'.2 (w + 4) = some (aI G 512 fn') ∧ ∀ s, s < 512 → fn' s = nI (on (nw s)) ∧ on (nw s) < 512)) := by
  refine ACt.intro (own := RX8) (nm := "areAllBackAfterOneMore") mk_X8_areAllBackAfterOneMore rfl rfl [some (.ref w), none, none, none] rfl (Nat.le_of_ble_eq_true rfl) (fun X hX hR => ?_)
  refine A_iconst (pc := 0) (v := (nI 1)) (by decide) hX dX8_areAllBackAfterOneMore_0 ?_
  refine A_istore_n (pc := 1) (lv' := [_, _, _, _]) hX dX8_areAllBackAfterOneMore_1 (Nat.le_of_ble_eq_true rfl) rfl rfl ?_
  refine A_iconst (pc := 2) (v := (nI 0)) (by decide) hX dX8_areAllBackAfterOneMore_2 ?_
  refine A_istore_n (pc := 3) (lv' := [_, _, _, _]) hX dX8_areAllBackAfterOneMore_3 (Nat.le_of_ble_eq_true rfl) rfl rfl ?_
  suffices hl : ∀ (m i : Nat) (v3 : Option Value) (σ1 : aS) (f1 : Nat → Int32), i ≤ 512 → 512 - i = m → Fr (w + 4) (w + 5) σ σ1 → σ1.2 (w + 4) = some (aI G 512 f1) → (∀ s, s < i → f1 s = nI (on (nw s))) → (∀ s, i ≤ s → f1 s = fn s) → AA G X 0 0 4 [some (.ref w), some (.int (bI (allN (fun s => on (nw s)) i))), some (.int (nI i)), v3] [] σ1 from by
    have := hl 512 0 none σ fn (by omega) rfl Fr.rf e4 (fun s hs => absurd hs (by omega)) (fun _ _ => rfl)
    exact this
  intro m
  induction m with
  | zero =>
    intro i v3 σ1 f1 hi hm hF h1 h2 h3
    have e : i = 512 := by omega
    subst e
    refine A_iload_n (pc := 4) rfl hX dX8_areAllBackAfterOneMore_4 ?_
    refine A_sipush (pc := 5) (v := (nI 512)) (by decide) hX dX8_areAllBackAfterOneMore_5 ?_
    refine A_icmp_ge (pc := 8) 57 hX dX8_areAllBackAfterOneMore_8 rfl (fun c8 => ?_) (fun c8 => ?_)
    · refine A_iload_n (pc := 57) rfl hX dX8_areAllBackAfterOneMore_57 ?_
      refine A_iret (pc := 58) hX hR dX8_areAllBackAfterOneMore_58 rfl (bI_z _) ?_
      exact ⟨_, rfl, rfl, hF, f1, h1, fun s hs => ⟨h2 s hs, (ho _ (hn s hs).2).2⟩⟩
    · exact absurd (nI_le (by omega) (by omega)) c8
  | succ m ih =>
    intro i v3 σ1 f1 hi hm hF h1 h2 h3
    have hlt : i < 512 := by omega
    refine A_iload_n (pc := 4) rfl hX dX8_areAllBackAfterOneMore_4 ?_
    refine A_sipush (pc := 5) (v := (nI 512)) (by decide) hX dX8_areAllBackAfterOneMore_5 ?_
    refine A_icmp_ge (pc := 8) 57 hX dX8_areAllBackAfterOneMore_8 rfl (fun c8 => ?_) (fun c8 => ?_)
    · exact absurd c8 (nI_ge hlt (by omega))
    · refine A_aload_n (pc := 11) rfl hX dX8_areAllBackAfterOneMore_11 ?_
      refine A_getf (pc := 12) hX fl_X8_21_8 dX8_areAllBackAfterOneMore_12 (by repeat (first | assumption | exact aSet_s | exact aNew_s | refine lk_n ?_ (by omega) | refine lk_f (by assumption) ?_ (by omega) | refine lk_w ?_ (by omega))) (by exact rfl) ?_
      refine A_aload_n (pc := 15) rfl hX dX8_areAllBackAfterOneMore_15 ?_
      refine A_getf (pc := 16) hX fl_X8_24_8 dX8_areAllBackAfterOneMore_16 (by repeat (first | assumption | exact aSet_s | exact aNew_s | refine lk_n ?_ (by omega) | refine lk_f (by assumption) ?_ (by omega) | refine lk_w ?_ (by omega))) (by exact rfl) ?_
      refine A_iload_n (pc := 19) rfl hX dX8_areAllBackAfterOneMore_19 ?_
      refine A_S2d (pc := 20) hX mk_X11_at ls_X8_77 dX8_areAllBackAfterOneMore_20 (ct_at l G (by repeat (first | assumption | exact aSet_s | exact aNew_s | refine lk_n ?_ (by omega) | refine lk_f (by assumption) ?_ (by omega) | refine lk_w ?_ (by omega))) (by decide)) rfl (Nat.le_of_ble_eq_true rfl) (Nat.le_of_ble_eq_true rfl) (Nat.le_of_ble_eq_true rfl) (Nat.le_of_ble_eq_true rfl) (Nat.le_of_ble_eq_true rfl) ?_
      refine A_top (y := nI (nw i)) (by rw [atS_nI (by omega) (by decide), h3 i (by omega), (hn i hlt).1]) ?_
      refine A_S2d (pc := 23) hX mk_X11_at ls_X8_77 dX8_areAllBackAfterOneMore_23 (ct_at l G (by repeat (first | assumption | exact aSet_s | exact aNew_s | refine lk_n ?_ (by omega) | refine lk_f (by assumption) ?_ (by omega) | refine lk_w ?_ (by omega))) (by decide)) rfl (Nat.le_of_ble_eq_true rfl) (Nat.le_of_ble_eq_true rfl) (Nat.le_of_ble_eq_true rfl) (Nat.le_of_ble_eq_true rfl) (Nat.le_of_ble_eq_true rfl) ?_
      refine A_top (y := nI (on (nw i))) (by rw [atS_nI (hn i hlt).2 (by decide), (ho _ (hn i hlt).2).1]) ?_
      refine A_istore_n (pc := 26) (lv' := [_, _, _, _]) hX dX8_areAllBackAfterOneMore_26 (Nat.le_of_ble_eq_true rfl) rfl rfl ?_
      refine A_aload_n (pc := 27) rfl hX dX8_areAllBackAfterOneMore_27 ?_
      refine A_getf (pc := 28) hX fl_X8_24_8 dX8_areAllBackAfterOneMore_28 (by repeat (first | assumption | exact aSet_s | exact aNew_s | refine lk_n ?_ (by omega) | refine lk_f (by assumption) ?_ (by omega) | refine lk_w ?_ (by omega))) (by exact rfl) ?_
      refine A_iload_n (pc := 31) rfl hX dX8_areAllBackAfterOneMore_31 ?_
      refine A_iload_n (pc := 32) rfl hX dX8_areAllBackAfterOneMore_32 ?_
      refine A_S3v (pc := 33) hX mk_X11_put ls_X8_50 dX8_areAllBackAfterOneMore_33 (ct_put l G h1 (by decide)) rfl (Nat.le_of_ble_eq_true rfl) (Nat.le_of_ble_eq_true rfl) (Nat.le_of_ble_eq_true rfl) (Nat.le_of_ble_eq_true rfl) (Nat.le_of_ble_eq_true rfl) (fun σ33 h33 => ?_)
      obtain ⟨h33, hf33⟩ := h33
      refine A_iload_n (pc := 36) rfl hX dX8_areAllBackAfterOneMore_36 ?_
      refine A_if_eq (pc := 37) 49 hX dX8_areAllBackAfterOneMore_37 rfl (fun c37 => ?_) (fun c37 => ?_)
      · refine A_iconst (pc := 49) (v := (nI 0)) (by decide) hX dX8_areAllBackAfterOneMore_49 ?_
        suffices hx : ∀ b : Bool, b = allN (fun s => on (nw s)) (i + 1) → AA G X 0 0 50 [some (.ref w), some (.int (bI (allN (fun s => on (nw s)) i))), some (.int (nI i)), some (.int (nI (on (nw i))))] [.int (bI b)] σ33 from (by
          have := hx false (by rw [allN, bI_eq c37]; rfl)
          exact this)
        intro b hbb
        refine A_istore_n (pc := 50) (lv' := [_, _, _, _]) hX dX8_areAllBackAfterOneMore_50 (Nat.le_of_ble_eq_true rfl) rfl rfl ?_
        refine A_iinc (pc := 51) (v := (nI (i + 1))) (lv' := [_, _, _, _]) hX dX8_areAllBackAfterOneMore_51 rfl (nI_succ i).symm rfl rfl ?_
        refine A_goto (pc := 54) 4 hX dX8_areAllBackAfterOneMore_54 rfl ?_
        rw [hbb]
        exact ih (i + 1) _ σ33 _ (by omega) (by omega) (hF.tr (hf33.wd (by omega) (by omega))) h33 (fun s hs => by
          rw [putS_nI hlt (by decide)]
          by_cases q : s = i
          · subst q; simp [upd]
          · simp only [upd, if_neg q]; exact h2 s (by omega)) (fun s hs => by
          rw [putS_nI hlt (by decide)]
          simp only [upd, if_neg (show ¬ s = i by omega)]; exact h3 s (by omega))
      · refine A_iload_n (pc := 40) rfl hX dX8_areAllBackAfterOneMore_40 ?_
        refine A_iload_n (pc := 41) rfl hX dX8_areAllBackAfterOneMore_41 ?_
        refine A_icmp_ne (pc := 42) 49 hX dX8_areAllBackAfterOneMore_42 rfl (fun c42 => ?_) (fun c42 => ?_)
        · refine A_iconst (pc := 49) (v := (nI 0)) (by decide) hX dX8_areAllBackAfterOneMore_49 ?_
          suffices hx : ∀ b : Bool, b = allN (fun s => on (nw s)) (i + 1) → AA G X 0 0 50 [some (.ref w), some (.int (bI (allN (fun s => on (nw s)) i))), some (.int (nI i)), some (.int (nI (on (nw i))))] [.int (bI b)] σ33 from (by
            have := hx false (by rw [allN, show decide (on (nw i) = i) = false from decide_eq_false (fun q => c42 (by rw [q]))]; simp)
            exact this)
          intro b hbb
          refine A_istore_n (pc := 50) (lv' := [_, _, _, _]) hX dX8_areAllBackAfterOneMore_50 (Nat.le_of_ble_eq_true rfl) rfl rfl ?_
          refine A_iinc (pc := 51) (v := (nI (i + 1))) (lv' := [_, _, _, _]) hX dX8_areAllBackAfterOneMore_51 rfl (nI_succ i).symm rfl rfl ?_
          refine A_goto (pc := 54) 4 hX dX8_areAllBackAfterOneMore_54 rfl ?_
          rw [hbb]
          exact ih (i + 1) _ σ33 _ (by omega) (by omega) (hF.tr (hf33.wd (by omega) (by omega))) h33 (fun s hs => by
            rw [putS_nI hlt (by decide)]
            by_cases q : s = i
            · subst q; simp [upd]
            · simp only [upd, if_neg q]; exact h2 s (by omega)) (fun s hs => by
            rw [putS_nI hlt (by decide)]
            simp only [upd, if_neg (show ¬ s = i by omega)]; exact h3 s (by omega))
        · refine A_iconst (pc := 45) (v := (nI 1)) (by decide) hX dX8_areAllBackAfterOneMore_45 ?_
          refine A_goto (pc := 46) 50 hX dX8_areAllBackAfterOneMore_46 rfl ?_
          suffices hx : ∀ b : Bool, b = allN (fun s => on (nw s)) (i + 1) → AA G X 0 0 50 [some (.ref w), some (.int (bI (allN (fun s => on (nw s)) i))), some (.int (nI i)), some (.int (nI (on (nw i))))] [.int (bI b)] σ33 from (by
            have := hx true (by rw [allN, bI_ne c37, show decide (on (nw i) = i) = true from decide_eq_true ((nI_eq (by have := (ho _ (hn i hlt).2).2; omega) (by omega)).mp c42)]; rfl)
            exact this)
          intro b hbb
          refine A_istore_n (pc := 50) (lv' := [_, _, _, _]) hX dX8_areAllBackAfterOneMore_50 (Nat.le_of_ble_eq_true rfl) rfl rfl ?_
          refine A_iinc (pc := 51) (v := (nI (i + 1))) (lv' := [_, _, _, _]) hX dX8_areAllBackAfterOneMore_51 rfl (nI_succ i).symm rfl rfl ?_
          refine A_goto (pc := 54) 4 hX dX8_areAllBackAfterOneMore_54 rfl ?_
          rw [hbb]
          exact ih (i + 1) _ σ33 _ (by omega) (by omega) (hF.tr (hf33.wd (by omega) (by omega))) h33 (fun s hs => by
            rw [putS_nI hlt (by decide)]
            by_cases q : s = i
            · subst q; simp [upd]
            · simp only [upd, if_neg q]; exact h2 s (by omega)) (fun s hs => by
            rw [putS_nI hlt (by decide)]
            simp only [upd, if_neg (show ¬ s = i by omega)]; exact h3 s (by omega))
theorem RTw.put34 {G : aG} {w tp nb : Nat} {B : Nat → Nat × Nat × Nat × Nat} {σ σ' : aS} {fo fn : Nat → Int32} (h : RTw G w tp nb B σ) (hF : Fr (w + 3) (w + 5) σ σ') (h3 : σ'.2 (w + 3) = some (aI G 512 fo)) (h4 : σ'.2 (w + 4) = some (aI G 512 fn)) : RTw G w tp nb B σ' := by
  obtain ⟨h1, h2, h5, bor, fa, fo0, fn0, e0, e1, e2, e3, e4, e5, e6⟩ := h
  refine ⟨h1, h2, h5, bor, fa, fo, fn, lk_f hF e0 (by omega), lk_f hF e1 (by omega), lk_f hF e2 (by omega), h3, h4, fun b hb => ?_, e6⟩
  obtain ⟨a, a1, a2, a3⟩ := e5 b hb
  exact ⟨a, a1, a2, lk_f hF a3 (by omega)⟩
set_option maxRecDepth 100000 in
set_option maxHeartbeats 1000000 in
theorem ct_timesUntilBack (l : Launch) (G : aG) {w tp nb : Nat} {B : Nat → Nat × Nat × Nat × Nat} {σ : aS} (hw : RTw G w tp nb B σ) {p len : Nat} {cd : Nat → Nat} (hp : RPg G p len cd σ) (hr : okR nb cd len) (hpw : p + 2 ≤ w) : ACt l G yX8_timesUntilBack cX8_timesUntilBack 3 (some .int) 3 0 0 [.ref w, .ref p] σ (iP (fun x σ' => x = backOf (fun s => endF B cd len 0 s) ∧ Fr (w + 3) (w + 5) σ σ' ∧ RTw G w tp nb B σ')) := by
  obtain ⟨hwt, hnb, hok, bor, fa, fo, fn, e0, e1, e2, e3, e4, e5, e6⟩ := id hw
  obtain ⟨f, h0, h1, hlen, hcd⟩ := id hp
  have hon : ∀ s, s < 512 → endF B cd len 0 s < 512 := fun s hs => endF_lt hok hr len 0 s (by omega) hs
  refine ACt.intro (own := RX8) (nm := "timesUntilBack") mk_X8_timesUntilBack rfl rfl [some (.ref w), some (.ref p), none] rfl (Nat.le_of_ble_eq_true rfl) (fun X hX hR => ?_)
  refine A_iconst (pc := 0) (v := (nI 0)) (by decide) hX dX8_timesUntilBack_0 ?_
  refine A_istore_n (pc := 1) (lv' := [_, _, _]) hX dX8_timesUntilBack_1 (Nat.le_of_ble_eq_true rfl) rfl rfl ?_
  suffices hl : ∀ (m i : Nat) (σ1 : aS) (f1 f2 : Nat → Int32), i ≤ 512 → 512 - i = m → Fr (w + 3) (w + 5) σ σ1 → σ1.2 (w + 3) = some (aI G 512 f1) → σ1.2 (w + 4) = some (aI G 512 f2) → (∀ s, s < i → f1 s = nI (endF B cd len 0 s) ∧ f2 s = nI s) → AA G X 0 0 2 [some (.ref w), some (.ref p), some (.int (nI i))] [] σ1 from hl 512 0 σ fo fn (by omega) rfl Fr.rf e3 e4 (fun s hs => absurd hs (by omega))
  intro m
  induction m with
  | zero =>
    intro i σ1 f1 f2 hi hm hF g3 g4 g5
    have e : i = 512 := by omega
    subst e
    refine A_iload_n (pc := 2) rfl hX dX8_timesUntilBack_2 ?_
    refine A_sipush (pc := 3) (v := (nI 512)) (by decide) hX dX8_timesUntilBack_3 ?_
    refine A_icmp_ge (pc := 6) 38 hX dX8_timesUntilBack_6 rfl (fun c6 => ?_) (fun c6 => ?_)
    · refine A_iconst (pc := 38) (v := (nI 1)) (by decide) hX dX8_timesUntilBack_38 ?_
      refine A_istore_n (pc := 39) (lv' := [_, _, _]) hX dX8_timesUntilBack_39 (Nat.le_of_ble_eq_true rfl) rfl rfl ?_
      suffices hl2 : ∀ (n k : Nat) (nw : Nat → Nat) (σ2 : aS) (f3 : Nat → Int32), k + n = 61 → Fr (w + 3) (w + 5) σ σ2 → σ2.2 (w + 3) = some (aI G 512 f1) → σ2.2 (w + 4) = some (aI G 512 f3) → (∀ s, s < 512 → f3 s = nI (nw s) ∧ nw s < 512) → bk (fun s => endF B cd len 0 s) n k nw = backOf (fun s => endF B cd len 0 s) → AA G X 0 0 40 [some (.ref w), some (.ref p), some (.int (nI k))] [] σ2 from hl2 60 1 (fun s => s) σ1 f2 rfl hF g3 g4 (fun s hs => ⟨(g5 s hs).2, hs⟩) rfl
      intro n
      induction n with
      | zero =>
        intro k nw σ2 f3 hk hF2 k3 k4 k5 hbk
        refine A_iload_n (pc := 40) rfl hX dX8_timesUntilBack_40 ?_
        refine A_bipush (pc := 41) (v := (nI 60)) (by decide) hX dX8_timesUntilBack_41 ?_
        refine A_icmp_gt (pc := 43) 61 hX dX8_timesUntilBack_43 rfl (fun c43 => ?_) (fun c43 => ?_)
        · refine A_iconst (pc := 61) (v := (-1)) (by decide) hX dX8_timesUntilBack_61 ?_
          refine A_iret (pc := 62) hX hR dX8_timesUntilBack_62 rfl rfl ?_
          exact ⟨_, rfl, by rw [← hbk]; rfl, hF2, hw.put34 hF2 k3 k4⟩
        · exact absurd (nI_lt (show 60 < k by omega) (by omega)) c43
      | succ n ih2 =>
        intro k nw σ2 f3 hk hF2 k3 k4 k5 hbk
        rw [bk] at hbk
        refine A_iload_n (pc := 40) rfl hX dX8_timesUntilBack_40 ?_
        refine A_bipush (pc := 41) (v := (nI 60)) (by decide) hX dX8_timesUntilBack_41 ?_
        refine A_icmp_gt (pc := 43) 61 hX dX8_timesUntilBack_43 rfl (fun c43 => ?_) (fun c43 => ?_)
        · exact absurd c43 (nI_nlt (by omega) (by decide))
        · refine A_aload_n (pc := 46) rfl hX dX8_timesUntilBack_46 ?_
          refine A_V0i (pc := 47) hX mk_X8_areAllBackAfterOneMore lv_X8_73 dX8_timesUntilBack_47 (by repeat (first | assumption | exact aSet_s | exact aNew_s | refine lk_n ?_ (by omega) | refine lk_f (by assumption) ?_ (by omega) | refine lk_w ?_ (by omega))) (ct_areAllBack l G (lk_f hF2 e0 (by omega)) k3 k4 (fun s hs => ⟨(g5 s hs).1, hon s hs⟩) k5) rfl (Nat.le_of_ble_eq_true rfl) (Nat.le_of_ble_eq_true rfl) (Nat.le_of_ble_eq_true rfl) (Nat.le_of_ble_eq_true rfl) (Nat.le_of_ble_eq_true rfl) (fun x47 σ47 h47 => ?_)
          obtain ⟨rfl, hF47, fn4, h4, hn4⟩ := h47
          refine A_if_eq (pc := 50) 55 hX dX8_timesUntilBack_50 rfl (fun c50 => ?_) (fun c50 => ?_)
          · refine A_iinc (pc := 55) (v := (nI (k + 1))) (lv' := [_, _, _]) hX dX8_timesUntilBack_55 rfl (nI_succ k).symm rfl rfl ?_
            refine A_goto (pc := 58) 40 hX dX8_timesUntilBack_58 rfl ?_
            exact ih2 (k + 1) _ _ _ (by omega) (hF2.tr (hF47.wd (by omega) (by omega))) (lk_f hF47 k3 (by omega)) h4 hn4 (by rw [if_neg (by rw [bI_eq c50]; decide)] at hbk; exact hbk)
          · refine A_iload_n (pc := 53) rfl hX dX8_timesUntilBack_53 ?_
            refine A_iret (pc := 54) hX hR dX8_timesUntilBack_54 rfl rfl ?_
            exact ⟨_, rfl, by rw [if_pos (bI_ne c50)] at hbk; exact hbk, hF2.tr (hF47.wd (by omega) (by omega)), hw.put34 (hF2.tr (hF47.wd (by omega) (by omega))) (lk_f hF47 k3 (by omega)) h4⟩
    · exact absurd (nI_le (by omega) (by omega)) c6
  | succ m ih =>
    intro i σ1 f1 f2 hi hm hF g3 g4 g5
    have hlt : i < 512 := by omega
    have hwi := hw.put34 hF g3 g4
    have hpi := hp.fr hF (.inr (by omega))
    refine A_iload_n (pc := 2) rfl hX dX8_timesUntilBack_2 ?_
    refine A_sipush (pc := 3) (v := (nI 512)) (by decide) hX dX8_timesUntilBack_3 ?_
    refine A_icmp_ge (pc := 6) 38 hX dX8_timesUntilBack_6 rfl (fun c6 => ?_) (fun c6 => ?_)
    · exact absurd c6 (nI_ge hlt (by omega))
    · refine A_aload_n (pc := 9) rfl hX dX8_timesUntilBack_9 ?_
      refine A_getf (pc := 10) hX fl_X8_21_8 dX8_timesUntilBack_10 (by repeat (first | assumption | exact aSet_s | exact aNew_s | refine lk_n ?_ (by omega) | refine lk_f (by assumption) ?_ (by omega) | refine lk_w ?_ (by omega))) (by exact rfl) ?_
      refine A_iload_n (pc := 13) rfl hX dX8_timesUntilBack_13 ?_
      refine A_aload_n (pc := 14) rfl hX dX8_timesUntilBack_14 ?_
      refine A_aload_n (pc := 15) rfl hX dX8_timesUntilBack_15 ?_
      refine A_iload_n (pc := 16) rfl hX dX8_timesUntilBack_16 ?_
      refine A_V2d (pc := 17) hX mk_X8_endOf lv_X8_69 dX8_timesUntilBack_17 (by repeat (first | assumption | exact aSet_s | exact aNew_s | refine lk_n ?_ (by omega) | refine lk_f (by assumption) ?_ (by omega) | refine lk_w ?_ (by omega))) (ct_endOf l G hwi hpi hr hlt) rfl (Nat.le_of_ble_eq_true rfl) (Nat.le_of_ble_eq_true rfl) (Nat.le_of_ble_eq_true rfl) (Nat.le_of_ble_eq_true rfl) (Nat.le_of_ble_eq_true rfl) ?_
      refine A_S3v (pc := 20) hX mk_X11_put ls_X8_50 dX8_timesUntilBack_20 (ct_put l G g3 (by decide)) rfl (Nat.le_of_ble_eq_true rfl) (Nat.le_of_ble_eq_true rfl) (Nat.le_of_ble_eq_true rfl) (Nat.le_of_ble_eq_true rfl) (Nat.le_of_ble_eq_true rfl) (fun σ20 h20 => ?_)
      obtain ⟨h20, hf20⟩ := h20
      refine A_aload_n (pc := 23) rfl hX dX8_timesUntilBack_23 ?_
      refine A_getf (pc := 24) hX fl_X8_24_8 dX8_timesUntilBack_24 (by repeat (first | assumption | exact aSet_s | exact aNew_s | refine lk_n ?_ (by omega) | refine lk_f (by assumption) ?_ (by omega) | refine lk_w ?_ (by omega))) (by exact rfl) ?_
      refine A_iload_n (pc := 27) rfl hX dX8_timesUntilBack_27 ?_
      refine A_iload_n (pc := 28) rfl hX dX8_timesUntilBack_28 ?_
      refine A_S3v (pc := 29) hX mk_X11_put ls_X8_50 dX8_timesUntilBack_29 (ct_put l G (lk_f hf20 g4 (by omega)) (by decide)) rfl (Nat.le_of_ble_eq_true rfl) (Nat.le_of_ble_eq_true rfl) (Nat.le_of_ble_eq_true rfl) (Nat.le_of_ble_eq_true rfl) (Nat.le_of_ble_eq_true rfl) (fun σ29 h29 => ?_)
      obtain ⟨h29, hf29⟩ := h29
      refine A_iinc (pc := 32) (v := (nI (i + 1))) (lv' := [_, _, _]) hX dX8_timesUntilBack_32 rfl (nI_succ i).symm rfl rfl ?_
      refine A_goto (pc := 35) 2 hX dX8_timesUntilBack_35 rfl ?_
      refine ih (i + 1) _ _ _ (by omega) (by omega) (hF.tr ((hf20.wd (by omega) (by omega)).tr (hf29.wd (by omega) (by omega)))) (lk_f hf29 h20 (by omega)) h29 (fun s hs => ?_)
      rw [putS_nI hlt (by decide), putS_nI hlt (by decide)]
      by_cases q : s = i
      · subst q; simp [upd]
      · simp only [upd, if_neg q]
        exact g5 s (by omega)
theorem twOK {cd : Nat → Nat} {len : Nat} (h : isTwB cd len = true) : 2 ≤ (len + 1) / 5 ∧ (len + 1) / 5 ≤ 6 ∧ okB ((len + 1) / 5) (borC cd) ∧ ∀ b, b < (len + 1) / 5 → b * 5 + 3 < len ∧ (cd (b * 5) = 97 ∨ cd (b * 5) = 115 ∨ cd (b * 5) = 116 ∨ cd (b * 5) = 119 ∨ cd (b * 5) = 100) ∧ 48 ≤ cd (b * 5 + 1) ∧ 48 ≤ cd (b * 5 + 2) ∧ 48 ≤ cd (b * 5 + 3) := by
  obtain ⟨h1, h2, h3⟩ := of_decide_eq_true h
  have hf : ∀ j, j < len → fitT cd j = true := fun j hj => flt_all (fitT cd) len 0 h3 j (Nat.zero_le _) hj
  have hl := (of_decide_eq_true (hf (len - 1) (by omega))).1
  have key : ∀ b, b < (len + 1) / 5 → b * 5 + 3 < len ∧ (cd (b * 5) = 97 ∨ cd (b * 5) = 115 ∨ cd (b * 5) = 116 ∨ cd (b * 5) = 119 ∨ cd (b * 5) = 100) ∧ (48 ≤ cd (b * 5 + 1) ∧ cd (b * 5 + 1) < 51) ∧ (49 ≤ cd (b * 5 + 2) ∧ cd (b * 5 + 2) ≤ 55) ∧ (49 ≤ cd (b * 5 + 3) ∧ cd (b * 5 + 3) ≤ 53) := by
    intro b hb
    have hb3 : b * 5 + 3 < len := by omega
    have f0 := of_decide_eq_true (hf (b * 5) (by omega))
    have f1 := of_decide_eq_true (hf (b * 5 + 1) (by omega))
    have f2 := of_decide_eq_true (hf (b * 5 + 2) (by omega))
    have f3 := of_decide_eq_true (hf (b * 5 + 3) (by omega))
    exact ⟨hb3, f0.2.1 (by omega), f1.2.2.1 (by omega), f2.2.2.2.1 (by omega), f3.2.2.2.2.1 (by omega)⟩
  refine ⟨by omega, by omega, fun b hb => ?_, fun b hb => ?_⟩
  · obtain ⟨k1, k2, k3, k4, k5⟩ := key b hb
    refine ⟨?_, ?_, ?_, ?_, ?_, ?_⟩
    · simp only [borC, kindC]
      rcases k2 with e | e | e | e | e <;> rw [e] <;> decide
    all_goals (simp only [borC]; omega)
  · obtain ⟨k1, k2, k3, k4, k5⟩ := key b hb
    exact ⟨k1, k2, k3.1, by omega, by omega⟩
set_option maxRecDepth 100000 in
set_option maxHeartbeats 4000000 in
theorem A_stAft {l : Launch} {G : aG} {X : aX} {R : Room} {cs ss a s k t m d : Nat} {lv : List (Option Value)} {st : List Value} {σ : aS} (hX : AOk l G X cX8_read RX8 "read" 5 R) (hk : k ≤ 4) (ht : t < 3) (hm : m < 8) (hs : s < 512) (h : σ.2 a = some (oK k t m d)) (hlen : lv.length = 5) (hst : (st.map fun v => v.category).sum ≤ 8) (hfr : 2 ≤ R.frames) (hlo : 60 ≤ R.locals) (hc : cs ≤ R.cells) (hs2 : ss ≤ R.slots) (kk : AA G X cs ss 77 lv (.int (nI (mk k t m s)) :: st) σ) : AA G X cs ss 74 lv (.int (nI s) :: .ref a :: st) σ := by
  rcases oK_get hk h with ⟨e, rfl⟩ | ⟨e, rfl⟩ | ⟨e, rfl⟩ | ⟨e, rfl⟩ | ⟨e, rfl⟩
  · exact A_U1d (dd := 1) hX mk_X0_stateAfter lu_X8_46_0 dX8_read_74 e (ct_stateAfter_0 l G e hs ht hm) hlen hst hfr (Nat.le_trans (by decide) hlo) hc hs2 kk
  · exact A_U1d (dd := 1) hX mk_X0_stateAfter lu_X8_46_4 dX8_read_74 e (ct_stateAfter_1 l G e hs ht hm) hlen hst hfr (Nat.le_trans (by decide) hlo) hc hs2 kk
  · exact A_U1d (dd := 1) hX mk_X0_stateAfter lu_X8_46_9 dX8_read_74 e (ct_stateAfter_2 l G e hs ht hm) hlen hst hfr (Nat.le_trans (by decide) hlo) hc hs2 kk
  · exact A_U1d (dd := 1) hX mk_X6_stateAfter lu_X8_46_6 dX8_read_74 e (ct_stateAfter_3 l G e hs ht) hlen hst hfr (Nat.le_trans (by decide) hlo) hc hs2 kk
  · exact A_U1d (dd := 1) hX mk_X0_stateAfter lu_X8_46_1 dX8_read_74 e (ct_stateAfter_4 l G e hs ht hm) hlen hst hfr (Nat.le_trans (by decide) hlo) hc hs2 kk
set_option maxRecDepth 100000 in
set_option maxHeartbeats 4000000 in
theorem A_aastK {l : Launch} {G : aG} {X : aX} {cc : ByteArray} {own nm : String} {nL : Nat} {R : Room} {cs ss pc a n v k t m d : Nat} {lv : List (Option Value)} {st : List Value} {σ : aS} {f : Nat → Option Nat} {i : Int32} (hX : AOk l G X cc own nm nL R) (dd : decode cc pc = .ok (.aastore, 1)) (h : σ.2 a = some (aR G n f)) (hin : vp_in i n) (hk : k ≤ 4) (hv : σ.2 v = some (oK k t m d)) (kk : AA G X cs ss (pc + 1) lv st (aSet σ a (aR G n (va_up f i.toNatClampNeg (some v))))) : AA G X cs ss pc lv (.ref v :: .int i :: .ref a :: st) σ := by
  rcases oK_get hk hv with ⟨e, -⟩ | ⟨e, -⟩ | ⟨e, -⟩ | ⟨e, -⟩ | ⟨e, -⟩
  · exact A_aast hX dd h hin e rfl (.inl rfl) kk
  · exact A_aast hX dd h hin e rfl (.inr ca_X4_X0) kk
  · exact A_aast hX dd h hin e rfl (.inr ca_X9_X0) kk
  · exact A_aast hX dd h hin e rfl (.inr ca_X6_X0) kk
  · exact A_aast hX dd h hin e rfl (.inr ca_X1_X0) kk
set_option maxRecDepth 100000 in
set_option maxHeartbeats 1000000 in
theorem ct_read (l : Launch) (G : aG) {w tp nb0 p len : Nat} {B0 : Nat → Nat × Nat × Nat × Nat} {cd : Nat → Nat} {σ : aS} (hw : RTw G w tp nb0 B0 σ) (hp : RPg G p len cd σ) (ht : isTwB cd len = true) (hpw : p + 2 ≤ w) (htp : tp ≤ σ.1) : ACt l G yX8_read cX8_read 5 (none) 5 6 18 [.ref w, .ref p] σ (vP (fun σ' => RTw G w tp ((len + 1) / 5) (borC cd) σ' ∧ σ'.1 = σ.1 + (len + 1) / 5 ∧ ∀ a, a < σ.1 → (a < w ∨ w + 3 ≤ a) → σ'.2 a = σ.2 a)) := by
  obtain ⟨hwt, hnb0, hok0, bor, fa, fo, fn, e0, e1, e2, e3, e4, e5, e6⟩ := id hw
  obtain ⟨f, h0, h1, hlen, hcd⟩ := id hp
  obtain ⟨hn2, hn6, hok, hbs⟩ := twOK ht
  generalize hnb : (len + 1) / 5 = nb at hn2 hn6 hok hbs ⊢
  refine ACt.intro (own := RX8) (nm := "read") mk_X8_read rfl rfl [some (.ref w), some (.ref p), none, none, none] rfl (Nat.le_of_ble_eq_true rfl) (fun X hX hR => ?_)
  refine A_aload_n (pc := 0) rfl hX dX8_read_0 ?_
  refine A_aload_n (pc := 1) rfl hX dX8_read_1 ?_
  refine A_V0d (pc := 2) hX mk_X2_borrowers lv_X8_27 dX8_read_2 (by repeat (first | assumption | exact aSet_s | exact aNew_s | refine lk_n ?_ (by omega) | refine lk_f (by assumption) ?_ (by omega) | refine lk_w ?_ (by omega))) (ct_borrowers l G hp) rfl (Nat.le_of_ble_eq_true rfl) (Nat.le_of_ble_eq_true rfl) (Nat.le_of_ble_eq_true rfl) (Nat.le_of_ble_eq_true rfl) (Nat.le_of_ble_eq_true rfl) ?_
  refine A_top (y := nI nb) (by rw [hnb]) ?_
  refine A_aload_n (pc := 5) rfl hX dX8_read_5 ?_
  refine A_getf (pc := 6) hX fl_X8_11_8 dX8_read_6 (by repeat (first | assumption | exact aSet_s | exact aNew_s | refine lk_n ?_ (by omega) | refine lk_f (by assumption) ?_ (by omega) | refine lk_w ?_ (by omega))) (by exact rfl) ?_
  refine A_alenQ (pc := 9) hX dX8_read_9 (by repeat (first | assumption | exact aSet_s | exact aNew_s | refine lk_n ?_ (by omega) | refine lk_f (by assumption) ?_ (by omega) | refine lk_w ?_ (by omega))) ?_
  refine A_mmin (pc := 10) hX mm_X8_32 dX8_read_10 rfl (Nat.le_of_ble_eq_true rfl) (Nat.le_of_ble_eq_true rfl) (Nat.le_of_ble_eq_true rfl) (Nat.le_of_ble_eq_true rfl) ?_
  refine A_top (y := nI nb) (by rw [if_neg (nI_nlt hn6 (by decide))]) ?_
  refine A_putf (pc := 13) (fs' := [_, _, _, _, _]) hX pl_X8_38_8 dX8_read_13 (by repeat (first | assumption | exact aSet_s | exact aNew_s | refine lk_n ?_ (by omega) | refine lk_f (by assumption) ?_ (by omega) | refine lk_w ?_ (by omega))) (by exact Nat.le_of_ble_eq_true rfl) (by exact rfl) rfl rfl ?_
  refine A_iconst (pc := 16) (v := (nI 0)) (by decide) hX dX8_read_16 ?_
  refine A_istore_n (pc := 17) (lv' := [_, _, _, _, _]) hX dX8_read_17 (Nat.le_of_ble_eq_true rfl) rfl rfl ?_
  suffices hl : ∀ (m i : Nat) (v3 v4 : Option Value) (σ1 : aS) (bo : Nat → Option Nat) (fa1 : Nat → Int32), i ≤ nb → nb - i = m → σ1.2 w = some (aO 8 [.ref (w + 1), .ref (w + 2), .ref (w + 3), .ref (w + 4), .int (nI nb)]) → σ1.2 (w + 1) = some (aR G 6 bo) → σ1.2 (w + 2) = some (aI G 3072 fa1) → (∀ a, a < σ.1 → (a < w ∨ w + 3 ≤ a) → σ1.2 a = σ.2 a) → σ1.1 = σ.1 + i → (∀ b, b < i → ∃ a, bo b = some a ∧ tp ≤ a ∧ σ1.2 a = some (oB (borC cd) b)) → (∀ b, b < i → ∀ s, s < 512 → fa1 (b * 512 + s) = nI (mkB (borC cd) b s)) → AA G X i (3 * i) 18 [some (.ref w), some (.ref p), some (.int (nI i)), v3, v4] [] σ1 from hl nb 0 none none _ bor fa (Nat.zero_le _) rfl aSet_s (lk_n e1 (by omega)) (lk_n e2 (by omega)) (fun a _ h => aSet_n (by omega)) rfl (fun b hb => absurd hb (by omega)) (fun b hb => absurd hb (by omega))
  intro m
  induction m with
  | zero =>
    intro i v3 v4 σ1 bo fa1 hi hm a0 a1 a2 aF az ab aa
    have e : i = nb := by omega
    subst e
    refine A_iload_n (pc := 18) rfl hX dX8_read_18 ?_
    refine A_aload_n (pc := 19) rfl hX dX8_read_19 ?_
    refine A_getf (pc := 20) hX fl_X8_38_8 dX8_read_20 (by repeat (first | assumption | exact aSet_s | exact aNew_s | refine lk_n ?_ (by omega) | refine lk_f (by assumption) ?_ (by omega) | refine lk_w ?_ (by omega))) (by exact rfl) ?_
    refine A_icmp_ge (pc := 23) 92 hX dX8_read_23 rfl (fun c23 => ?_) (fun c23 => ?_)
    · refine A_widen (cs' := 6) (ss' := 18) (by omega) (by omega) ?_
      refine A_ret (pc := 92) hX hR dX8_read_92 ?_
      exact ⟨rfl, ⟨hwt, hn6, hok, bo, fa1, fo, fn, a0, a1, a2, (aF (w + 3) (by omega) (.inr (by omega))).trans e3, (aF (w + 4) (by omega) (.inr (by omega))).trans e4, ab, aa⟩, az, aF⟩
    · exact absurd (nI_le (by omega) (by omega)) c23
  | succ m ih =>
    intro i v3 v4 σ1 bo fa1 hi hm a0 a1 a2 aF az ab aa
    have hlt : i < nb := by omega
    have hpi : RPg G p len cd σ1 := hp.kept (fun a q1 q2 => aF a (by omega) (.inl (by omega)))
    refine A_dom (fun hdom => ?_)
    have hoi := hok i hlt
    refine A_iload_n (pc := 18) rfl hX dX8_read_18 ?_
    refine A_aload_n (pc := 19) rfl hX dX8_read_19 ?_
    refine A_getf (pc := 20) hX fl_X8_38_8 dX8_read_20 (by repeat (first | assumption | exact aSet_s | exact aNew_s | refine lk_n ?_ (by omega) | refine lk_f (by assumption) ?_ (by omega) | refine lk_w ?_ (by omega))) (by exact rfl) ?_
    refine A_icmp_ge (pc := 23) 92 hX dX8_read_23 rfl (fun c23 => ?_) (fun c23 => ?_)
    · exact absurd c23 (nI_ge hlt (by omega))
    · refine A_iload_n (pc := 26) rfl hX dX8_read_26 ?_
      refine A_aload_n (pc := 27) rfl hX dX8_read_27 ?_
      refine A_getf (pc := 28) hX fl_X8_11_8 dX8_read_28 (by repeat (first | assumption | exact aSet_s | exact aNew_s | refine lk_n ?_ (by omega) | refine lk_f (by assumption) ?_ (by omega) | refine lk_w ?_ (by omega))) (by exact rfl) ?_
      refine A_alenQ (pc := 31) hX dX8_read_31 (by repeat (first | assumption | exact aSet_s | exact aNew_s | refine lk_n ?_ (by omega) | refine lk_f (by assumption) ?_ (by omega) | refine lk_w ?_ (by omega))) ?_
      refine A_icmp_ge (pc := 32) 92 hX dX8_read_32 rfl (fun c32 => ?_) (fun c32 => ?_)
      · exact absurd c32 (nI_ge (show i < 6 by omega) (by decide))
      · refine A_aload_n (pc := 35) rfl hX dX8_read_35 ?_
        refine A_iload_n (pc := 36) rfl hX dX8_read_36 ?_
        refine A_V1 (pc := 37) hX mk_X2_borrowerFrom lv_X8_42 dX8_read_37 ((aF p (by omega) (.inl (by omega))).trans h0) (ct_borrowerFrom l G hpi (hbs i hlt).1 (hbs i hlt).2.1 (hbs i hlt).2.2.1 (hbs i hlt).2.2.2.1 (hbs i hlt).2.2.2.2) rfl (Nat.le_of_ble_eq_true rfl) (Nat.le_of_ble_eq_true rfl) (Nat.le_of_ble_eq_true rfl) (by show i + 1 ≤ 6; omega) (by show 3 * i + 3 ≤ 18; omega) (fun x37 σ37 h37 => ?_)
        obtain ⟨rfl, z37, g37, o37⟩ := h37
        have o37 : σ37.2 σ1.1 = some (oB (borC cd) i) := o37
        refine A_astore_n (pc := 40) (lv' := [_, _, _, _, _]) hX dX8_read_40 (Nat.le_of_ble_eq_true rfl) rfl rfl ?_
        refine A_aload_n (pc := 41) rfl hX dX8_read_41 ?_
        refine A_getf (pc := 42) hX fl_X8_11_8 dX8_read_42 ((g37 _ (by omega)).trans a0) (by exact rfl) ?_
        refine A_iload_n (pc := 45) rfl hX dX8_read_45 ?_
        refine A_aload_n (pc := 46) rfl hX dX8_read_46 ?_
        refine A_aastK (pc := 47) hX dX8_read_47 ((g37 _ (by omega)).trans a1) (vp_in_nI (by omega) (by decide)) hoi.1 o37 ?_
        rw [nI_clamp (show i < 2 ^ 31 by omega)]
        refine A_iconst (pc := 48) (v := (nI 0)) (by decide) hX dX8_read_48 ?_
        refine A_istore (pc := 49) (lv' := [_, _, _, _, _]) hX dX8_read_49 (Nat.le_of_ble_eq_true rfl) rfl rfl ?_
        suffices hj : ∀ (m2 j : Nat) (σ2 : aS) (fa2 : Nat → Int32), j ≤ 512 → 512 - j = m2 → Fr (w + 2) (w + 3) (aSet σ37 (w + 1) (aR G 6 (va_up bo i (some σ1.1)))) σ2 → σ2.2 (w + 2) = some (aI G 3072 fa2) → (∀ b s, s < 512 → (b < i ∨ (b = i ∧ s < j)) → fa2 (b * 512 + s) = nI (mkB (borC cd) b s)) → AA G X (i + 1) (3 * i + 3) 51 [some (.ref w), some (.ref p), some (.int (nI i)), some (.ref σ1.1), some (.int (nI j))] [] σ2 from hj 512 0 _ fa1 (by omega) rfl Fr.rf (lk_n ((g37 _ (by omega)).trans a2) (by omega)) (fun b s hs q => aa b (by omega) s hs)
        intro m2
        induction m2 with
        | zero =>
          intro j σ2 fa2 hj hjm jF j2 j3
          have e : j = 512 := by omega
          subst e
          refine A_iload (pc := 51) rfl hX dX8_read_51 ?_
          refine A_sipush (pc := 53) (v := (nI 512)) (by decide) hX dX8_read_53 ?_
          refine A_icmp_ge (pc := 56) 86 hX dX8_read_56 rfl (fun c56 => ?_) (fun c56 => ?_)
          · refine A_iinc (pc := 86) (v := (nI (i + 1))) (lv' := [_, _, _, _, _]) hX dX8_read_86 rfl (nI_succ i).symm rfl rfl ?_
            refine A_goto (pc := 89) 18 hX dX8_read_89 rfl ?_
            refine A_cs rfl (show 3 * i + 3 = 3 * (i + 1) by omega) (ih (i + 1) _ _ σ2 (va_up bo i (some σ1.1)) fa2 (by omega) (by omega) ?_ ?_ j2 ?_ ?_ ?_ ?_)
            · exact lk_f jF (lk_n ((g37 _ (by omega)).trans a0) (by omega)) (by omega)
            · exact lk_f jF aSet_s (by omega)
            · exact fun a q1 q2 => (jF.2 a (by omega)).trans ((aSet_n (by omega)).trans ((g37 a (by omega)).trans (aF a q1 q2)))
            · rw [jF.1]; show σ37.1 = _; omega
            · intro b hb
              by_cases q : b = i
              · subst q
                exact ⟨σ1.1, by simp [va_up], by omega, lk_f jF (lk_n o37 (by omega)) (by omega)⟩
              · obtain ⟨a, x1, x2, x3⟩ := ab b (by omega)
                have x4 := (hdom a _ x3).2
                exact ⟨a, by simp [va_up, q, x1], x2, lk_f jF (lk_n ((g37 _ (by omega)).trans x3) (by omega)) (by omega)⟩
            · exact fun b hb s hs => j3 b s hs (by omega)
          · exact absurd (nI_le (by omega) (by omega)) c56
        | succ m2 ih2 =>
          intro j σ2 fa2 hj hjm jF j2 j3
          have hjl : j < 512 := by omega
          refine A_iload (pc := 51) rfl hX dX8_read_51 ?_
          refine A_sipush (pc := 53) (v := (nI 512)) (by decide) hX dX8_read_53 ?_
          refine A_icmp_ge (pc := 56) 86 hX dX8_read_56 rfl (fun c56 => ?_) (fun c56 => ?_)
          · exact absurd c56 (nI_ge hjl (by omega))
          · refine A_aload_n (pc := 59) rfl hX dX8_read_59 ?_
            refine A_getf (pc := 60) hX fl_X8_17_8 dX8_read_60 (lk_f jF (lk_n ((g37 _ (by omega)).trans a0) (by omega)) (by omega)) (by exact rfl) ?_
            refine A_iload_n (pc := 63) rfl hX dX8_read_63 ?_
            refine A_sipush (pc := 64) (v := (nI 512)) (by decide) hX dX8_read_64 ?_
            refine A_imul (pc := 67) hX dX8_read_67 ?_
            refine A_top (y := nI (i * 512)) (pk_mul _ _) ?_
            refine A_iload (pc := 68) rfl hX dX8_read_68 ?_
            refine A_iadd (pc := 70) hX dX8_read_70 ?_
            refine A_top (y := nI (i * 512 + j)) (nI_add _ _) ?_
            refine A_aload_n (pc := 71) rfl hX dX8_read_71 ?_
            refine A_iload (pc := 72) rfl hX dX8_read_72 ?_
            refine A_stAft hX hoi.1 hoi.2.1 hoi.2.2.2.1 hjl (lk_f jF (lk_n o37 (by omega)) (by omega)) rfl (Nat.le_of_ble_eq_true rfl) (Nat.le_of_ble_eq_true rfl) (Nat.le_of_ble_eq_true rfl) (by show i + 1 ≤ 6; omega) (by show 3 * i + 3 ≤ 18; omega) ?_
            refine A_S3v (pc := 77) hX mk_X11_put ls_X8_50 dX8_read_77 (ct_put l G j2 (by decide)) rfl (Nat.le_of_ble_eq_true rfl) (Nat.le_of_ble_eq_true rfl) (Nat.le_of_ble_eq_true rfl) (by show i + 1 ≤ 6; omega) (by show 3 * i + 3 ≤ 18; omega) (fun σ77 h77 => ?_)
            obtain ⟨h77, hf77⟩ := h77
            refine A_iinc (pc := 80) (v := (nI (j + 1))) (lv' := [_, _, _, _, _]) hX dX8_read_80 rfl (nI_succ j).symm rfl rfl ?_
            refine A_goto (pc := 83) 51 hX dX8_read_83 rfl ?_
            refine ih2 (j + 1) σ77 _ (by omega) (by omega) (jF.tr hf77) h77 (fun b s hs q => ?_)
            rw [putS_nI (by omega) (by decide)]
            by_cases q2 : b = i ∧ s = j
            · obtain ⟨rfl, rfl⟩ := q2
              simp only [upd, if_pos]
              rfl
            · simp only [upd, if_neg (show ¬ b * 512 + s = i * 512 + j by omega)]
              exact j3 b s hs (by omega)
