/-! the page: p the object, p + 1 its codes -/
def RPg (G : aG) (p len : Nat) (cd : Nat → Nat) (σ : aS) : Prop := ∃ f : Nat → Int32, σ.2 p = some (aO 2 [.ref (p + 1), .int (nI len)]) ∧ σ.2 (p + 1) = some (aI G 30 f) ∧ len ≤ 30 ∧ ∀ j, j < len → f j = nI (cd j) ∧ cd j < 128
theorem RPg.kept {G : aG} {p len : Nat} {cd : Nat → Nat} {σ σ' : aS} (h : RPg G p len cd σ) (hk : ∀ a, p ≤ a → a < p + 2 → σ'.2 a = σ.2 a) : RPg G p len cd σ' := by
  obtain ⟨f, h1, h2, h3⟩ := h
  exact ⟨f, (hk p (by omega) (by omega)).trans h1, (hk (p + 1) (by omega) (by omega)).trans h2, h3⟩
def flt (fit : Nat → Bool) : Nat → Nat → Nat
  | 0, k => k
  | n + 1, k => if fit k = true then flt fit n (k + 1) else k
def faultOf (fit : Nat → Bool) (len : Nat) : Nat := flt fit len 0
theorem flt_le (fit : Nat → Bool) : ∀ n k, flt fit n k ≤ n + k
  | 0, k => by simp [flt]
  | n + 1, k => by
    rw [flt]
    split
    · have := flt_le fit n (k + 1); omega
    · omega
theorem flt_all (fit : Nat → Bool) : ∀ n k, flt fit n k = n + k → ∀ j, k ≤ j → j < n + k → fit j = true
  | 0, k, _, j, h1, h2 => by omega
  | n + 1, k, h, j, h1, h2 => by
    rw [flt] at h
    split at h
    · rename_i hf
      by_cases e : j = k
      · subst e; exact hf
      · exact flt_all fit n (k + 1) (by omega) j (by omega) (by omega)
    · omega
def fitT (cd : Nat → Nat) (k : Nat) : Bool := decide (k < 29 ∧ (k % 5 = 0 → cd k = 97 ∨ cd k = 115 ∨ cd k = 116 ∨ cd k = 119 ∨ cd k = 100) ∧ (k % 5 = 1 → 48 ≤ cd k ∧ cd k < 51) ∧ (k % 5 = 2 → 49 ≤ cd k ∧ cd k ≤ 55) ∧ (k % 5 = 3 → 49 ≤ cd k ∧ cd k ≤ 53) ∧ (k % 5 = 4 → cd k = 44))
def fitR (nb : Nat) (cd : Nat → Nat) (k : Nat) : Bool := decide (k < 8 ∧ 48 ≤ cd k ∧ cd k < 48 + nb)
def isTwB (cd : Nat → Nat) (len : Nat) : Bool := decide (len % 5 = 4 ∧ 1 ≤ len / 5 ∧ faultOf (fitT cd) len = len)
def isRnB (nb : Nat) (cd : Nat → Nat) (len : Nat) : Bool := decide (0 < len ∧ faultOf (fitR nb cd) len = len)
def kindC (c : Nat) : Nat := if c = 115 then 1 else if c = 116 then 2 else if c = 119 then 3 else if c = 100 then 4 else 0
/-- the borrower that the page tells at a number: kind, trait, much, days -/
def borC (cd : Nat → Nat) (b : Nat) : Nat × Nat × Nat × Nat := (kindC (cd (b * 5)), cd (b * 5 + 1) - 48, cd (b * 5 + 2) - 48, cd (b * 5 + 3) - 48)
set_option maxRecDepth 100000 in
set_option maxHeartbeats 1000000 in
theorem ct_Pg_add (l : Launch) (G : aG) {p len : Nat} {cd : Nat → Nat} {σ : aS} (hp : RPg G p len cd σ) {c : Nat} (hc : c < 128) (hl : len < 30) : ACt l G yX2_add cX2_add 2 (none) 1 0 0 [.ref p, .int (nI c)] σ (vP (fun σ' => RPg G p (len + 1) (fun j => if j = len then c else cd j) σ' ∧ Fr p (p + 2) σ σ')) := by
  obtain ⟨f, h0, h1, hlen, hcd⟩ := hp
  refine ACt.intro (own := RX2) (nm := "add") mk_X2_add rfl rfl [some (.ref p), some (.int (nI c))] rfl (Nat.le_of_ble_eq_true rfl) (fun X hX hR => ?_)
  refine A_aload_n (pc := 0) rfl hX dX2_add_0 ?_
  refine A_getf (pc := 1) hX fl_X2_9_2 dX2_add_1 (by repeat (first | assumption | exact aSet_s | exact aNew_s | refine lk_n ?_ (by omega) | refine lk_f (by assumption) ?_ (by omega) | refine lk_w ?_ (by omega))) (by exact rfl) ?_
  refine A_aload_n (pc := 4) rfl hX dX2_add_4 ?_
  refine A_getf (pc := 5) hX fl_X2_15_2 dX2_add_5 (by repeat (first | assumption | exact aSet_s | exact aNew_s | refine lk_n ?_ (by omega) | refine lk_f (by assumption) ?_ (by omega) | refine lk_w ?_ (by omega))) (by exact rfl) ?_
  refine A_iload_n (pc := 8) rfl hX dX2_add_8 ?_
  refine A_S3v (pc := 9) hX mk_X11_put ls_X2_19 dX2_add_9 (ct_put l G (by repeat (first | assumption | exact aSet_s | exact aNew_s | refine lk_n ?_ (by omega) | refine lk_f (by assumption) ?_ (by omega) | refine lk_w ?_ (by omega))) (by decide)) rfl (Nat.le_of_ble_eq_true rfl) (Nat.le_of_ble_eq_true rfl) (Nat.le_of_ble_eq_true rfl) (Nat.le_of_ble_eq_true rfl) (Nat.le_of_ble_eq_true rfl) (fun σ9 h9 => ?_)
  obtain ⟨h9, hf9⟩ := h9
  refine A_aload_n (pc := 12) rfl hX dX2_add_12 ?_
  refine A_dup (pc := 13) rfl hX dX2_add_13 ?_
  refine A_getf (pc := 14) hX fl_X2_15_2 dX2_add_14 (by repeat (first | assumption | exact aSet_s | exact aNew_s | refine lk_n ?_ (by omega) | refine lk_f (by assumption) ?_ (by omega) | refine lk_w ?_ (by omega))) (by exact rfl) ?_
  refine A_iconst (pc := 17) (v := (nI 1)) (by decide) hX dX2_add_17 ?_
  refine A_iadd (pc := 18) hX dX2_add_18 ?_
  refine A_top (y := nI (len + 1)) (nI_succ len).symm ?_
  refine A_putf (pc := 19) (fs' := [_, _]) hX pl_X2_15_2 dX2_add_19 (by repeat (first | assumption | exact aSet_s | exact aNew_s | refine lk_n ?_ (by omega) | refine lk_f (by assumption) ?_ (by omega) | refine lk_w ?_ (by omega))) (by exact Nat.le_of_ble_eq_true rfl) (by exact rfl) rfl rfl ?_
  refine A_ret (pc := 22) hX hR dX2_add_22 ?_
  refine ⟨rfl, ⟨_, aSet_s, lk_n h9 (by omega), by omega, fun j hj => ?_⟩, (hf9.wd (by omega) (by omega)).set (by omega) (by omega)⟩
  rw [putS_nI (by omega) (by decide)]
  by_cases e : j = len
  · subst e; simp [upd, hc]
  · have := hcd j (by omega)
    simp [upd, e, this]
set_option maxRecDepth 100000 in
set_option maxHeartbeats 1000000 in
theorem ct_Pg_codeAt (l : Launch) (G : aG) {p len : Nat} {cd : Nat → Nat} {σ : aS} (hp : RPg G p len cd σ) {j : Nat} (hj : j < len) : ACt l G yX2_codeAt cX2_codeAt 2 (some .int) 1 0 0 [.ref p, .int (nI j)] σ (dP (some (.int (nI (cd j)))) σ) := by
  obtain ⟨f, h0, h1, hlen, hcd⟩ := hp
  refine ACt.intro (own := RX2) (nm := "codeAt") mk_X2_codeAt rfl rfl [some (.ref p), some (.int (nI j))] rfl (Nat.le_of_ble_eq_true rfl) (fun X hX hR => ?_)
  refine A_aload_n (pc := 0) rfl hX dX2_codeAt_0 ?_
  refine A_getf (pc := 1) hX fl_X2_9_2 dX2_codeAt_1 (by repeat (first | assumption | exact aSet_s | exact aNew_s | refine lk_n ?_ (by omega) | refine lk_f (by assumption) ?_ (by omega) | refine lk_w ?_ (by omega))) (by exact rfl) ?_
  refine A_iload_n (pc := 4) rfl hX dX2_codeAt_4 ?_
  refine A_S2d (pc := 5) hX mk_X11_at ls_X2_23 dX2_codeAt_5 (ct_at l G (by repeat (first | assumption | exact aSet_s | exact aNew_s | refine lk_n ?_ (by omega) | refine lk_f (by assumption) ?_ (by omega) | refine lk_w ?_ (by omega))) (by decide)) rfl (Nat.le_of_ble_eq_true rfl) (Nat.le_of_ble_eq_true rfl) (Nat.le_of_ble_eq_true rfl) (Nat.le_of_ble_eq_true rfl) (Nat.le_of_ble_eq_true rfl) ?_
  refine A_iret (pc := 8) hX hR dX2_codeAt_8 rfl rfl ?_
  exact ⟨by rw [atS_nI (by omega) (by decide), (hcd j hj).1], rfl⟩
set_option maxRecDepth 100000 in
set_option maxHeartbeats 1000000 in
theorem ct_Pg_digitAt (l : Launch) (G : aG) {p len : Nat} {cd : Nat → Nat} {σ : aS} (hp : RPg G p len cd σ) {j : Nat} (hj : j < len) : ACt l G yX2_digitAt cX2_digitAt 2 (some .int) 1 0 0 [.ref p, .int (nI j)] σ (dP (some (.int (nI (cd j) - nI 48))) σ) := by
  obtain ⟨f, h0, h1, hlen, hcd⟩ := hp
  refine ACt.intro (own := RX2) (nm := "digitAt") mk_X2_digitAt rfl rfl [some (.ref p), some (.int (nI j))] rfl (Nat.le_of_ble_eq_true rfl) (fun X hX hR => ?_)
  refine A_aload_n (pc := 0) rfl hX dX2_digitAt_0 ?_
  refine A_getf (pc := 1) hX fl_X2_9_2 dX2_digitAt_1 (by repeat (first | assumption | exact aSet_s | exact aNew_s | refine lk_n ?_ (by omega) | refine lk_f (by assumption) ?_ (by omega) | refine lk_w ?_ (by omega))) (by exact rfl) ?_
  refine A_iload_n (pc := 4) rfl hX dX2_digitAt_4 ?_
  refine A_S2d (pc := 5) hX mk_X11_at ls_X2_23 dX2_digitAt_5 (ct_at l G (by repeat (first | assumption | exact aSet_s | exact aNew_s | refine lk_n ?_ (by omega) | refine lk_f (by assumption) ?_ (by omega) | refine lk_w ?_ (by omega))) (by decide)) rfl (Nat.le_of_ble_eq_true rfl) (Nat.le_of_ble_eq_true rfl) (Nat.le_of_ble_eq_true rfl) (Nat.le_of_ble_eq_true rfl) (Nat.le_of_ble_eq_true rfl) ?_
  refine A_bipush (pc := 8) (v := (nI 48)) (by decide) hX dX2_digitAt_8 ?_
  refine A_isub (pc := 10) hX dX2_digitAt_10 ?_
  refine A_iret (pc := 11) hX hR dX2_digitAt_11 rfl rfl ?_
  exact ⟨by rw [atS_nI (by omega) (by decide), (hcd j hj).1], rfl⟩
set_option maxRecDepth 100000 in
set_option maxHeartbeats 1000000 in
theorem ct_fitsTown (l : Launch) (G : aG) {p len : Nat} {cd : Nat → Nat} {σ : aS} (hp : RPg G p len cd σ) {k : Nat} (hk : k < len) : ACt l G yX2_fitsTown cX2_fitsTown 3 (some (.boolean)) 1 0 0 [.ref p, .int (nI k)] σ (dP (some (.int (bI (fitT cd k)))) σ) := by
  obtain ⟨f, h0, h1, hlen, hcd⟩ := hp
  refine ACt.intro (own := RX2) (nm := "fitsTown") mk_X2_fitsTown rfl rfl [some (.ref p), some (.int (nI k)), none] rfl (Nat.le_of_ble_eq_true rfl) (fun X hX hR => ?_)
  refine A_iload_n (pc := 0) rfl hX dX2_fitsTown_0 ?_
  refine A_bipush (pc := 1) (v := (nI 29)) (by decide) hX dX2_fitsTown_1 ?_
  refine A_icmp_lt (pc := 3) 8 hX dX2_fitsTown_3 rfl (fun c3 => ?_) (fun c3 => ?_)
  · refine A_aload_n (pc := 8) rfl hX dX2_fitsTown_8 ?_
    refine A_getf (pc := 9) hX fl_X2_9_2 dX2_fitsTown_9 (by repeat (first | assumption | exact aSet_s | exact aNew_s | refine lk_n ?_ (by omega) | refine lk_f (by assumption) ?_ (by omega) | refine lk_w ?_ (by omega))) (by exact rfl) ?_
    refine A_iload_n (pc := 12) rfl hX dX2_fitsTown_12 ?_
    refine A_S2d (pc := 13) hX mk_X11_at ls_X2_23 dX2_fitsTown_13 (ct_at l G (by repeat (first | assumption | exact aSet_s | exact aNew_s | refine lk_n ?_ (by omega) | refine lk_f (by assumption) ?_ (by omega) | refine lk_w ?_ (by omega))) (by decide)) rfl (Nat.le_of_ble_eq_true rfl) (Nat.le_of_ble_eq_true rfl) (Nat.le_of_ble_eq_true rfl) (Nat.le_of_ble_eq_true rfl) (Nat.le_of_ble_eq_true rfl) ?_
    refine A_top (y := nI (cd k)) (by rw [atS_nI (by omega) (by decide), (hcd k hk).1]) ?_
    refine A_istore_n (pc := 16) (lv' := [_, _, _]) hX dX2_fitsTown_16 (Nat.le_of_ble_eq_true rfl) rfl rfl ?_
    refine A_iload_n (pc := 17) rfl hX dX2_fitsTown_17 ?_
    refine A_iconst (pc := 18) (v := (nI 5)) (by decide) hX dX2_fitsTown_18 ?_
    refine A_irem (pc := 19) (by decide) hX dX2_fitsTown_19 ?_
    refine A_top (y := nI (k % 5)) (pk_rem (by omega) (by decide) (by decide)) ?_
    rcases (show k % 5 = 0 ∨ k % 5 = 1 ∨ k % 5 = 2 ∨ k % 5 = 3 ∨ k % 5 = 4 by omega) with hm | hm | hm | hm | hm <;> rw [hm]
    · refine A_tabIn (pc := 20) (off := 32) 52 hX dX2_fitsTown_20 (by decide) (by decide) rfl rfl ?_
      refine A_iload_n (pc := 52) rfl hX dX2_fitsTown_52 ?_
      refine A_bipush (pc := 53) (v := (nI 97)) (by decide) hX dX2_fitsTown_53 ?_
      refine A_icmp_eq (pc := 55) 82 hX dX2_fitsTown_55 rfl (fun c55 => ?_) (fun c55 => ?_)
      · refine A_iconst (pc := 82) (v := (nI 1)) (by decide) hX dX2_fitsTown_82 ?_
        refine A_goto (pc := 83) 87 hX dX2_fitsTown_83 rfl ?_
        refine A_iret (pc := 87) hX hR dX2_fitsTown_87 rfl rfl ?_
        have hc := (hcd k hk).2
        simp (disch := omega) only [nI_ltI, nI_leI, nI_eq] at c3 c55
        exact bl_t (decide_eq_true (by omega))
      · refine A_iload_n (pc := 58) rfl hX dX2_fitsTown_58 ?_
        refine A_bipush (pc := 59) (v := (nI 115)) (by decide) hX dX2_fitsTown_59 ?_
        refine A_icmp_eq (pc := 61) 82 hX dX2_fitsTown_61 rfl (fun c61 => ?_) (fun c61 => ?_)
        · refine A_iconst (pc := 82) (v := (nI 1)) (by decide) hX dX2_fitsTown_82 ?_
          refine A_goto (pc := 83) 87 hX dX2_fitsTown_83 rfl ?_
          refine A_iret (pc := 87) hX hR dX2_fitsTown_87 rfl rfl ?_
          have hc := (hcd k hk).2
          simp (disch := omega) only [nI_ltI, nI_leI, nI_eq] at c3 c55 c61
          exact bl_t (decide_eq_true (by omega))
        · refine A_iload_n (pc := 64) rfl hX dX2_fitsTown_64 ?_
          refine A_bipush (pc := 65) (v := (nI 116)) (by decide) hX dX2_fitsTown_65 ?_
          refine A_icmp_eq (pc := 67) 82 hX dX2_fitsTown_67 rfl (fun c67 => ?_) (fun c67 => ?_)
          · refine A_iconst (pc := 82) (v := (nI 1)) (by decide) hX dX2_fitsTown_82 ?_
            refine A_goto (pc := 83) 87 hX dX2_fitsTown_83 rfl ?_
            refine A_iret (pc := 87) hX hR dX2_fitsTown_87 rfl rfl ?_
            have hc := (hcd k hk).2
            simp (disch := omega) only [nI_ltI, nI_leI, nI_eq] at c3 c55 c61 c67
            exact bl_t (decide_eq_true (by omega))
          · refine A_iload_n (pc := 70) rfl hX dX2_fitsTown_70 ?_
            refine A_bipush (pc := 71) (v := (nI 119)) (by decide) hX dX2_fitsTown_71 ?_
            refine A_icmp_eq (pc := 73) 82 hX dX2_fitsTown_73 rfl (fun c73 => ?_) (fun c73 => ?_)
            · refine A_iconst (pc := 82) (v := (nI 1)) (by decide) hX dX2_fitsTown_82 ?_
              refine A_goto (pc := 83) 87 hX dX2_fitsTown_83 rfl ?_
              refine A_iret (pc := 87) hX hR dX2_fitsTown_87 rfl rfl ?_
              have hc := (hcd k hk).2
              simp (disch := omega) only [nI_ltI, nI_leI, nI_eq] at c3 c55 c61 c67 c73
              exact bl_t (decide_eq_true (by omega))
            · refine A_iload_n (pc := 76) rfl hX dX2_fitsTown_76 ?_
              refine A_bipush (pc := 77) (v := (nI 100)) (by decide) hX dX2_fitsTown_77 ?_
              refine A_icmp_ne (pc := 79) 86 hX dX2_fitsTown_79 rfl (fun c79 => ?_) (fun c79 => ?_)
              · refine A_iconst (pc := 86) (v := (nI 0)) (by decide) hX dX2_fitsTown_86 ?_
                refine A_iret (pc := 87) hX hR dX2_fitsTown_87 rfl rfl ?_
                have hc := (hcd k hk).2
                simp (disch := omega) only [nI_ltI, nI_leI, nI_eq] at c3 c55 c61 c67 c73 c79
                exact bl_f (decide_eq_false (by omega))
              · refine A_iconst (pc := 82) (v := (nI 1)) (by decide) hX dX2_fitsTown_82 ?_
                refine A_goto (pc := 83) 87 hX dX2_fitsTown_83 rfl ?_
                refine A_iret (pc := 87) hX hR dX2_fitsTown_87 rfl rfl ?_
                have hc := (hcd k hk).2
                simp (disch := omega) only [nI_ltI, nI_leI, nI_eq] at c3 c55 c61 c67 c73 c79
                exact bl_t (decide_eq_true (by omega))
    · refine A_tabIn (pc := 20) (off := 68) 88 hX dX2_fitsTown_20 (by decide) (by decide) rfl rfl ?_
      refine A_iload_n (pc := 88) rfl hX dX2_fitsTown_88 ?_
      refine A_bipush (pc := 89) (v := (nI 48)) (by decide) hX dX2_fitsTown_89 ?_
      refine A_icmp_lt (pc := 91) 104 hX dX2_fitsTown_91 rfl (fun c91 => ?_) (fun c91 => ?_)
      · refine A_iconst (pc := 104) (v := (nI 0)) (by decide) hX dX2_fitsTown_104 ?_
        refine A_iret (pc := 105) hX hR dX2_fitsTown_105 rfl rfl ?_
        have hc := (hcd k hk).2
        simp (disch := omega) only [nI_ltI, nI_leI, nI_eq] at c3 c91
        exact bl_f (decide_eq_false (by omega))
      · refine A_iload_n (pc := 94) rfl hX dX2_fitsTown_94 ?_
        refine A_bipush (pc := 95) (v := (nI 51)) (by decide) hX dX2_fitsTown_95 ?_
        refine A_icmp_ge (pc := 97) 104 hX dX2_fitsTown_97 rfl (fun c97 => ?_) (fun c97 => ?_)
        · refine A_iconst (pc := 104) (v := (nI 0)) (by decide) hX dX2_fitsTown_104 ?_
          refine A_iret (pc := 105) hX hR dX2_fitsTown_105 rfl rfl ?_
          have hc := (hcd k hk).2
          simp (disch := omega) only [nI_ltI, nI_leI, nI_eq] at c3 c91 c97
          exact bl_f (decide_eq_false (by omega))
        · refine A_iconst (pc := 100) (v := (nI 1)) (by decide) hX dX2_fitsTown_100 ?_
          refine A_goto (pc := 101) 105 hX dX2_fitsTown_101 rfl ?_
          refine A_iret (pc := 105) hX hR dX2_fitsTown_105 rfl rfl ?_
          have hc := (hcd k hk).2
          simp (disch := omega) only [nI_ltI, nI_leI, nI_eq] at c3 c91 c97
          exact bl_t (decide_eq_true (by omega))
    · refine A_tabIn (pc := 20) (off := 86) 106 hX dX2_fitsTown_20 (by decide) (by decide) rfl rfl ?_
      refine A_iload_n (pc := 106) rfl hX dX2_fitsTown_106 ?_
      refine A_bipush (pc := 107) (v := (nI 49)) (by decide) hX dX2_fitsTown_107 ?_
      refine A_icmp_lt (pc := 109) 122 hX dX2_fitsTown_109 rfl (fun c109 => ?_) (fun c109 => ?_)
      · refine A_iconst (pc := 122) (v := (nI 0)) (by decide) hX dX2_fitsTown_122 ?_
        refine A_iret (pc := 123) hX hR dX2_fitsTown_123 rfl rfl ?_
        have hc := (hcd k hk).2
        simp (disch := omega) only [nI_ltI, nI_leI, nI_eq] at c3 c109
        exact bl_f (decide_eq_false (by omega))
      · refine A_iload_n (pc := 112) rfl hX dX2_fitsTown_112 ?_
        refine A_bipush (pc := 113) (v := (nI 55)) (by decide) hX dX2_fitsTown_113 ?_
        refine A_icmp_gt (pc := 115) 122 hX dX2_fitsTown_115 rfl (fun c115 => ?_) (fun c115 => ?_)
        · refine A_iconst (pc := 122) (v := (nI 0)) (by decide) hX dX2_fitsTown_122 ?_
          refine A_iret (pc := 123) hX hR dX2_fitsTown_123 rfl rfl ?_
          have hc := (hcd k hk).2
          simp (disch := omega) only [nI_ltI, nI_leI, nI_eq] at c3 c109 c115
          exact bl_f (decide_eq_false (by omega))
        · refine A_iconst (pc := 118) (v := (nI 1)) (by decide) hX dX2_fitsTown_118 ?_
          refine A_goto (pc := 119) 123 hX dX2_fitsTown_119 rfl ?_
          refine A_iret (pc := 123) hX hR dX2_fitsTown_123 rfl rfl ?_
          have hc := (hcd k hk).2
          simp (disch := omega) only [nI_ltI, nI_leI, nI_eq] at c3 c109 c115
          exact bl_t (decide_eq_true (by omega))
    · refine A_tabIn (pc := 20) (off := 104) 124 hX dX2_fitsTown_20 (by decide) (by decide) rfl rfl ?_
      refine A_iload_n (pc := 124) rfl hX dX2_fitsTown_124 ?_
      refine A_bipush (pc := 125) (v := (nI 49)) (by decide) hX dX2_fitsTown_125 ?_
      refine A_icmp_lt (pc := 127) 140 hX dX2_fitsTown_127 rfl (fun c127 => ?_) (fun c127 => ?_)
      · refine A_iconst (pc := 140) (v := (nI 0)) (by decide) hX dX2_fitsTown_140 ?_
        refine A_iret (pc := 141) hX hR dX2_fitsTown_141 rfl rfl ?_
        have hc := (hcd k hk).2
        simp (disch := omega) only [nI_ltI, nI_leI, nI_eq] at c3 c127
        exact bl_f (decide_eq_false (by omega))
      · refine A_iload_n (pc := 130) rfl hX dX2_fitsTown_130 ?_
        refine A_bipush (pc := 131) (v := (nI 53)) (by decide) hX dX2_fitsTown_131 ?_
        refine A_icmp_gt (pc := 133) 140 hX dX2_fitsTown_133 rfl (fun c133 => ?_) (fun c133 => ?_)
        · refine A_iconst (pc := 140) (v := (nI 0)) (by decide) hX dX2_fitsTown_140 ?_
          refine A_iret (pc := 141) hX hR dX2_fitsTown_141 rfl rfl ?_
          have hc := (hcd k hk).2
          simp (disch := omega) only [nI_ltI, nI_leI, nI_eq] at c3 c127 c133
          exact bl_f (decide_eq_false (by omega))
        · refine A_iconst (pc := 136) (v := (nI 1)) (by decide) hX dX2_fitsTown_136 ?_
          refine A_goto (pc := 137) 141 hX dX2_fitsTown_137 rfl ?_
          refine A_iret (pc := 141) hX hR dX2_fitsTown_141 rfl rfl ?_
          have hc := (hcd k hk).2
          simp (disch := omega) only [nI_ltI, nI_leI, nI_eq] at c3 c127 c133
          exact bl_t (decide_eq_true (by omega))
    · refine A_tabOut (pc := 20) 142 hX dX2_fitsTown_20 (by decide) rfl ?_
      refine A_iload_n (pc := 142) rfl hX dX2_fitsTown_142 ?_
      refine A_bipush (pc := 143) (v := (nI 44)) (by decide) hX dX2_fitsTown_143 ?_
      refine A_icmp_ne (pc := 145) 152 hX dX2_fitsTown_145 rfl (fun c145 => ?_) (fun c145 => ?_)
      · refine A_iconst (pc := 152) (v := (nI 0)) (by decide) hX dX2_fitsTown_152 ?_
        refine A_iret (pc := 153) hX hR dX2_fitsTown_153 rfl rfl ?_
        have hc := (hcd k hk).2
        simp (disch := omega) only [nI_ltI, nI_leI, nI_eq] at c3 c145
        exact bl_f (decide_eq_false (by omega))
      · refine A_iconst (pc := 148) (v := (nI 1)) (by decide) hX dX2_fitsTown_148 ?_
        refine A_goto (pc := 149) 153 hX dX2_fitsTown_149 rfl ?_
        refine A_iret (pc := 153) hX hR dX2_fitsTown_153 rfl rfl ?_
        have hc := (hcd k hk).2
        simp (disch := omega) only [nI_ltI, nI_leI, nI_eq] at c3 c145
        exact bl_t (decide_eq_true (by omega))
  · refine A_iconst (pc := 6) (v := (nI 0)) (by decide) hX dX2_fitsTown_6 ?_
    refine A_iret (pc := 7) hX hR dX2_fitsTown_7 rfl rfl ?_
    have hc := (hcd k hk).2
    simp (disch := omega) only [nI_ltI, nI_leI, nI_eq] at c3
    exact bl_f (decide_eq_false (by omega))
set_option maxRecDepth 100000 in
set_option maxHeartbeats 1000000 in
theorem ct_faultOfTown (l : Launch) (G : aG) {p len : Nat} {cd : Nat → Nat} {σ : aS} (hp : RPg G p len cd σ) : ACt l G yX2_faultOfTown cX2_faultOfTown 2 (some .int) 2 0 0 [.ref p] σ (dP (some (.int (nI (faultOf (fitT cd) len)))) σ) := by
  have hp1 := hp
  obtain ⟨f, h0, h1, hlen, hcd⟩ := hp
  refine ACt.intro (own := RX2) (nm := "faultOfTown") mk_X2_faultOfTown rfl rfl [some (.ref p), none] rfl (Nat.le_of_ble_eq_true rfl) (fun X hX hR => ?_)
  refine A_iconst (pc := 0) (v := (nI 0)) (by decide) hX dX2_faultOfTown_0 ?_
  refine A_istore_n (pc := 1) (lv' := [_, _]) hX dX2_faultOfTown_1 (Nat.le_of_ble_eq_true rfl) rfl rfl ?_
  suffices hl : ∀ (m i : Nat), i ≤ len → len - i = m → flt (fitT cd) m i = faultOf (fitT cd) len → AA G X 0 0 2 [some (.ref p), some (.int (nI i))] [] σ from hl len 0 (Nat.zero_le _) (by omega) rfl
  intro m
  induction m with
  | zero =>
    intro i hi hm hf
    refine A_iload_n (pc := 2) rfl hX dX2_faultOfTown_2 ?_
    refine A_aload_n (pc := 3) rfl hX dX2_faultOfTown_3 ?_
    refine A_getf (pc := 4) hX fl_X2_15_2 dX2_faultOfTown_4 (by repeat (first | assumption | exact aSet_s | exact aNew_s | refine lk_n ?_ (by omega) | refine lk_f (by assumption) ?_ (by omega) | refine lk_w ?_ (by omega))) (by exact rfl) ?_
    refine A_icmp_ge (pc := 7) 26 hX dX2_faultOfTown_7 rfl (fun c7 => ?_) (fun c7 => ?_)
    · refine A_aload_n (pc := 26) rfl hX dX2_faultOfTown_26 ?_
      refine A_getf (pc := 27) hX fl_X2_15_2 dX2_faultOfTown_27 (by repeat (first | assumption | exact aSet_s | exact aNew_s | refine lk_n ?_ (by omega) | refine lk_f (by assumption) ?_ (by omega) | refine lk_w ?_ (by omega))) (by exact rfl) ?_
      refine A_iret (pc := 30) hX hR dX2_faultOfTown_30 rfl rfl ?_
      have e : i = len := by omega
      subst e
      exact ⟨by rw [← hf]; rfl, rfl⟩
    · exact absurd (nI_le (by omega) (by omega)) c7
  | succ m ih =>
    intro i hi hm hf
    have hlt : i < len := by omega
    rw [flt] at hf
    refine A_iload_n (pc := 2) rfl hX dX2_faultOfTown_2 ?_
    refine A_aload_n (pc := 3) rfl hX dX2_faultOfTown_3 ?_
    refine A_getf (pc := 4) hX fl_X2_15_2 dX2_faultOfTown_4 (by repeat (first | assumption | exact aSet_s | exact aNew_s | refine lk_n ?_ (by omega) | refine lk_f (by assumption) ?_ (by omega) | refine lk_w ?_ (by omega))) (by exact rfl) ?_
    refine A_icmp_ge (pc := 7) 26 hX dX2_faultOfTown_7 rfl (fun c7 => ?_) (fun c7 => ?_)
    · exact absurd c7 (nI_ge hlt (by omega))
    · refine A_aload_n (pc := 10) rfl hX dX2_faultOfTown_10 ?_
      refine A_iload_n (pc := 11) rfl hX dX2_faultOfTown_11 ?_
      refine A_V1d (pc := 12) hX mk_X2_fitsTown lv_X2_27 dX2_faultOfTown_12 (by repeat (first | assumption | exact aSet_s | exact aNew_s | refine lk_n ?_ (by omega) | refine lk_f (by assumption) ?_ (by omega) | refine lk_w ?_ (by omega))) (ct_fitsTown l G hp1 hlt) rfl (Nat.le_of_ble_eq_true rfl) (Nat.le_of_ble_eq_true rfl) (Nat.le_of_ble_eq_true rfl) (Nat.le_of_ble_eq_true rfl) (Nat.le_of_ble_eq_true rfl) ?_
      refine A_if_ne (pc := 15) 20 hX dX2_faultOfTown_15 rfl (fun c15 => ?_) (fun c15 => ?_)
      · refine A_iinc (pc := 20) (v := (nI (i + 1))) (lv' := [_, _]) hX dX2_faultOfTown_20 rfl (nI_succ i).symm rfl rfl ?_
        refine A_goto (pc := 23) 2 hX dX2_faultOfTown_23 rfl ?_
        exact ih (i + 1) (by omega) (by omega) (by rw [if_pos (bI_ne c15)] at hf; exact hf)
      · refine A_iload_n (pc := 18) rfl hX dX2_faultOfTown_18 ?_
        refine A_iret (pc := 19) hX hR dX2_faultOfTown_19 rfl rfl ?_
        exact ⟨by rw [if_neg (by rw [bI_eq c15]; decide)] at hf; rw [← hf], rfl⟩
theorem i_subneg {a b : Nat} (ha : a < 2 ^ 20) (hb : b < 2 ^ 20) : nI a - nI b < 0 ↔ a < b := by
  rw [Int32.lt_iff_toInt_lt, pk_sub_toInt (by omega) (by omega), Int32.toInt_zero]
  omega
theorem i_sublt {a b c : Nat} (ha : a < 2 ^ 20) (hb : b < 2 ^ 20) (hc : c < 2 ^ 20) : nI a - nI b < nI c ↔ a < b + c := by
  rw [Int32.lt_iff_toInt_lt, pk_sub_toInt (by omega) (by omega), nI_toInt (by omega)]
  omega
set_option maxRecDepth 100000 in
set_option maxHeartbeats 1000000 in
theorem ct_faultOfRound (l : Launch) (G : aG) {p len : Nat} {cd : Nat → Nat} {σ : aS} (hp : RPg G p len cd σ) {nb : Nat} (hnb : nb ≤ 6) : ACt l G yX2_faultOfRound cX2_faultOfRound 4 (some .int) 2 0 0 [.ref p, .int (nI nb)] σ (dP (some (.int (nI (faultOf (fitR nb cd) len)))) σ) := by
  have hp1 := hp
  obtain ⟨f, h0, h1, hlen, hcd⟩ := hp
  refine ACt.intro (own := RX2) (nm := "faultOfRound") mk_X2_faultOfRound rfl rfl [some (.ref p), some (.int (nI nb)), none, none] rfl (Nat.le_of_ble_eq_true rfl) (fun X hX hR => ?_)
  refine A_iconst (pc := 0) (v := (nI 0)) (by decide) hX dX2_faultOfRound_0 ?_
  refine A_istore_n (pc := 1) (lv' := [_, _, _, _]) hX dX2_faultOfRound_1 (Nat.le_of_ble_eq_true rfl) rfl rfl ?_
  suffices hl : ∀ (m i : Nat) (v3 : Option Value), i ≤ len → len - i = m → flt (fitR nb cd) m i = faultOf (fitR nb cd) len → AA G X 0 0 2 [some (.ref p), some (.int (nI nb)), some (.int (nI i)), v3] [] σ from hl len 0 none (Nat.zero_le _) (by omega) rfl
  intro m
  induction m with
  | zero =>
    intro i v3 hi hm hf
    refine A_iload_n (pc := 2) rfl hX dX2_faultOfRound_2 ?_
    refine A_aload_n (pc := 3) rfl hX dX2_faultOfRound_3 ?_
    refine A_getf (pc := 4) hX fl_X2_15_2 dX2_faultOfRound_4 (by repeat (first | assumption | exact aSet_s | exact aNew_s | refine lk_n ?_ (by omega) | refine lk_f (by assumption) ?_ (by omega) | refine lk_w ?_ (by omega))) (by exact rfl) ?_
    refine A_icmp_ge (pc := 7) 39 hX dX2_faultOfRound_7 rfl (fun c7 => ?_) (fun c7 => ?_)
    · refine A_aload_n (pc := 39) rfl hX dX2_faultOfRound_39 ?_
      refine A_getf (pc := 40) hX fl_X2_15_2 dX2_faultOfRound_40 (by repeat (first | assumption | exact aSet_s | exact aNew_s | refine lk_n ?_ (by omega) | refine lk_f (by assumption) ?_ (by omega) | refine lk_w ?_ (by omega))) (by exact rfl) ?_
      refine A_iret (pc := 43) hX hR dX2_faultOfRound_43 rfl rfl ?_
      have e : i = len := by omega
      subst e
      exact ⟨by rw [← hf]; rfl, rfl⟩
    · exact absurd (nI_le (by omega) (by omega)) c7
  | succ m ih =>
    intro i v3 hi hm hf
    have hlt : i < len := by omega
    have hc := (hcd i hlt).2
    rw [flt] at hf
    refine A_iload_n (pc := 2) rfl hX dX2_faultOfRound_2 ?_
    refine A_aload_n (pc := 3) rfl hX dX2_faultOfRound_3 ?_
    refine A_getf (pc := 4) hX fl_X2_15_2 dX2_faultOfRound_4 (by repeat (first | assumption | exact aSet_s | exact aNew_s | refine lk_n ?_ (by omega) | refine lk_f (by assumption) ?_ (by omega) | refine lk_w ?_ (by omega))) (by exact rfl) ?_
    refine A_icmp_ge (pc := 7) 39 hX dX2_faultOfRound_7 rfl (fun c7 => ?_) (fun c7 => ?_)
    · exact absurd c7 (nI_ge hlt (by omega))
    · refine A_aload_n (pc := 10) rfl hX dX2_faultOfRound_10 ?_
      refine A_iload_n (pc := 11) rfl hX dX2_faultOfRound_11 ?_
      refine A_V1d (pc := 12) hX mk_X2_digitAt lv_X2_31 dX2_faultOfRound_12 (by repeat (first | assumption | exact aSet_s | exact aNew_s | refine lk_n ?_ (by omega) | refine lk_f (by assumption) ?_ (by omega) | refine lk_w ?_ (by omega))) (ct_Pg_digitAt l G hp1 hlt) rfl (Nat.le_of_ble_eq_true rfl) (Nat.le_of_ble_eq_true rfl) (Nat.le_of_ble_eq_true rfl) (Nat.le_of_ble_eq_true rfl) (Nat.le_of_ble_eq_true rfl) ?_
      refine A_istore_n (pc := 15) (lv' := [_, _, _, _]) hX dX2_faultOfRound_15 (Nat.le_of_ble_eq_true rfl) rfl rfl ?_
      refine A_iload_n (pc := 16) rfl hX dX2_faultOfRound_16 ?_
      refine A_bipush (pc := 17) (v := (nI 8)) (by decide) hX dX2_faultOfRound_17 ?_
      refine A_icmp_ge (pc := 19) 31 hX dX2_faultOfRound_19 rfl (fun c19 => ?_) (fun c19 => ?_)
      · refine A_iload_n (pc := 31) rfl hX dX2_faultOfRound_31 ?_
        refine A_iret (pc := 32) hX hR dX2_faultOfRound_32 rfl rfl ?_
        simp (disch := omega) only [nI_ltI, nI_leI, nI_eq] at c19
        exact ⟨by rw [if_neg (by rw [fitR, decide_eq_false (by omega)]; decide)] at hf; rw [← hf], rfl⟩
      · refine A_iload_n (pc := 22) rfl hX dX2_faultOfRound_22 ?_
        refine A_if_lt (pc := 23) 31 hX dX2_faultOfRound_23 rfl (fun c23 => ?_) (fun c23 => ?_)
        · refine A_iload_n (pc := 31) rfl hX dX2_faultOfRound_31 ?_
          refine A_iret (pc := 32) hX hR dX2_faultOfRound_32 rfl rfl ?_
          simp (disch := omega) only [nI_ltI, nI_leI, nI_eq] at c19
          rw [i_subneg (by omega) (by omega)] at c23
          exact ⟨by rw [if_neg (by rw [fitR, decide_eq_false (by omega)]; decide)] at hf; rw [← hf], rfl⟩
        · refine A_iload_n (pc := 26) rfl hX dX2_faultOfRound_26 ?_
          refine A_iload_n (pc := 27) rfl hX dX2_faultOfRound_27 ?_
          refine A_icmp_lt (pc := 28) 33 hX dX2_faultOfRound_28 rfl (fun c28 => ?_) (fun c28 => ?_)
          · refine A_iinc (pc := 33) (v := (nI (i + 1))) (lv' := [_, _, _, _]) hX dX2_faultOfRound_33 rfl (nI_succ i).symm rfl rfl ?_
            refine A_goto (pc := 36) 2 hX dX2_faultOfRound_36 rfl ?_
            simp (disch := omega) only [nI_ltI, nI_leI, nI_eq] at c19
            rw [i_subneg (by omega) (by omega)] at c23
            rw [i_sublt (by omega) (by omega) (by omega)] at c28
            exact ih (i + 1) _ (by omega) (by omega) (by rw [if_pos (show fitR nb cd i = true from decide_eq_true (by omega))] at hf; exact hf)
          · refine A_iload_n (pc := 31) rfl hX dX2_faultOfRound_31 ?_
            refine A_iret (pc := 32) hX hR dX2_faultOfRound_32 rfl rfl ?_
            simp (disch := omega) only [nI_ltI, nI_leI, nI_eq] at c19
            rw [i_subneg (by omega) (by omega)] at c23
            rw [i_sublt (by omega) (by omega) (by omega)] at c28
            exact ⟨by rw [if_neg (by rw [fitR, decide_eq_false (by omega)]; decide)] at hf; rw [← hf], rfl⟩
set_option maxRecDepth 100000 in
set_option maxHeartbeats 1000000 in
theorem ct_isTown (l : Launch) (G : aG) {p len : Nat} {cd : Nat → Nat} {σ : aS} (hp : RPg G p len cd σ) : ACt l G yX2_isTown cX2_isTown 2 (some (.boolean)) 3 0 0 [.ref p] σ (dP (some (.int (bI (isTwB cd len)))) σ) := by
  have hp1 := hp
  obtain ⟨f, h0, h1, hlen, hcd⟩ := hp
  have hfl := flt_le (fitT cd) len 0
  refine ACt.intro (own := RX2) (nm := "isTown") mk_X2_isTown rfl rfl [some (.ref p), none] rfl (Nat.le_of_ble_eq_true rfl) (fun X hX hR => ?_)
  refine A_aload_n (pc := 0) rfl hX dX2_isTown_0 ?_
  refine A_getf (pc := 1) hX fl_X2_15_2 dX2_isTown_1 (by repeat (first | assumption | exact aSet_s | exact aNew_s | refine lk_n ?_ (by omega) | refine lk_f (by assumption) ?_ (by omega) | refine lk_w ?_ (by omega))) (by exact rfl) ?_
  refine A_iconst (pc := 4) (v := (nI 5)) (by decide) hX dX2_isTown_4 ?_
  refine A_irem (pc := 5) (by decide) hX dX2_isTown_5 ?_
  refine A_top (y := nI (len % 5)) (pk_rem (by omega) (by decide) (by decide)) ?_
  refine A_iconst (pc := 6) (v := (nI 4)) (by decide) hX dX2_isTown_6 ?_
  refine A_icmp_ne (pc := 7) 14 hX dX2_isTown_7 rfl (fun c7 => ?_) (fun c7 => ?_)
  · refine A_iconst (pc := 14) (v := (nI 0)) (by decide) hX dX2_isTown_14 ?_
    refine A_istore_n (pc := 15) (lv' := [_, _]) hX dX2_isTown_15 (Nat.le_of_ble_eq_true rfl) rfl rfl ?_
    refine A_iload_n (pc := 16) rfl hX dX2_isTown_16 ?_
    refine A_if_eq (pc := 17) 47 hX dX2_isTown_17 rfl (fun c17 => ?_) (fun c17 => ?_)
    · refine A_iconst (pc := 47) (v := (nI 0)) (by decide) hX dX2_isTown_47 ?_
      refine A_iret (pc := 48) hX hR dX2_isTown_48 rfl rfl ?_
      first
        | exact absurd c17 (by decide)
        | ((try simp only [faultOf] at *)
           (try simp (disch := omega) only [nI_ltI, nI_leI, nI_eq] at *)
           first
             | exact bl_t (decide_eq_true (by simp only [faultOf]; omega))
             | exact bl_f (decide_eq_false (by simp only [faultOf]; omega)))
    · refine A_aload_n (pc := 20) rfl hX dX2_isTown_20 ?_
      refine A_getf (pc := 21) hX fl_X2_15_2 dX2_isTown_21 (by repeat (first | assumption | exact aSet_s | exact aNew_s | refine lk_n ?_ (by omega) | refine lk_f (by assumption) ?_ (by omega) | refine lk_w ?_ (by omega))) (by exact rfl) ?_
      refine A_iconst (pc := 24) (v := (nI 5)) (by decide) hX dX2_isTown_24 ?_
      refine A_idiv (pc := 25) (by decide) hX dX2_isTown_25 ?_
      refine A_top (y := nI (len / 5)) (pk_div (by omega) (by decide) (by decide)) ?_
      refine A_iconst (pc := 26) (v := (nI 1)) (by decide) hX dX2_isTown_26 ?_
      refine A_iadd (pc := 27) hX dX2_isTown_27 ?_
      refine A_top (y := nI (len / 5 + 1)) (nI_succ _).symm ?_
      refine A_iconst (pc := 28) (v := (nI 2)) (by decide) hX dX2_isTown_28 ?_
      refine A_icmp_lt (pc := 29) 47 hX dX2_isTown_29 rfl (fun c29 => ?_) (fun c29 => ?_)
      · refine A_iconst (pc := 47) (v := (nI 0)) (by decide) hX dX2_isTown_47 ?_
        refine A_iret (pc := 48) hX hR dX2_isTown_48 rfl rfl ?_
        first
          | exact absurd c17 (by decide)
          | ((try simp only [faultOf] at *)
             (try simp (disch := omega) only [nI_ltI, nI_leI, nI_eq] at *)
             first
               | exact bl_t (decide_eq_true (by simp only [faultOf]; omega))
               | exact bl_f (decide_eq_false (by simp only [faultOf]; omega)))
      · refine A_aload_n (pc := 32) rfl hX dX2_isTown_32 ?_
        refine A_V0d (pc := 33) hX mk_X2_faultOfTown lv_X2_35 dX2_isTown_33 (by repeat (first | assumption | exact aSet_s | exact aNew_s | refine lk_n ?_ (by omega) | refine lk_f (by assumption) ?_ (by omega) | refine lk_w ?_ (by omega))) (ct_faultOfTown l G hp1) rfl (Nat.le_of_ble_eq_true rfl) (Nat.le_of_ble_eq_true rfl) (Nat.le_of_ble_eq_true rfl) (Nat.le_of_ble_eq_true rfl) (Nat.le_of_ble_eq_true rfl) ?_
        refine A_aload_n (pc := 36) rfl hX dX2_isTown_36 ?_
        refine A_getf (pc := 37) hX fl_X2_15_2 dX2_isTown_37 (by repeat (first | assumption | exact aSet_s | exact aNew_s | refine lk_n ?_ (by omega) | refine lk_f (by assumption) ?_ (by omega) | refine lk_w ?_ (by omega))) (by exact rfl) ?_
        refine A_icmp_ne (pc := 40) 47 hX dX2_isTown_40 rfl (fun c40 => ?_) (fun c40 => ?_)
        · refine A_iconst (pc := 47) (v := (nI 0)) (by decide) hX dX2_isTown_47 ?_
          refine A_iret (pc := 48) hX hR dX2_isTown_48 rfl rfl ?_
          first
            | exact absurd c17 (by decide)
            | ((try simp only [faultOf] at *)
               (try simp (disch := omega) only [nI_ltI, nI_leI, nI_eq] at *)
               first
                 | exact bl_t (decide_eq_true (by simp only [faultOf]; omega))
                 | exact bl_f (decide_eq_false (by simp only [faultOf]; omega)))
        · refine A_iconst (pc := 43) (v := (nI 1)) (by decide) hX dX2_isTown_43 ?_
          refine A_goto (pc := 44) 48 hX dX2_isTown_44 rfl ?_
          refine A_iret (pc := 48) hX hR dX2_isTown_48 rfl rfl ?_
          first
            | exact absurd c17 (by decide)
            | ((try simp only [faultOf] at *)
               (try simp (disch := omega) only [nI_ltI, nI_leI, nI_eq] at *)
               first
                 | exact bl_t (decide_eq_true (by simp only [faultOf]; omega))
                 | exact bl_f (decide_eq_false (by simp only [faultOf]; omega)))
  · refine A_iconst (pc := 10) (v := (nI 1)) (by decide) hX dX2_isTown_10 ?_
    refine A_goto (pc := 11) 15 hX dX2_isTown_11 rfl ?_
    refine A_istore_n (pc := 15) (lv' := [_, _]) hX dX2_isTown_15 (Nat.le_of_ble_eq_true rfl) rfl rfl ?_
    refine A_iload_n (pc := 16) rfl hX dX2_isTown_16 ?_
    refine A_if_eq (pc := 17) 47 hX dX2_isTown_17 rfl (fun c17 => ?_) (fun c17 => ?_)
    · refine A_iconst (pc := 47) (v := (nI 0)) (by decide) hX dX2_isTown_47 ?_
      refine A_iret (pc := 48) hX hR dX2_isTown_48 rfl rfl ?_
      first
        | exact absurd c17 (by decide)
        | ((try simp only [faultOf] at *)
           (try simp (disch := omega) only [nI_ltI, nI_leI, nI_eq] at *)
           first
             | exact bl_t (decide_eq_true (by simp only [faultOf]; omega))
             | exact bl_f (decide_eq_false (by simp only [faultOf]; omega)))
    · refine A_aload_n (pc := 20) rfl hX dX2_isTown_20 ?_
      refine A_getf (pc := 21) hX fl_X2_15_2 dX2_isTown_21 (by repeat (first | assumption | exact aSet_s | exact aNew_s | refine lk_n ?_ (by omega) | refine lk_f (by assumption) ?_ (by omega) | refine lk_w ?_ (by omega))) (by exact rfl) ?_
      refine A_iconst (pc := 24) (v := (nI 5)) (by decide) hX dX2_isTown_24 ?_
      refine A_idiv (pc := 25) (by decide) hX dX2_isTown_25 ?_
      refine A_top (y := nI (len / 5)) (pk_div (by omega) (by decide) (by decide)) ?_
      refine A_iconst (pc := 26) (v := (nI 1)) (by decide) hX dX2_isTown_26 ?_
      refine A_iadd (pc := 27) hX dX2_isTown_27 ?_
      refine A_top (y := nI (len / 5 + 1)) (nI_succ _).symm ?_
      refine A_iconst (pc := 28) (v := (nI 2)) (by decide) hX dX2_isTown_28 ?_
      refine A_icmp_lt (pc := 29) 47 hX dX2_isTown_29 rfl (fun c29 => ?_) (fun c29 => ?_)
      · refine A_iconst (pc := 47) (v := (nI 0)) (by decide) hX dX2_isTown_47 ?_
        refine A_iret (pc := 48) hX hR dX2_isTown_48 rfl rfl ?_
        first
          | exact absurd c17 (by decide)
          | ((try simp only [faultOf] at *)
             (try simp (disch := omega) only [nI_ltI, nI_leI, nI_eq] at *)
             first
               | exact bl_t (decide_eq_true (by simp only [faultOf]; omega))
               | exact bl_f (decide_eq_false (by simp only [faultOf]; omega)))
      · refine A_aload_n (pc := 32) rfl hX dX2_isTown_32 ?_
        refine A_V0d (pc := 33) hX mk_X2_faultOfTown lv_X2_35 dX2_isTown_33 (by repeat (first | assumption | exact aSet_s | exact aNew_s | refine lk_n ?_ (by omega) | refine lk_f (by assumption) ?_ (by omega) | refine lk_w ?_ (by omega))) (ct_faultOfTown l G hp1) rfl (Nat.le_of_ble_eq_true rfl) (Nat.le_of_ble_eq_true rfl) (Nat.le_of_ble_eq_true rfl) (Nat.le_of_ble_eq_true rfl) (Nat.le_of_ble_eq_true rfl) ?_
        refine A_aload_n (pc := 36) rfl hX dX2_isTown_36 ?_
        refine A_getf (pc := 37) hX fl_X2_15_2 dX2_isTown_37 (by repeat (first | assumption | exact aSet_s | exact aNew_s | refine lk_n ?_ (by omega) | refine lk_f (by assumption) ?_ (by omega) | refine lk_w ?_ (by omega))) (by exact rfl) ?_
        refine A_icmp_ne (pc := 40) 47 hX dX2_isTown_40 rfl (fun c40 => ?_) (fun c40 => ?_)
        · refine A_iconst (pc := 47) (v := (nI 0)) (by decide) hX dX2_isTown_47 ?_
          refine A_iret (pc := 48) hX hR dX2_isTown_48 rfl rfl ?_
          first
            | exact absurd c17 (by decide)
            | ((try simp only [faultOf] at *)
               (try simp (disch := omega) only [nI_ltI, nI_leI, nI_eq] at *)
               first
                 | exact bl_t (decide_eq_true (by simp only [faultOf]; omega))
                 | exact bl_f (decide_eq_false (by simp only [faultOf]; omega)))
        · refine A_iconst (pc := 43) (v := (nI 1)) (by decide) hX dX2_isTown_43 ?_
          refine A_goto (pc := 44) 48 hX dX2_isTown_44 rfl ?_
          refine A_iret (pc := 48) hX hR dX2_isTown_48 rfl rfl ?_
          first
            | exact absurd c17 (by decide)
            | ((try simp only [faultOf] at *)
               (try simp (disch := omega) only [nI_ltI, nI_leI, nI_eq] at *)
               first
                 | exact bl_t (decide_eq_true (by simp only [faultOf]; omega))
                 | exact bl_f (decide_eq_false (by simp only [faultOf]; omega)))
set_option maxRecDepth 100000 in
set_option maxHeartbeats 1000000 in
theorem ct_isRound (l : Launch) (G : aG) {p len : Nat} {cd : Nat → Nat} {σ : aS} (hp : RPg G p len cd σ) {nb : Nat} (hnb : nb ≤ 6) : ACt l G yX2_isRound cX2_isRound 2 (some (.boolean)) 3 0 0 [.ref p, .int (nI nb)] σ (dP (some (.int (bI (isRnB nb cd len)))) σ) := by
  have hp1 := hp
  obtain ⟨f, h0, h1, hlen, hcd⟩ := hp
  have hfl := flt_le (fitR nb cd) len 0
  refine ACt.intro (own := RX2) (nm := "isRound") mk_X2_isRound rfl rfl [some (.ref p), some (.int (nI nb))] rfl (Nat.le_of_ble_eq_true rfl) (fun X hX hR => ?_)
  refine A_aload_n (pc := 0) rfl hX dX2_isRound_0 ?_
  refine A_getf (pc := 1) hX fl_X2_15_2 dX2_isRound_1 (by repeat (first | assumption | exact aSet_s | exact aNew_s | refine lk_n ?_ (by omega) | refine lk_f (by assumption) ?_ (by omega) | refine lk_w ?_ (by omega))) (by exact rfl) ?_
  refine A_if_le (pc := 4) 23 hX dX2_isRound_4 rfl (fun c4 => ?_) (fun c4 => ?_)
  · refine A_iconst (pc := 23) (v := (nI 0)) (by decide) hX dX2_isRound_23 ?_
    refine A_iret (pc := 24) hX hR dX2_isRound_24 rfl rfl ?_
    have e : ¬ 0 < len := fun q => nI_nle q (by omega) c4
    exact bl_f (decide_eq_false (by omega))
  · refine A_aload_n (pc := 7) rfl hX dX2_isRound_7 ?_
    refine A_iload_n (pc := 8) rfl hX dX2_isRound_8 ?_
    refine A_V1d (pc := 9) hX mk_X2_faultOfRound lv_X2_39 dX2_isRound_9 (by repeat (first | assumption | exact aSet_s | exact aNew_s | refine lk_n ?_ (by omega) | refine lk_f (by assumption) ?_ (by omega) | refine lk_w ?_ (by omega))) (ct_faultOfRound l G hp1 hnb) rfl (Nat.le_of_ble_eq_true rfl) (Nat.le_of_ble_eq_true rfl) (Nat.le_of_ble_eq_true rfl) (Nat.le_of_ble_eq_true rfl) (Nat.le_of_ble_eq_true rfl) ?_
    refine A_aload_n (pc := 12) rfl hX dX2_isRound_12 ?_
    refine A_getf (pc := 13) hX fl_X2_15_2 dX2_isRound_13 (by repeat (first | assumption | exact aSet_s | exact aNew_s | refine lk_n ?_ (by omega) | refine lk_f (by assumption) ?_ (by omega) | refine lk_w ?_ (by omega))) (by exact rfl) ?_
    refine A_icmp_ne (pc := 16) 23 hX dX2_isRound_16 rfl (fun c16 => ?_) (fun c16 => ?_)
    · refine A_iconst (pc := 23) (v := (nI 0)) (by decide) hX dX2_isRound_23 ?_
      refine A_iret (pc := 24) hX hR dX2_isRound_24 rfl rfl ?_
      simp only [faultOf] at *
      simp (disch := omega) only [nI_ltI, nI_leI, nI_eq] at c16
      exact bl_f (decide_eq_false (by simp only [faultOf]; omega))
    · refine A_iconst (pc := 19) (v := (nI 1)) (by decide) hX dX2_isRound_19 ?_
      refine A_goto (pc := 20) 24 hX dX2_isRound_20 rfl ?_
      refine A_iret (pc := 24) hX hR dX2_isRound_24 rfl rfl ?_
      have e : 0 < len := Nat.pos_of_ne_zero (fun q => c4 (by subst q; decide))
      simp only [faultOf] at *
      simp (disch := omega) only [nI_ltI, nI_leI, nI_eq] at c16
      exact bl_t (decide_eq_true (by simp only [faultOf]; omega))
set_option maxRecDepth 100000 in
set_option maxHeartbeats 1000000 in
theorem ct_borrowers (l : Launch) (G : aG) {p len : Nat} {cd : Nat → Nat} {σ : aS} (hp : RPg G p len cd σ) : ACt l G yX2_borrowers cX2_borrowers 1 (some .int) 0 0 0 [.ref p] σ (dP (some (.int (nI ((len + 1) / 5)))) σ) := by
  obtain ⟨f, h0, h1, hlen, hcd⟩ := hp
  refine ACt.intro (own := RX2) (nm := "borrowers") mk_X2_borrowers rfl rfl [some (.ref p)] rfl (Nat.le_of_ble_eq_true rfl) (fun X hX hR => ?_)
  refine A_aload_n (pc := 0) rfl hX dX2_borrowers_0 ?_
  refine A_getf (pc := 1) hX fl_X2_15_2 dX2_borrowers_1 (by repeat (first | assumption | exact aSet_s | exact aNew_s | refine lk_n ?_ (by omega) | refine lk_f (by assumption) ?_ (by omega) | refine lk_w ?_ (by omega))) (by exact rfl) ?_
  refine A_iconst (pc := 4) (v := (nI 1)) (by decide) hX dX2_borrowers_4 ?_
  refine A_iadd (pc := 5) hX dX2_borrowers_5 ?_
  refine A_iconst (pc := 6) (v := (nI 5)) (by decide) hX dX2_borrowers_6 ?_
  refine A_idiv (pc := 7) (by decide) hX dX2_borrowers_7 ?_
  refine A_iret (pc := 8) hX hR dX2_borrowers_8 rfl rfl ?_
  exact ⟨by rw [nI_add, pk_div (by omega) (by decide) (by decide)], rfl⟩
set_option maxRecDepth 100000 in
set_option maxHeartbeats 1000000 in
theorem ct_borrowerFrom (l : Launch) (G : aG) {p len : Nat} {cd : Nat → Nat} {σ : aS} (hp : RPg G p len cd σ) {b : Nat} (hb : b * 5 + 3 < len) (hk : cd (b * 5) = 97 ∨ cd (b * 5) = 115 ∨ cd (b * 5) = 116 ∨ cd (b * 5) = 119 ∨ cd (b * 5) = 100) (ht : 48 ≤ cd (b * 5 + 1)) (hm : 48 ≤ cd (b * 5 + 2)) (hd : 48 ≤ cd (b * 5 + 3)) : ACt l G yX2_borrowerFrom cX2_borrowerFrom 6 (some (.object "LentChanged$Adder")) 4 1 3 [.ref p, .int (nI b)] σ (fun r σ' => r = some (.ref σ.1) ∧ σ'.1 = σ.1 + 1 ∧ (∀ a, a ≠ σ.1 → σ'.2 a = σ.2 a) ∧ σ'.2 σ.1 = some (oK (borC cd b).1 (borC cd b).2.1 (borC cd b).2.2.1 (borC cd b).2.2.2)) := by
  have hp1 := hp
  obtain ⟨f, h0, h1, hlen, hcd⟩ := hp
  refine ACt.intro (own := RX2) (nm := "borrowerFrom") mk_X2_borrowerFrom rfl rfl [some (.ref p), some (.int (nI b)), none, none, none, none] rfl (Nat.le_of_ble_eq_true rfl) (fun X hX hR => ?_)
  refine A_iload_n (pc := 0) rfl hX dX2_borrowerFrom_0 ?_
  refine A_iconst (pc := 1) (v := (nI 5)) (by decide) hX dX2_borrowerFrom_1 ?_
  refine A_imul (pc := 2) hX dX2_borrowerFrom_2 ?_
  refine A_top (y := nI (b * 5)) (pk_mul _ _) ?_
  refine A_istore_n (pc := 3) (lv' := [_, _, _, _, _, _]) hX dX2_borrowerFrom_3 (Nat.le_of_ble_eq_true rfl) rfl rfl ?_
  refine A_aload_n (pc := 4) rfl hX dX2_borrowerFrom_4 ?_
  refine A_iload_n (pc := 5) rfl hX dX2_borrowerFrom_5 ?_
  refine A_iconst (pc := 6) (v := (nI 1)) (by decide) hX dX2_borrowerFrom_6 ?_
  refine A_iadd (pc := 7) hX dX2_borrowerFrom_7 ?_
  refine A_top (y := nI (b * 5 + 1)) (nI_add _ _) ?_
  refine A_V1d (pc := 8) hX mk_X2_digitAt lv_X2_31 dX2_borrowerFrom_8 (by repeat (first | assumption | exact aSet_s | exact aNew_s | refine lk_n ?_ (by omega) | refine lk_f (by assumption) ?_ (by omega) | refine lk_w ?_ (by omega))) (ct_Pg_digitAt l G hp1 (by omega)) rfl (Nat.le_of_ble_eq_true rfl) (Nat.le_of_ble_eq_true rfl) (Nat.le_of_ble_eq_true rfl) (Nat.le_of_ble_eq_true rfl) (Nat.le_of_ble_eq_true rfl) ?_
  refine A_top (y := nI (cd (b * 5 + 1) - 48)) (pk_sub ht) ?_
  refine A_istore_n (pc := 11) (lv' := [_, _, _, _, _, _]) hX dX2_borrowerFrom_11 (Nat.le_of_ble_eq_true rfl) rfl rfl ?_
  refine A_aload_n (pc := 12) rfl hX dX2_borrowerFrom_12 ?_
  refine A_iload_n (pc := 13) rfl hX dX2_borrowerFrom_13 ?_
  refine A_iconst (pc := 14) (v := (nI 2)) (by decide) hX dX2_borrowerFrom_14 ?_
  refine A_iadd (pc := 15) hX dX2_borrowerFrom_15 ?_
  refine A_top (y := nI (b * 5 + 2)) (nI_add _ _) ?_
  refine A_V1d (pc := 16) hX mk_X2_digitAt lv_X2_31 dX2_borrowerFrom_16 (by repeat (first | assumption | exact aSet_s | exact aNew_s | refine lk_n ?_ (by omega) | refine lk_f (by assumption) ?_ (by omega) | refine lk_w ?_ (by omega))) (ct_Pg_digitAt l G hp1 (by omega)) rfl (Nat.le_of_ble_eq_true rfl) (Nat.le_of_ble_eq_true rfl) (Nat.le_of_ble_eq_true rfl) (Nat.le_of_ble_eq_true rfl) (Nat.le_of_ble_eq_true rfl) ?_
  refine A_top (y := nI (cd (b * 5 + 2) - 48)) (pk_sub hm) ?_
  refine A_istore (pc := 19) (lv' := [_, _, _, _, _, _]) hX dX2_borrowerFrom_19 (Nat.le_of_ble_eq_true rfl) rfl rfl ?_
  refine A_aload_n (pc := 21) rfl hX dX2_borrowerFrom_21 ?_
  refine A_iload_n (pc := 22) rfl hX dX2_borrowerFrom_22 ?_
  refine A_iconst (pc := 23) (v := (nI 3)) (by decide) hX dX2_borrowerFrom_23 ?_
  refine A_iadd (pc := 24) hX dX2_borrowerFrom_24 ?_
  refine A_top (y := nI (b * 5 + 3)) (nI_add _ _) ?_
  refine A_V1d (pc := 25) hX mk_X2_digitAt lv_X2_31 dX2_borrowerFrom_25 (by repeat (first | assumption | exact aSet_s | exact aNew_s | refine lk_n ?_ (by omega) | refine lk_f (by assumption) ?_ (by omega) | refine lk_w ?_ (by omega))) (ct_Pg_digitAt l G hp1 (by omega)) rfl (Nat.le_of_ble_eq_true rfl) (Nat.le_of_ble_eq_true rfl) (Nat.le_of_ble_eq_true rfl) (Nat.le_of_ble_eq_true rfl) (Nat.le_of_ble_eq_true rfl) ?_
  refine A_top (y := nI (cd (b * 5 + 3) - 48)) (pk_sub hd) ?_
  refine A_istore (pc := 28) (lv' := [_, _, _, _, _, _]) hX dX2_borrowerFrom_28 (Nat.le_of_ble_eq_true rfl) rfl rfl ?_
  refine A_aload_n (pc := 30) rfl hX dX2_borrowerFrom_30 ?_
  refine A_getf (pc := 31) hX fl_X2_9_2 dX2_borrowerFrom_31 (by repeat (first | assumption | exact aSet_s | exact aNew_s | refine lk_n ?_ (by omega) | refine lk_f (by assumption) ?_ (by omega) | refine lk_w ?_ (by omega))) (by exact rfl) ?_
  refine A_iload_n (pc := 34) rfl hX dX2_borrowerFrom_34 ?_
  refine A_S2d (pc := 35) hX mk_X11_at ls_X2_23 dX2_borrowerFrom_35 (ct_at l G (by repeat (first | assumption | exact aSet_s | exact aNew_s | refine lk_n ?_ (by omega) | refine lk_f (by assumption) ?_ (by omega) | refine lk_w ?_ (by omega))) (by decide)) rfl (Nat.le_of_ble_eq_true rfl) (Nat.le_of_ble_eq_true rfl) (Nat.le_of_ble_eq_true rfl) (Nat.le_of_ble_eq_true rfl) (Nat.le_of_ble_eq_true rfl) ?_
  refine A_top (y := nI (cd (b * 5))) (by rw [atS_nI (by omega) (by decide), (hcd (b * 5) (by omega)).1]) ?_
  rcases hk with hk | hk | hk | hk | hk <;> rw [hk]
  · refine A_lookup (pc := 38) (off := 94) 132 hX dX2_borrowerFrom_38 (by decide) (by decide) rfl ?_
    refine A_new (pc := 132) (fs := [.int 0, .int 0, .int 0]) hX nw_X2_56 dX2_borrowerFrom_132 nf_0 (Nat.le_of_ble_eq_true rfl) (Nat.le_of_ble_eq_true rfl) ?_
    refine A_dup (pc := 135) rfl hX dX2_borrowerFrom_135 ?_
    refine A_iload_n (pc := 136) rfl hX dX2_borrowerFrom_136 ?_
    refine A_iload (pc := 137) rfl hX dX2_borrowerFrom_137 ?_
    refine A_iload (pc := 139) rfl hX dX2_borrowerFrom_139 ?_
    refine A_I3v (pc := 141) hX mk_X0_init li_X2_58 dX2_borrowerFrom_141 (ct_X0_init l G pl_X0_9_0 pl_X0_15_0 pl_X0_18_0 aNew_s) rfl (Nat.le_of_ble_eq_true rfl) (Nat.le_of_ble_eq_true rfl) (Nat.le_of_ble_eq_true rfl) (Nat.le_of_ble_eq_true rfl) (Nat.le_of_ble_eq_true rfl) (fun σ1 hn => ?_)
    refine A_aret (pc := 144) hX hR dX2_borrowerFrom_144 (Or.inr ⟨_, rfl⟩) ?_
    refine ⟨rfl, hn.2.1, fun a ha => ?_, ?_⟩
    · rcases Nat.lt_or_gt_of_ne ha with q | q
      · exact (hn.2.2 a (.inl q)).trans (aNew_n ha)
      · exact (hn.2.2 a (.inr q)).trans (aNew_n ha)
    · rw [hn.1]
      simp [oK, borC, kindC, ciK, hk]
  · refine A_lookup (pc := 38) (off := 42) 80 hX dX2_borrowerFrom_38 (by decide) (by decide) rfl ?_
    refine A_new (pc := 80) (fs := [.int 0, .int 0, .int 0]) hX nw_X2_42 dX2_borrowerFrom_80 nf_4 (Nat.le_of_ble_eq_true rfl) (Nat.le_of_ble_eq_true rfl) ?_
    refine A_dup (pc := 83) rfl hX dX2_borrowerFrom_83 ?_
    refine A_iload_n (pc := 84) rfl hX dX2_borrowerFrom_84 ?_
    refine A_iload (pc := 85) rfl hX dX2_borrowerFrom_85 ?_
    refine A_iload (pc := 87) rfl hX dX2_borrowerFrom_87 ?_
    refine A_I3v (pc := 89) hX mk_X4_init li_X2_44 dX2_borrowerFrom_89 (ct_X4_init l G pl_X0_9_4 pl_X0_15_4 pl_X0_18_4 aNew_s) rfl (Nat.le_of_ble_eq_true rfl) (Nat.le_of_ble_eq_true rfl) (Nat.le_of_ble_eq_true rfl) (Nat.le_of_ble_eq_true rfl) (Nat.le_of_ble_eq_true rfl) (fun σ1 hn => ?_)
    refine A_aret (pc := 92) hX hR dX2_borrowerFrom_92 (Or.inr ⟨_, rfl⟩) ?_
    refine ⟨rfl, hn.2.1, fun a ha => ?_, ?_⟩
    · rcases Nat.lt_or_gt_of_ne ha with q | q
      · exact (hn.2.2 a (.inl q)).trans (aNew_n ha)
      · exact (hn.2.2 a (.inr q)).trans (aNew_n ha)
    · rw [hn.1]
      simp [oK, borC, kindC, ciK, hk]
  · refine A_lookup (pc := 38) (off := 55) 93 hX dX2_borrowerFrom_38 (by decide) (by decide) rfl ?_
    refine A_new (pc := 93) (fs := [.int 0, .int 0, .int 0]) hX nw_X2_47 dX2_borrowerFrom_93 nf_9 (Nat.le_of_ble_eq_true rfl) (Nat.le_of_ble_eq_true rfl) ?_
    refine A_dup (pc := 96) rfl hX dX2_borrowerFrom_96 ?_
    refine A_iload_n (pc := 97) rfl hX dX2_borrowerFrom_97 ?_
    refine A_iload (pc := 98) rfl hX dX2_borrowerFrom_98 ?_
    refine A_iload (pc := 100) rfl hX dX2_borrowerFrom_100 ?_
    refine A_I3v (pc := 102) hX mk_X9_init li_X2_49 dX2_borrowerFrom_102 (ct_X9_init l G pl_X0_9_9 pl_X0_15_9 pl_X0_18_9 aNew_s) rfl (Nat.le_of_ble_eq_true rfl) (Nat.le_of_ble_eq_true rfl) (Nat.le_of_ble_eq_true rfl) (Nat.le_of_ble_eq_true rfl) (Nat.le_of_ble_eq_true rfl) (fun σ1 hn => ?_)
    refine A_aret (pc := 105) hX hR dX2_borrowerFrom_105 (Or.inr ⟨_, rfl⟩) ?_
    refine ⟨rfl, hn.2.1, fun a ha => ?_, ?_⟩
    · rcases Nat.lt_or_gt_of_ne ha with q | q
      · exact (hn.2.2 a (.inl q)).trans (aNew_n ha)
      · exact (hn.2.2 a (.inr q)).trans (aNew_n ha)
    · rw [hn.1]
      simp [oK, borC, kindC, ciK, hk]
  · refine A_lookup (pc := 38) (off := 68) 106 hX dX2_borrowerFrom_38 (by decide) (by decide) rfl ?_
    refine A_new (pc := 106) (fs := [.int 0, .int 0, .int 0]) hX nw_X2_50 dX2_borrowerFrom_106 nf_6 (Nat.le_of_ble_eq_true rfl) (Nat.le_of_ble_eq_true rfl) ?_
    refine A_dup (pc := 109) rfl hX dX2_borrowerFrom_109 ?_
    refine A_iload_n (pc := 110) rfl hX dX2_borrowerFrom_110 ?_
    refine A_iload (pc := 111) rfl hX dX2_borrowerFrom_111 ?_
    refine A_iload (pc := 113) rfl hX dX2_borrowerFrom_113 ?_
    refine A_I3v (pc := 115) hX mk_X6_init li_X2_52 dX2_borrowerFrom_115 (ct_X6_init l G pl_X0_9_6 pl_X0_15_6 pl_X0_18_6 aNew_s) rfl (Nat.le_of_ble_eq_true rfl) (Nat.le_of_ble_eq_true rfl) (Nat.le_of_ble_eq_true rfl) (Nat.le_of_ble_eq_true rfl) (Nat.le_of_ble_eq_true rfl) (fun σ1 hn => ?_)
    refine A_aret (pc := 118) hX hR dX2_borrowerFrom_118 (Or.inr ⟨_, rfl⟩) ?_
    refine ⟨rfl, hn.2.1, fun a ha => ?_, ?_⟩
    · rcases Nat.lt_or_gt_of_ne ha with q | q
      · exact (hn.2.2 a (.inl q)).trans (aNew_n ha)
      · exact (hn.2.2 a (.inr q)).trans (aNew_n ha)
    · rw [hn.1]
      simp [oK, borC, kindC, ciK, hk]
  · refine A_lookup (pc := 38) (off := 81) 119 hX dX2_borrowerFrom_38 (by decide) (by decide) rfl ?_
    refine A_new (pc := 119) (fs := [.int 0, .int 0, .int 0]) hX nw_X2_53 dX2_borrowerFrom_119 nf_1 (Nat.le_of_ble_eq_true rfl) (Nat.le_of_ble_eq_true rfl) ?_
    refine A_dup (pc := 122) rfl hX dX2_borrowerFrom_122 ?_
    refine A_iload_n (pc := 123) rfl hX dX2_borrowerFrom_123 ?_
    refine A_iload (pc := 124) rfl hX dX2_borrowerFrom_124 ?_
    refine A_iload (pc := 126) rfl hX dX2_borrowerFrom_126 ?_
    refine A_I3v (pc := 128) hX mk_X1_init li_X2_55 dX2_borrowerFrom_128 (ct_X1_init l G pl_X0_9_1 pl_X0_15_1 pl_X0_18_1 aNew_s) rfl (Nat.le_of_ble_eq_true rfl) (Nat.le_of_ble_eq_true rfl) (Nat.le_of_ble_eq_true rfl) (Nat.le_of_ble_eq_true rfl) (Nat.le_of_ble_eq_true rfl) (fun σ1 hn => ?_)
    refine A_aret (pc := 131) hX hR dX2_borrowerFrom_131 (Or.inr ⟨_, rfl⟩) ?_
    refine ⟨rfl, hn.2.1, fun a ha => ?_, ?_⟩
    · rcases Nat.lt_or_gt_of_ne ha with q | q
      · exact (hn.2.2 a (.inl q)).trans (aNew_n ha)
      · exact (hn.2.2 a (.inr q)).trans (aNew_n ha)
    · rw [hn.1]
      simp [oK, borC, kindC, ciK, hk]
set_option maxRecDepth 100000 in
set_option maxHeartbeats 1000000 in
theorem ct_Pg_init (l : Launch) (G : aG) {p : Nat} {σ : aS} (h : σ.2 p = some (aO 2 [.null, .int 0])) (hlt : p < σ.1) : ACt l G yX2_init cX2_init 1 (none) 1 1 30 [.ref p] σ (vP (fun σ' => σ'.1 = σ.1 + 1 ∧ (∀ a, a < σ.1 → a ≠ p → σ'.2 a = σ.2 a) ∧ σ'.2 p = some (aO 2 [.ref σ.1, .int 0]) ∧ σ'.2 σ.1 = some (aI G 30 (fun _ => 0)))) := by
  refine ACt.intro (own := RX2) (nm := "<init>") mk_X2_init rfl rfl [some (.ref p)] rfl (Nat.le_of_ble_eq_true rfl) (fun X hX hR => ?_)
  refine A_aload_n (pc := 0) rfl hX dX2_init_0 ?_
  refine A_objInit (pc := 1) hX lo_X2_3 dX2_init_1 rfl (Nat.le_of_ble_eq_true rfl) (Nat.le_of_ble_eq_true rfl) ?_
  refine A_aload_n (pc := 4) rfl hX dX2_init_4 ?_
  refine A_bipush (pc := 5) (v := (nI 30)) (by decide) hX dX2_init_5 ?_
  refine A_newI (pc := 7) (N := 30) hX dX2_init_7 (by decide) (by decide) (by decide) (Nat.le_of_ble_eq_true rfl) (Nat.le_of_ble_eq_true rfl) ?_
  refine A_putF (pc := 9) (fs' := [_, _]) hX pl_X2_9_2 dX2_init_9 (lk_w h (by omega)) (by exact Nat.le_of_ble_eq_true rfl) (by exact rfl) rfl rfl ?_
  refine A_ret (pc := 12) hX hR dX2_init_12 ?_
  exact ⟨rfl, rfl, fun a h1 h2 => (aSet_n h2).trans (aNew_n (by omega)), aSet_s, (aSet_n (by omega)).trans aNew_s⟩
