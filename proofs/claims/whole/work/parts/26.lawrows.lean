/-! THE CLAIM OUT OF ONE WALK OF THE LAW'S BODY. Your part is whole_start (and what it stands on); all else here is the same for every law, but numbers. -/
def lw_P (b : Addr) (xs : List Int32) (args : Array Value) (s : State) : Prop := args = #[.ref b] ∧ s.IntsAt b xs ∧ xs.length ≤ 320 ∧ (Jvm.Cond.and given_1 narrow_1).before args s = true
def lw_Q (_ : Array Value) (s : State) (o : Outcome) (t : State) : Prop := o = .returned (some (.int 1)) ∧ Framed s o t [] 600000 7302249
def lw_Z (below : List Frame) (a : Array Value) (s : State) : State → Prop := fun t => ∃ o, t.status = .running ∧ Ended t below o ∧ lw_Q a s o t
/-- the law's own end, with 1 on the stack, nothing written that was there before, its room as the claim has it -/
theorem lw_ret {p : Program} {l : Launch} {e : Env} {s : State} {m : MethodId} {below : List Frame} {meth : Method} {c : Code} {b : Nat} (hx : p.tables.exec = Jvm.exec) (hb : c.code = code) (hr : meth.sig.returnType = ret) (hlocks : meth.locks = false) {pc : Nat} {H : Heap} {ls : Array Slot} (hdg : decode code pc = .ok (.ireturn, 1)) : W p l e room_1 s m #[Value.ref b] below meth c H [] 600000 7302249 (lw_Z below #[Value.ref b] s) (F0 m pc ls [.int 1]) := by
  intro T hT X
  obtain ⟨fs, hret, hrun, hended, hW, hframe⟩ := X.leave (v := some (.int 1)) (hlocks := hlocks) (fun h => by rw [hr] at h; cases h)
  have hmeth' : T.vm.method? m = some meth := X.method'
  refine ⟨T.setFrames fs, ?_, .returned (some (.int 1)), hrun, hended, rfl, ⟨_, rfl⟩, hW, hframe⟩
  jvm_step X.here [X.here.top, hx, hb, hdg, hmeth', hr, ret, narrow_b1]
  (try refine ⟨rfl, ?_⟩); (try refine ⟨rfl, ?_⟩)
  first | (intro acts; rw [hret _ acts rfl rfl rfl]) | rw [hret _ _ rfl rfl rfl]
  exact Steps.refl _
/-- what holds at the law's entry: the machine, the code, the tables' words (any of lw_tbl by 'hts w (by decide +kernel)'), the script of L ints xs at the cell b, what the Statement gives of the start (any of its parts by flat_of_before) -/
def lw_At (p : Program) (s : State) (m : MethodId) (meth : Method) (c : Code) (b L : Nat) (xs : Nat → Int32) : Prop :=
  p.tables.exec = Jvm.exec ∧ c.code = code ∧ meth.sig.returnType = ret ∧ c.maxLocals = 4 ∧ s.vm.findClass R_law = some m.cls ∧ (∀ w ∈ lw_tbl, w.before #[Value.ref b] s = true) ∧ va_X b L xs s s.heap ∧ b < s.heap.size ∧ meth.locks = false ∧ (Jvm.Cond.and given_1 narrow_1).before #[Value.ref b] s = true
theorem kn_of {s : State} {args : Array Value} {own : String} {idx ci N : Nat} (h : LkN own idx ci N) (hts : ∀ w ∈ lw_u, w.before args s = true) : ∃ pr : ClassId × (Nat → Nat), ∀ q, vwCl[ci]? = some q → u_Kn s q.1 q.2.1 q.2.2 pr.1 pr.2 := by
  obtain ⟨C, T, ty0, hc, hin, _, _, hi, _⟩ := h
  obtain ⟨c, iS, hk⟩ := u_known (C := C) (T := T) (N := N) (n := N) hts hin (hts _ hi)
  exact ⟨(c, iS), fun q hq => by rw [hc] at hq; cases hq; exact hk⟩
theorem ncs_in : ∀ q ∈ ncs, Cond.not (.castable q.1 q.2) ∈ flatC (Jvm.Cond.and given_1 narrow_1) := by decide +kernel
/-- what the start gives: the classes, the arrays, the heap's size -/
theorem aG_start {s : State} {args : Array Value} (hts : ∀ w ∈ lw_u, w.before args s = true) (hgv : (Jvm.Cond.and given_1 narrow_1).before args s = true) : ∃ G : aG, G.2.1 = s.heap.size ∧ AGK G s := by
  have hs := flat_of_before _ hgv
  have hk : ∀ ci : Nat, ∃ pr : ClassId × (Nat → Nat), ∀ q, vwCl[ci]? = some q → u_Kn s q.1 q.2.1 q.2.2 pr.1 pr.2 := by
    intro ci
    match ci with
    | 0 => exact kn_of nw_X8_9 hts
    | 1 => exact kn_of nw_X2_53 hts
    | 2 => exact kn_of nw_X11_7 hts
    | 3 => exact kn_of nw_X11_54 hts
    | 4 => exact kn_of nw_X2_42 hts
    | 5 => exact kn_of nw_X11_45 hts
    | 6 => exact kn_of nw_X2_50 hts
    | 7 => exact kn_of nw_X11_23 hts
    | 8 => exact kn_of nw_X11_16 hts
    | 9 => exact kn_of nw_X2_47 hts
    | 10 => exact kn_of nw_X11_33 hts
    | 11 => exact kn_of nw_L_7 hts
    | 12 => exact kn_of nw_L_10 hts
    | k + 13 =>
      obtain ⟨pr, _⟩ := kn_of nw_X8_9 hts
      refine ⟨pr, fun q hq => ?_⟩
      obtain ⟨h, _⟩ := List.getElem?_eq_some_iff.mp hq
      exact absurd h (by show ¬ k + 13 < 13; omega)
  obtain ⟨cI, kI, compI, i1, i2, i3⟩ := Cond.arrayClass_spec (hts _ ac_int)
  obtain ⟨cB, kB, compB, b1, b2, b3⟩ := Cond.arrayClass_spec (hts _ ac_byte)
  obtain ⟨compQ, cQ, kQ, q1, q2, q3, q4, q5⟩ := Cond.arrayOver_spec (hts _ ao_Adder)
  refine ⟨((fun k => (Classical.choose (hk k)).1, fun k => (Classical.choose (hk k)).2), s.heap.size, cI, cB, cQ), rfl, ⟨fun c q hq => Classical.choose_spec (hk c) q hq, ?_⟩, fun q hq => va_Nc.of (hs _ (ncs_in q hq)), fun w hw hsp => spc_of hsp (hts w hw)⟩
  intro k q hq
  match k, hq with
  | 0, hq => cases hq; exact ⟨fun N z => ⟨(fun k h => by cases h), kI, i2, compI, i3⟩, i1⟩
  | 1, hq => cases hq; exact ⟨fun N z => ⟨(fun k h => by cases h), kB, b2, compB, b3⟩, b1⟩
  | 2, hq => cases hq; exact ⟨fun N z => ⟨(fun k h => by cases h), kQ, q3, compQ, q4⟩, kQ, compQ, q3, q4, q1, q5⟩
  | k + 3, hq => simp [gtys] at hq
/-- the script, as the law reads it; the law's own end -/
def SX (G : aG) (X : aX) (b L : Nat) (xs : Nat → Int32) : Prop := match X with
  | (_, _, _, _, s, _, _, _, _, _, _) => va_X b L xs s s.heap ∧ b < s.heap.size ∧ ¬ G.2.1 ≤ b
def EX (G : aG) (X : aX) (b : Nat) : Prop := match X with
  | (_, _, _, R, s, _, args, below, meth, _, Q) => G.2.1 = s.heap.size ∧ R = room_1 ∧ args = #[Value.ref b] ∧ Q = lw_Z below #[Value.ref b] s ∧ meth.sig.returnType = ret ∧ meth.locks = false
section rows
variable {l : Launch} {G : aG} {X : aX} {cc : ByteArray} {own nm : String} {nL : Nat} {R : Room} {cs ss cs' ss' pc b L : Nat} {xs : Nat → Int32} {lv : List (Option Value)} {st : List Value} {σ : aS}
theorem A_sld {i : Int32} (hX : AOk l G X cc own nm nL R) (hsx : SX G X b L xs) (d : decode cc pc = .ok (.iaload, 1)) (hin : vp_in i L) (k : AA G X cs ss (pc + 1) lv (.int (xs i.toNatClampNeg) :: st) σ) : AA G X cs ss pc lv (.int i :: .ref b :: st) σ := by
  obtain ⟨p, l', e, R', s, m, args, below, meth, c, Q⟩ := X
  obtain ⟨hx, hb, hml, hown, hts, hK, hb0, hnm, hll, hR⟩ := hX
  obtain ⟨h1, h2, h3⟩ := hsx
  intro H locs ls hH hS hL
  exact va_sld hx hb h1 h2 h3 hS hin d (k H locs ls hH hS hL)
theorem A_slen (hX : AOk l G X cc own nm nL R) (hsx : SX G X b L xs) (d : decode cc pc = .ok (.arraylength, 1)) (k : AA G X cs ss (pc + 1) lv (.int (nI L) :: st) σ) : AA G X cs ss pc lv (.ref b :: st) σ := by
  obtain ⟨p, l', e, R', s, m, args, below, meth, c, Q⟩ := X
  obtain ⟨hx, hb, hml, hown, hts, hK, hb0, hnm, hll, hR⟩ := hX
  obtain ⟨h1, h2, h3⟩ := hsx
  intro H locs ls hH hS hL
  exact va_slen hx hb h1 h2 h3 hS d (k H locs ls hH hS hL)
theorem A_wid (h1 : cs ≤ cs') (h2 : ss ≤ ss') (k : AA G X cs' ss' pc lv st σ) : AA G X cs ss pc lv st σ := by
  obtain ⟨p, l', e, R', s, m, args, below, meth, c, Q⟩ := X
  intro H locs ls hH hS hL
  exact W.widen h1 h2 (k H locs ls hH hS hL)
theorem A_end (hX : AOk l G X code own nm nL R) (hE : EX G X b) (h1 : cs ≤ 600000) (h2 : ss ≤ 7302249) (d : decode code pc = .ok (.ireturn, 1)) : AA G X cs ss pc lv [.int 1] σ := by
  obtain ⟨p, l', e, R', s, m, args, below, meth, c, Q⟩ := X
  obtain ⟨hx, hb, hml, hown, hts, hK, hb0, hnm, hll, hR⟩ := hX
  obtain ⟨hG, hR2, ha, hQ, hr, hl⟩ := hE
  subst hR2
  subst ha
  subst hQ
  intro H locs ls hH hS hL
  exact W.widen h1 h2 (va_forget (fun q hq => by have := hS.2.2 q hq; rw [← hG]; exact this) (lw_ret hx hb hr hl d))
end rows
