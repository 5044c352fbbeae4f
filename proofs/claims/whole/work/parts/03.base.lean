/-! the abstract store: the heap's size, and what its cells at and above G's base hold -/
abbrev aG : Type := va_G × Nat × (ClassId × ClassId × ClassId)
abbrev aS : Type := Nat × (Nat → Option va_E)
abbrev aX : Type := Program × Launch × Env × Room × State × MethodId × Array Value × List Frame × Method × Code × (State → Prop)
def gI (G : aG) : ClassId := G.2.2.1
def gB (G : aG) : ClassId := G.2.2.2.1
def gQ (G : aG) : ClassId := G.2.2.2.2
def aI (G : aG) (n : Nat) (f : Nat → Int32) : va_E := .inl (gI G, n, .inl f)
def aB (G : aG) (n : Nat) (f : Nat → Int32) : va_E := .inl (gB G, n, .inl f)
def aR (G : aG) (n : Nat) (f : Nat → Option Nat) : va_E := .inl (gQ G, n, .inr (.inr (.inr (.inr f))))
def aO (ci : Nat) (fs : List Value) : va_E := .inr (ci, fs)
def aSet (σ : aS) (a : Nat) (e : va_E) : aS := (σ.1, fun b => if b = a then some e else σ.2 b)
def aNew (σ : aS) (e : va_E) : aS := (σ.1 + 1, fun b => if b = σ.1 then some e else σ.2 b)
theorem aSet_s {σ : aS} {a : Nat} {e : va_E} : (aSet σ a e).2 a = some e := by simp [aSet]
theorem aSet_n {σ : aS} {a b : Nat} {e : va_E} (h : b ≠ a) : (aSet σ a e).2 b = σ.2 b := by simp [aSet, h]
theorem aNew_s {σ : aS} {e : va_E} : (aNew σ e).2 σ.1 = some e := by simp [aNew]
theorem aNew_n {σ : aS} {b : Nat} {e : va_E} (h : b ≠ σ.1) : (aNew σ e).2 b = σ.2 b := by simp [aNew, h]
def ncs : List (String × String) := [(RX0, RX4), (RX0, RX9), (RX0, RX6), (RX0, RX1), (RX4, RX9), (RX4, RX6), (RX4, RX1), (RX9, RX4), (RX9, RX6), (RX9, RX1), (RX6, RX4), (RX6, RX9), (RX6, RX1), (RX1, RX9), (RX1, RX6)]
def gtys (G : aG) : List (ClassId × FieldType) := [(gI G, .int), (gB G, .byte), (gQ G, .object RX0)]
def AGK (G : aG) (U : State) : Prop := va_K G.1 vwCl (gtys G) U ∧ (∀ q ∈ ncs, va_Nc q.1 q.2 U) ∧ ∀ w ∈ lw_u, spc w = true → va_Nw w U
theorem spc_use {w : Cond} (h : spc w = true) {A : Array Value} {U : State} (hz : va_Nw w U) : w.before A U = true := by
  cases w with
  | methodLinkNest => exact va_Nw.use rfl hz
  | fieldLinkNest => exact va_Nw.use rfl hz
  | castable => exact va_Nw.use rfl hz
  | arrayOver t =>
    cases t with
    | object C => exact va_AO.use hz
    | _ => simp [spc] at h
  | _ => simp [spc] at h
theorem spc_of {w : Cond} (h : spc w = true) {A : Array Value} {U : State} (hz : w.before A U = true) : va_Nw w U := by
  cases w with
  | methodLinkNest => exact va_Nw.of rfl hz
  | fieldLinkNest => exact va_Nw.of rfl hz
  | castable => exact va_Nw.of rfl hz
  | arrayOver t =>
    cases t with
    | object C => exact va_AO.of hz
    | _ => simp [spc] at h
  | _ => simp [spc] at h
theorem spc_same {w : Cond} (h : spc w = true) {u U : State} (hvm : u.vm = U.vm) (hz : va_Nw w u) : va_Nw w U := by
  cases w with
  | methodLinkNest => exact va_Nw.same rfl hvm hz
  | fieldLinkNest => exact va_Nw.same rfl hvm hz
  | castable => exact va_Nw.same rfl hvm hz
  | arrayOver t =>
    cases t with
    | object C => exact va_AO.moved (by rw [hvm]; exact Vm.Alike.refl _) hz
    | _ => simp [spc] at h
  | _ => simp [spc] at h
theorem AGK.same {G : aG} {u U : State} (hvm : u.vm = U.vm) (h : AGK G u) : AGK G U :=
  ⟨va_K.moved (by rw [hvm]; exact Vm.Alike.refl _) h.1, fun q hq => (h.2.1 q hq).moved (by rw [hvm]; exact Vm.Alike.refl _), fun w hw hs => spc_same hs hvm (h.2.2 w hw hs)⟩
theorem AGK.warm {G : aG} {s U : State} (hW : s.WarmedH U.vm) (h : AGK G s) : AGK G U := by
  refine ⟨va_K.moved hW.alike h.1, fun q hq => (h.2.1 q hq).moved hW.alike, fun w hw hs => ?_⟩
  have hz := h.2.2 w hw hs
  cases w with
  | methodLinkNest => exact va_Nw.warmM hW hz
  | fieldLinkNest => exact va_Nw.warmF hW hz
  | castable => exact va_Nw.warmC hW hz
  | arrayOver t =>
    cases t with
    | object C => exact va_AO.moved hW.alike hz
    | _ => simp [spc] at hs
  | _ => simp [spc] at hs
def AHP (G : aG) (σ : aS) (H : Heap) : Prop := H.size = σ.1 ∧ ∀ (a : Nat) (e : va_E), σ.2 a = some e → G.2.1 ≤ a ∧ va_at G.1 vwCl (a, e) H
abbrev aA (G : aG) : Nat → Prop := fun q => G.2.1 ≤ q
theorem AHP.set {G : aG} {σ : aS} {H H1 : Heap} {a : Nat} {e0 e : va_E} (h : AHP G σ H) (h0 : σ.2 a = some e0) (z : H1.size = H.size) (he : va_at G.1 vwCl (a, e) H1) (oq : ∀ q : Nat, q ≠ a → H1[q]? = H[q]?) : AHP G (aSet σ a e) H1 := by
  refine ⟨z.trans h.1, fun b x hx => ?_⟩
  by_cases hb : b = a
  · subst hb
    rw [aSet_s] at hx
    cases hx
    exact ⟨(h.2 b _ h0).1, he⟩
  · rw [aSet_n hb] at hx
    exact ⟨(h.2 b x hx).1, (h.2 b x hx).2.kept (oq b hb)⟩
theorem AHP.new {G : aG} {σ : aS} {H H1 : Heap} {e : va_E} (h : AHP G σ H) (hb : G.2.1 ≤ σ.1) (z : H1.size = H.size + 1) (he : va_at G.1 vwCl (H.size, e) H1) (oq : ∀ q : Nat, q < H.size → H1[q]? = H[q]?) : AHP G (aNew σ e) H1 := by
  refine ⟨by rw [z, h.1]; rfl, fun b x hx => ?_⟩
  by_cases hb' : b = σ.1
  · subst hb'
    rw [aNew_s] at hx
    cases hx
    exact ⟨hb, by rw [← h.1]; exact he⟩
  · rw [aNew_n hb'] at hx
    exact ⟨(h.2 b x hx).1, (h.2 b x hx).2.kept (oq b (h.2 b x hx).2.lt)⟩
/-- locals: what each holds, as far as it is known -/
def lgt : List (Option Value) → Nat → Option Value
  | [], _ => none
  | o :: _, 0 => o
  | _ :: t, i + 1 => lgt t i
def lst : List (Option Value) → Nat → Option Value → List (Option Value)
  | [], _, _ => []
  | _ :: t, 0, v => v :: t
  | o :: t, i + 1, v => o :: lst t i v
theorem lst_len : ∀ (lv : List (Option Value)) (i : Nat) (v : Option Value), (lst lv i v).length = lv.length
  | [], _, _ => rfl
  | _ :: _, 0, _ => rfl
  | _ :: t, i + 1, v => by simp [lst, lst_len t i v]
theorem lgt_lt : ∀ {lv : List (Option Value)} {i : Nat} {v : Value}, lgt lv i = some v → i < lv.length
  | [], _, _, h => by cases h
  | _ :: _, 0, _, _ => by simp
  | _ :: t, i + 1, _, h => by
    have := lgt_lt (lv := t) h
    simp only [List.length_cons]
    omega
theorem lgt_lst : ∀ (lv : List (Option Value)) (i j : Nat) (v : Option Value) (w : Value), lgt (lst lv i v) j = some w → (j = i ∧ v = some w) ∨ (j ≠ i ∧ lgt lv j = some w)
  | [], _, _, _, _, h => by cases h
  | _ :: _, 0, 0, _, _, h => .inl ⟨rfl, h⟩
  | _ :: _, 0, _ + 1, _, _, h => .inr ⟨by omega, h⟩
  | _ :: _, _ + 1, 0, _, _, h => .inr ⟨by omega, h⟩
  | _ :: t, i + 1, j + 1, v, w, h => by
    rcases lgt_lst t i j v w h with ⟨a, b⟩ | ⟨a, b⟩
    · exact .inl ⟨by omega, b⟩
    · exact .inr ⟨by omega, b⟩
/-- no long stands just ahead of local i -/
def lok (lv : List (Option Value)) (i : Nat) : Bool := match i with
  | 0 => true
  | j + 1 => match lgt lv j with
    | some (.long _) => false
    | some (.double _) => false
    | _ => true
def lpairs (lv : List (Option Value)) : List (Nat × Value) := (List.range lv.length).filterMap fun i => (lgt lv i).map fun v => (i, v)
theorem lpairs_mem {lv : List (Option Value)} {i : Nat} {v : Value} (h : lgt lv i = some v) : (i, v) ∈ lpairs lv :=
  List.mem_filterMap.mpr ⟨i, List.mem_range.mpr (lgt_lt h), by rw [h]; rfl⟩
theorem lpairs_of {lv : List (Option Value)} {q : Nat × Value} (h : q ∈ lpairs lv) : lgt lv q.1 = some q.2 := by
  obtain ⟨i, -, hi⟩ := List.mem_filterMap.mp h
  cases hg : lgt lv i with
  | none => rw [hg] at hi; cases hi
  | some v => rw [hg] at hi; cases hi; exact hg
def lo_has (ls : Array Slot) (lv : List (Option Value)) : Prop := lv_has ls lv.length (lpairs lv)
theorem lo_at {ls : Array Slot} {lv : List (Option Value)} (h : lo_has ls lv) {i : Nat} {v : Value} (hk : lgt lv i = some v) : ls[i]? = some (.val v) := h.2.2 (i, v) (lpairs_mem hk)
theorem lo_of {ls : Array Slot} {n : Nat} {l : List (Nat × Value)} (lv : List (Option Value)) (h : lv_has ls n l) (hn : lv.length = n) (hm : ∀ i v, lgt lv i = some v → (i, v) ∈ l) : lo_has ls lv := by
  subst hn
  exact ⟨h.1, h.2.1, fun q hq => h.2.2 q (hm q.1 q.2 (lpairs_of hq))⟩
theorem lo_st1 {ls : Array Slot} {lv : List (Option Value)} {i : Nat} {v : Value} (hc : v.category = 1) (hlt : i < lv.length) (hok : lok lv i = true) (h : lv_has ls lv.length ((i, v) :: (lpairs lv).filter (fun q => !(q.1 == i) && !(q.1 + 1 == i && q.2.category == 2)))) : lo_has ls (lst lv i (some v)) := by
  refine lo_of _ h (lst_len lv i (some v)) fun j w hj => ?_
  rcases lgt_lst lv i j (some v) w hj with ⟨rfl, hw⟩ | ⟨hne, hw⟩
  · cases hw
    exact List.mem_cons_self
  · refine List.mem_cons_of_mem _ (List.mem_filter.mpr ⟨lpairs_mem hw, ?_⟩)
    simp only [Bool.and_eq_true, Bool.not_eq_true', beq_eq_false_iff_ne, ne_eq, Bool.and_eq_false_iff]
    refine ⟨hne, ?_⟩
    by_cases h1 : j + 1 = i
    · subst h1
      right
      simp only [lok, hw] at hok
      cases w <;> first | (simp [Value.category]; done) | (simp at hok)
    · exact .inl h1
theorem lo_st2 {ls : Array Slot} {lv : List (Option Value)} {i : Nat} {v : Value} (hlt : i + 1 < lv.length) (hok : lok lv i = true) (h : lv_has ls lv.length ((i, v) :: (lpairs lv).filter (fun q => !(q.1 == i) && (!(q.1 == i + 1) && !(q.1 + 1 == i && q.2.category == 2))))) : lo_has ls (lst (lst lv i (some v)) (i + 1) none) := by
  refine lo_of _ h ((lst_len _ _ _).trans (lst_len lv i (some v))) fun j w hj => ?_
  rcases lgt_lst _ (i + 1) j none w hj with ⟨-, z⟩ | ⟨hn1, hw1⟩
  · cases z
  rcases lgt_lst lv i j (some v) w hw1 with ⟨e, z⟩ | ⟨hne, hw⟩
  · cases z
    rw [e]
    exact List.mem_cons_self
  · refine List.mem_cons_of_mem _ (List.mem_filter.mpr ⟨lpairs_mem hw, ?_⟩)
    simp only [Bool.and_eq_true, Bool.not_eq_true', beq_eq_false_iff_ne, ne_eq, Bool.and_eq_false_iff]
    refine ⟨hne, hn1, ?_⟩
    by_cases h1 : j + 1 = i
    · subst h1
      right
      simp only [lok, hw] at hok
      cases w <;> first | (simp [Value.category]; done) | (simp at hok)
    · exact .inl h1
/-- the locals at a method's entry -/
def lfv : List Value → List (Option Value)
  | [] => []
  | v :: t => if v.category = 2 then some v :: none :: lfv t else some v :: lfv t
def lEn (n : Nat) (av : List Value) : List (Option Value) := lfv av ++ List.replicate (n - (lfv av).length) none
theorem lgt_app : ∀ (a : List (Option Value)) (k i : Nat) (v : Value), lgt (a ++ List.replicate k none) i = some v → lgt a i = some v
  | [], k, i, v, h => by
    exfalso
    simp only [List.nil_append] at h
    induction k generalizing i with
    | zero => cases h
    | succ k ih =>
      rw [List.replicate_succ] at h
      cases i with
      | zero => cases h
      | succ i => exact ih i h
  | _ :: _, _, 0, _, h => h
  | _ :: t, k, i + 1, v, h => lgt_app t k i v h
theorem lfv_args : ∀ (av : List Value) (k i : Nat) (v : Value), lgt (lfv av) i = some v → (k + i, v) ∈ lv_args k av
  | [], _, _, _, h => by cases h
  | w :: t, k, i, v, h => by
    by_cases hc : w.category = 2
    · rw [lfv, if_pos hc] at h
      rw [lv_args, if_pos hc]
      match i, h with
      | 0, h => cases h; exact List.mem_cons_self
      | 1, h => cases h
      | i + 2, h =>
        have := lfv_args t (k + 2) i v h
        rw [show k + (i + 2) = k + 2 + i by omega]
        exact List.mem_cons_of_mem _ this
    · rw [lfv, if_neg hc] at h
      rw [lv_args, if_neg hc]
      match i, h with
      | 0, h => cases h; exact List.mem_cons_self
      | i + 1, h =>
        have := lfv_args t (k + 1) i v h
        rw [show k + (i + 1) = k + 1 + i by omega]
        exact List.mem_cons_of_mem _ this
theorem lg_sl_cons (w : Value) (t : List Value) : lg_sl (w :: t) = (if w.category = 2 then [.val w, .second] else [.val w]) ++ lg_sl t := rfl
theorem lfv_len : ∀ av : List Value, (lfv av).length = (lg_sl av).length
  | [] => rfl
  | w :: t => by
    have ih := lfv_len t
    rw [lg_sl_cons]
    by_cases hc : w.category = 2
    · rw [lfv, if_pos hc, if_pos hc]
      simp [ih]
    · rw [lfv, if_neg hc, if_neg hc]
      simp [ih]
theorem lEn_has {n : Nat} {av : List Value} (h : (lfv av).length ≤ n) : lo_has ((lg_sl av ++ List.replicate (n - (lg_sl av).length) Slot.unset).toArray) (lEn n av) := by
  refine lo_of _ (lv_entry av (by rw [← lfv_len]; exact h)) (by simp [lEn]; omega) fun i v hi => ?_
  have := lfv_args av 0 i v (lgt_app _ _ _ _ hi)
  rwa [Nat.zero_add] at this
/-- the judgement -/
def AA (G : aG) (X : aX) (cs ss pc : Nat) (lv : List (Option Value)) (st : List Value) (σ : aS) : Prop := match X with
  | (p, l, e, R, s, m, args, below, meth, c, Q) => ∀ (H : Heap) (locs : List Loc) (ls : Array Slot), AHP G σ H → va_S (aA G) s.heap H locs → lo_has ls lv → W p l e R s m args below meth c H locs cs ss Q (F0 m pc ls st)
/-- what holds all along a method's walk -/
def AOk (l : Launch) (G : aG) (X : aX) (cc : ByteArray) (own nm : String) (nL : Nat) (R : Room) : Prop := match X with
  | (p, l', _, R', s, m, args, _, meth, c, _) => p.tables.exec = Jvm.exec ∧ c.code = cc ∧ c.maxLocals = nL ∧ s.vm.findClass own = some m.cls ∧ (∀ w ∈ lw_u, w.before args s = true) ∧ AGK G s ∧ G.2.1 ≤ s.heap.size ∧ meth.name = nm ∧ l' = l ∧ R' = R
/-- a contract: with these arguments, over this store, the method returns, as P says of its answer and the new store -/
def rm_ (d mc ms : Nat) : Room := { frames := d, cells := mc, slots := ms, locals := 36 * d }
def Qm (G : aG) (P : Option Value → aS → Prop) : Array Value → State → Outcome → State → Prop := fun _ st o t => (∃ (r : Option Value) (σ' : aS), o = .returned r ∧ P r σ' ∧ AHP G σ' t.heap) ∧ va_F (aA G) st t
def wsM (y : MethodName) (cc : ByteArray) (nL : Nat) (ret : Option FieldType) : List Cond := .code y cc nL ret :: lw_g
def ACt (l : Launch) (G : aG) (y : MethodName) (cc : ByteArray) (nL : Nat) (ret : Option FieldType) (d mc ms : Nat) (av : List Value) (σ : aS) (P : Option Value → aS → Prop) : Prop :=
  Met l y (wsM y cc nL ret) (rm_ d mc ms) (fun v U => v = av.toArray ∧ AHP G σ U.heap ∧ AGK G U ∧ G.2.1 ≤ U.heap.size) (Qm G P) mc ms (aA G)
/-- a method's end -/
def ARt (G : aG) (X : aX) (P : Option Value → aS → Prop) (ret : Option FieldType) (mc ms : Nat) : Prop := match X with
  | (_, _, _, _, s, _, args, below, meth, _, Q) => Q = MQ below (Qm G P) args s mc ms (aA G) ∧ meth.sig.returnType = ret ∧ meth.locks = false
def iP (Q : Int32 → aS → Prop) : Option Value → aS → Prop := fun r σ' => ∃ x : Int32, r = some (.int x) ∧ Q x σ'
def jP (Q : Int64 → aS → Prop) : Option Value → aS → Prop := fun r σ' => ∃ x : Int64, r = some (.long x) ∧ Q x σ'
def vP (Q : aS → Prop) : Option Value → aS → Prop := fun r σ' => r = none ∧ Q σ'
def dP (v : Option Value) (σ : aS) : Option Value → aS → Prop := fun r σ' => r = v ∧ σ' = σ
theorem ACt.intro {l : Launch} {G : aG} {own nm : String} {y : MethodName} {cc : ByteArray} {nL n : Nat} {ret : Option FieldType} {d mc ms : Nat} {av : List Value} {σ : aS} {P : Option Value → aS → Prop} (hy : MkY y cc nL ret n) (ho : y.cls = own) (hnm : y.name = nm) (lv : List (Option Value)) (hlv : lEn nL av = lv) (hle : (lfv av).length ≤ nL)
    (body : ∀ X : aX, AOk l G X cc own nm nL (rm_ d mc ms) → ARt G X P ret mc ms → AA G X 0 0 0 lv [] σ) : ACt l G y cc nL ret d mc ms av σ P := by
  subst ho; subst hnm
  obtain ⟨hcode, hini, hmh, hn, hpl⟩ := hy
  refine Met.ofW (cc := cc) (maxL := nL) (ret := ret) hpl rfl ?_
  intro p e s m args below meth c s₁ B hml hv
  obtain ⟨rfl, hH, hK, hb0⟩ := hv
  have hts := atoms_spec (ws := wsM y cc nL ret) B.pre
  have hown : s.vm.findClass y.cls = some m.cls := findClass_of_methodNamed B.named
  have hin : meth.name = y.name := (name_of_methodNamed B.named B.method).1
  have hts' : ∀ w ∈ lw_u, w.before av.toArray s = true := fun w hw => by
    obtain ⟨h1, h2⟩ := List.mem_filter.mp hw
    by_cases hg : goodWord w = true
    · exact hts w (List.mem_cons_of_mem _ (List.mem_filter.mpr ⟨h1, hg⟩))
    · have hs : spc w = true := by
        simp only [uw, Bool.or_eq_true] at h2
        exact h2.resolve_left hg
      exact spc_use hs (hK.2.2 w hw hs)
  have hl := lEn_has (n := nL) (av := av) hle
  rw [lg_entry_eq]
  have h := body (p, l, e, (headSpec (wsM y cc nL ret) (rm_ d mc ms)).room, s, m, av.toArray, below, meth, c, MQ below (Qm G P) av.toArray s mc ms (aA G)) ⟨B.exec, B.bytes, hml, hown, hts', hK, hb0, hin, rfl, rfl⟩ ⟨rfl, B.returns, B.notSynchronized⟩
  exact h s.heap [] _ hH va_S.rf (hlv ▸ hl)
theorem ACt.weaken {l : Launch} {G : aG} {y : MethodName} {cc : ByteArray} {nL : Nat} {ret : Option FieldType} {d mc ms : Nat} {av : List Value} {σ : aS} {P P' : Option Value → aS → Prop} (h : ACt l G y cc nL ret d mc ms av σ P) (hP : ∀ r σ', P r σ' → P' r σ') : ACt l G y cc nL ret d mc ms av σ P' := by
  unfold ACt Met at h ⊢
  refine MetFree.mono h (fun _ _ h => h) (fun _ _ _ _ _ h => h) ?_
  rintro _ _ _ _ _ ⟨⟨⟨r, σ', h1, h2, h3⟩, h4⟩, h5⟩
  exact ⟨⟨⟨r, σ', h1, hP r σ' h2, h3⟩, h4⟩, h5⟩
section rows
variable {l : Launch} {G : aG} {X : aX} {cc : ByteArray} {own nm : String} {nL : Nat} {R : Room} {cs ss pc : Nat} {lv lv' : List (Option Value)} {st : List Value} {σ : aS}
/-! a row an instruction -/
theorem A_iconst {n : Int} {v : Int32} (hv : Int32.ofInt n = v) (hX : AOk l G X cc own nm nL R) (d : decode cc pc = .ok (.iconst n, 1)) (k : AA G X cs ss (pc + 1) lv (.int v :: st) σ) : AA G X cs ss pc lv (st) σ := by
  obtain ⟨p, l', e, R', s, m, args, below, meth, c, Q⟩ := X
  obtain ⟨hx, hb, hml, hown, hts, hK, hb0, hnm, hll, hR⟩ := hX
  intro H locs ls hH hS hL
  exact lv_iconst hx hb d hv (k H locs ls hH hS hL)
theorem A_bipush {n : Int} {v : Int32} (hv : (Int8.ofInt n).toInt32 = v) (hX : AOk l G X cc own nm nL R) (d : decode cc pc = .ok (.bipush n, 2)) (k : AA G X cs ss (pc + 2) lv (.int v :: st) σ) : AA G X cs ss pc lv (st) σ := by
  obtain ⟨p, l', e, R', s, m, args, below, meth, c, Q⟩ := X
  obtain ⟨hx, hb, hml, hown, hts, hK, hb0, hnm, hll, hR⟩ := hX
  intro H locs ls hH hS hL
  exact lv_bipush hx hb d hv (k H locs ls hH hS hL)
theorem A_sipush {n : Int} {v : Int32} (hv : (Int16.ofInt n).toInt32 = v) (hX : AOk l G X cc own nm nL R) (d : decode cc pc = .ok (.sipush n, 3)) (k : AA G X cs ss (pc + 3) lv (.int v :: st) σ) : AA G X cs ss pc lv (st) σ := by
  obtain ⟨p, l', e, R', s, m, args, below, meth, c, Q⟩ := X
  obtain ⟨hx, hb, hml, hown, hts, hK, hb0, hnm, hll, hR⟩ := hX
  intro H locs ls hH hS hL
  exact lv_sipush hx hb d hv (k H locs ls hH hS hL)
theorem A_ldc {idx : Nat} {v : Int32} (hw : Cond.constant own idx v ∈ lw_u) (hX : AOk l G X cc own nm nL R) (d : decode cc pc = .ok (.ldc idx, 2)) (k : AA G X cs ss (pc + 2) lv (.int v :: st) σ) : AA G X cs ss pc lv (st) σ := by
  obtain ⟨p, l', e, R', s, m, args, below, meth, c, Q⟩ := X
  obtain ⟨hx, hb, hml, hown, hts, hK, hb0, hnm, hll, hR⟩ := hX
  intro H locs ls hH hS hL
  exact lv_ldc hx hb hown (hts _ hw) d (k H locs ls hH hS hL)
theorem A_ldcw {idx : Nat} {v : Int32} (hw : Cond.constant own idx v ∈ lw_u) (hX : AOk l G X cc own nm nL R) (d : decode cc pc = .ok (.ldc_w idx, 3)) (k : AA G X cs ss (pc + 3) lv (.int v :: st) σ) : AA G X cs ss pc lv (st) σ := by
  obtain ⟨p, l', e, R', s, m, args, below, meth, c, Q⟩ := X
  obtain ⟨hx, hb, hml, hown, hts, hK, hb0, hnm, hll, hR⟩ := hX
  intro H locs ls hH hS hL
  exact lv_ldcw hx hb hown (hts _ hw) d (k H locs ls hH hS hL)
theorem A_ldc2 {idx : Nat} {v : Int64} (hw : Cond.constantLong own idx v ∈ lw_u) (hX : AOk l G X cc own nm nL R) (d : decode cc pc = .ok (.ldc2_w idx, 3)) (k : AA G X cs ss (pc + 3) lv (.long v :: st) σ) : AA G X cs ss pc lv (st) σ := by
  obtain ⟨p, l', e, R', s, m, args, below, meth, c, Q⟩ := X
  obtain ⟨hx, hb, hml, hown, hts, hK, hb0, hnm, hll, hR⟩ := hX
  intro H locs ls hH hS hL
  exact lv_ldc2 hx hb hown (hts _ hw) d (k H locs ls hH hS hL)
theorem A_null (hX : AOk l G X cc own nm nL R) (d : decode cc pc = .ok (.aconst_null, 1)) (k : AA G X cs ss (pc + 1) lv (.null :: st) σ) : AA G X cs ss pc lv (st) σ := by
  obtain ⟨p, l', e, R', s, m, args, below, meth, c, Q⟩ := X
  obtain ⟨hx, hb, hml, hown, hts, hK, hb0, hnm, hll, hR⟩ := hX
  intro H locs ls hH hS hL
  exact lv_null hx hb d (k H locs ls hH hS hL)
theorem A_iload_n {i : Fin 4} {x : Int32} (hl : lgt lv i = some (.int x)) (hX : AOk l G X cc own nm nL R) (d : decode cc pc = .ok (.iload_n i, 1)) (k : AA G X cs ss (pc + 1) lv (.int x :: st) σ) : AA G X cs ss pc lv (st) σ := by
  obtain ⟨p, l', e, R', s, m, args, below, meth, c, Q⟩ := X
  obtain ⟨hx, hb, hml, hown, hts, hK, hb0, hnm, hll, hR⟩ := hX
  intro H locs ls hH hS hL
  exact lv_iload_n hx hb d rfl (lo_at hL hl) (k H locs ls hH hS hL)
theorem A_iload {i : Nat} {x : Int32} (hl : lgt lv i = some (.int x)) (hX : AOk l G X cc own nm nL R) (d : decode cc pc = .ok (.iload i, 2)) (k : AA G X cs ss (pc + 2) lv (.int x :: st) σ) : AA G X cs ss pc lv (st) σ := by
  obtain ⟨p, l', e, R', s, m, args, below, meth, c, Q⟩ := X
  obtain ⟨hx, hb, hml, hown, hts, hK, hb0, hnm, hll, hR⟩ := hX
  intro H locs ls hH hS hL
  exact lv_iload hx hb d (lo_at hL hl) (k H locs ls hH hS hL)
theorem A_lload_n {i : Fin 4} {x : Int64} (hl : lgt lv i = some (.long x)) (hX : AOk l G X cc own nm nL R) (d : decode cc pc = .ok (.lload_n i, 1)) (k : AA G X cs ss (pc + 1) lv (.long x :: st) σ) : AA G X cs ss pc lv (st) σ := by
  obtain ⟨p, l', e, R', s, m, args, below, meth, c, Q⟩ := X
  obtain ⟨hx, hb, hml, hown, hts, hK, hb0, hnm, hll, hR⟩ := hX
  intro H locs ls hH hS hL
  exact lv_lload_n hx hb d rfl (lo_at hL hl) (k H locs ls hH hS hL)
theorem A_lload {i : Nat} {x : Int64} (hl : lgt lv i = some (.long x)) (hX : AOk l G X cc own nm nL R) (d : decode cc pc = .ok (.lload i, 2)) (k : AA G X cs ss (pc + 2) lv (.long x :: st) σ) : AA G X cs ss pc lv (st) σ := by
  obtain ⟨p, l', e, R', s, m, args, below, meth, c, Q⟩ := X
  obtain ⟨hx, hb, hml, hown, hts, hK, hb0, hnm, hll, hR⟩ := hX
  intro H locs ls hH hS hL
  exact lv_lload hx hb d (lo_at hL hl) (k H locs ls hH hS hL)
theorem A_aload_n {i : Fin 4} {x : Nat} (hl : lgt lv i = some (.ref x)) (hX : AOk l G X cc own nm nL R) (d : decode cc pc = .ok (.aload_n i, 1)) (k : AA G X cs ss (pc + 1) lv (.ref x :: st) σ) : AA G X cs ss pc lv (st) σ := by
  obtain ⟨p, l', e, R', s, m, args, below, meth, c, Q⟩ := X
  obtain ⟨hx, hb, hml, hown, hts, hK, hb0, hnm, hll, hR⟩ := hX
  intro H locs ls hH hS hL
  exact lv_aload_n hx hb d rfl (lo_at hL hl) (k H locs ls hH hS hL)
theorem A_aload {i : Nat} {x : Nat} (hl : lgt lv i = some (.ref x)) (hX : AOk l G X cc own nm nL R) (d : decode cc pc = .ok (.aload i, 2)) (k : AA G X cs ss (pc + 2) lv (.ref x :: st) σ) : AA G X cs ss pc lv (st) σ := by
  obtain ⟨p, l', e, R', s, m, args, below, meth, c, Q⟩ := X
  obtain ⟨hx, hb, hml, hown, hts, hK, hb0, hnm, hll, hR⟩ := hX
  intro H locs ls hH hS hL
  exact lv_aload hx hb d (lo_at hL hl) (k H locs ls hH hS hL)
theorem A_aload_nN {i : Fin 4} (hl : lgt lv i = some .null) (hX : AOk l G X cc own nm nL R) (d : decode cc pc = .ok (.aload_n i, 1)) (k : AA G X cs ss (pc + 1) lv (.null :: st) σ) : AA G X cs ss pc lv (st) σ := by
  obtain ⟨p, l', e, R', s, m, args, below, meth, c, Q⟩ := X
  obtain ⟨hx, hb, hml, hown, hts, hK, hb0, hnm, hll, hR⟩ := hX
  intro H locs ls hH hS hL
  exact lv_aload_nN hx hb d rfl (lo_at hL hl) (k H locs ls hH hS hL)
theorem A_aloadN {i : Nat} (hl : lgt lv i = some .null) (hX : AOk l G X cc own nm nL R) (d : decode cc pc = .ok (.aload i, 2)) (k : AA G X cs ss (pc + 2) lv (.null :: st) σ) : AA G X cs ss pc lv (st) σ := by
  obtain ⟨p, l', e, R', s, m, args, below, meth, c, Q⟩ := X
  obtain ⟨hx, hb, hml, hown, hts, hK, hb0, hnm, hll, hR⟩ := hX
  intro H locs ls hH hS hL
  exact lv_aloadN hx hb d (lo_at hL hl) (k H locs ls hH hS hL)
theorem A_istore_n {i : Fin 4} {x : Int32} (hX : AOk l G X cc own nm nL R) (d : decode cc pc = .ok (.istore_n i, 1)) (hlt : (i : Nat) < lv.length) (hok : lok lv i = true) (he : lst lv i (some (.int x)) = lv') (k : AA G X cs ss (pc + 1) lv' st σ) : AA G X cs ss pc lv (.int x :: st) σ := by
  obtain ⟨p, l', e, R', s, m, args, below, meth, c, Q⟩ := X
  obtain ⟨hx, hb, hml, hown, hts, hK, hb0, hnm, hll, hR⟩ := hX
  subst he
  intro H locs ls hH hS hL
  exact lv_istore_n hx hb d rfl hL hlt rfl fun ls' h => k H locs ls' hH hS (lo_st1 rfl hlt hok h)
theorem A_istore {i : Nat} {x : Int32} (hX : AOk l G X cc own nm nL R) (d : decode cc pc = .ok (.istore i, 2)) (hlt : (i : Nat) < lv.length) (hok : lok lv i = true) (he : lst lv i (some (.int x)) = lv') (k : AA G X cs ss (pc + 2) lv' st σ) : AA G X cs ss pc lv (.int x :: st) σ := by
  obtain ⟨p, l', e, R', s, m, args, below, meth, c, Q⟩ := X
  obtain ⟨hx, hb, hml, hown, hts, hK, hb0, hnm, hll, hR⟩ := hX
  subst he
  intro H locs ls hH hS hL
  exact lv_istore hx hb d  hL hlt rfl fun ls' h => k H locs ls' hH hS (lo_st1 rfl hlt hok h)
theorem A_astore_n {i : Fin 4} {x : Nat} (hX : AOk l G X cc own nm nL R) (d : decode cc pc = .ok (.astore_n i, 1)) (hlt : (i : Nat) < lv.length) (hok : lok lv i = true) (he : lst lv i (some (.ref x)) = lv') (k : AA G X cs ss (pc + 1) lv' st σ) : AA G X cs ss pc lv (.ref x :: st) σ := by
  obtain ⟨p, l', e, R', s, m, args, below, meth, c, Q⟩ := X
  obtain ⟨hx, hb, hml, hown, hts, hK, hb0, hnm, hll, hR⟩ := hX
  subst he
  intro H locs ls hH hS hL
  exact lv_astore_n hx hb d rfl hL hlt rfl fun ls' h => k H locs ls' hH hS (lo_st1 rfl hlt hok h)
theorem A_astore {i : Nat} {x : Nat} (hX : AOk l G X cc own nm nL R) (d : decode cc pc = .ok (.astore i, 2)) (hlt : (i : Nat) < lv.length) (hok : lok lv i = true) (he : lst lv i (some (.ref x)) = lv') (k : AA G X cs ss (pc + 2) lv' st σ) : AA G X cs ss pc lv (.ref x :: st) σ := by
  obtain ⟨p, l', e, R', s, m, args, below, meth, c, Q⟩ := X
  obtain ⟨hx, hb, hml, hown, hts, hK, hb0, hnm, hll, hR⟩ := hX
  subst he
  intro H locs ls hH hS hL
  exact lv_astore hx hb d  hL hlt rfl fun ls' h => k H locs ls' hH hS (lo_st1 rfl hlt hok h)
theorem A_astore_nN {i : Fin 4} (hX : AOk l G X cc own nm nL R) (d : decode cc pc = .ok (.astore_n i, 1)) (hlt : (i : Nat) < lv.length) (hok : lok lv i = true) (he : lst lv i (some (.null)) = lv') (k : AA G X cs ss (pc + 1) lv' st σ) : AA G X cs ss pc lv (.null :: st) σ := by
  obtain ⟨p, l', e, R', s, m, args, below, meth, c, Q⟩ := X
  obtain ⟨hx, hb, hml, hown, hts, hK, hb0, hnm, hll, hR⟩ := hX
  subst he
  intro H locs ls hH hS hL
  exact lv_astore_nN hx hb d rfl hL hlt rfl fun ls' h => k H locs ls' hH hS (lo_st1 rfl hlt hok h)
theorem A_astoreN {i : Nat} (hX : AOk l G X cc own nm nL R) (d : decode cc pc = .ok (.astore i, 2)) (hlt : (i : Nat) < lv.length) (hok : lok lv i = true) (he : lst lv i (some (.null)) = lv') (k : AA G X cs ss (pc + 2) lv' st σ) : AA G X cs ss pc lv (.null :: st) σ := by
  obtain ⟨p, l', e, R', s, m, args, below, meth, c, Q⟩ := X
  obtain ⟨hx, hb, hml, hown, hts, hK, hb0, hnm, hll, hR⟩ := hX
  subst he
  intro H locs ls hH hS hL
  exact lv_astoreN hx hb d  hL hlt rfl fun ls' h => k H locs ls' hH hS (lo_st1 rfl hlt hok h)
theorem A_lstore_n {i : Fin 4} {x : Int64} (hX : AOk l G X cc own nm nL R) (d : decode cc pc = .ok (.lstore_n i, 1)) (hlt : (i + 1 : Nat) < lv.length) (hok : lok lv i = true) (he : lst (lst lv i (some (.long x))) (i + 1) none = lv') (k : AA G X cs ss (pc + 1) lv' st σ) : AA G X cs ss pc lv (.long x :: st) σ := by
  obtain ⟨p, l', e, R', s, m, args, below, meth, c, Q⟩ := X
  obtain ⟨hx, hb, hml, hown, hts, hK, hb0, hnm, hll, hR⟩ := hX
  subst he
  intro H locs ls hH hS hL
  exact lv_lstore_n hx hb d rfl hL hlt rfl fun ls' h => k H locs ls' hH hS (lo_st2 hlt hok h)
theorem A_lstore {i : Nat} {x : Int64} (hX : AOk l G X cc own nm nL R) (d : decode cc pc = .ok (.lstore i, 2)) (hlt : (i + 1 : Nat) < lv.length) (hok : lok lv i = true) (he : lst (lst lv i (some (.long x))) (i + 1) none = lv') (k : AA G X cs ss (pc + 2) lv' st σ) : AA G X cs ss pc lv (.long x :: st) σ := by
  obtain ⟨p, l', e, R', s, m, args, below, meth, c, Q⟩ := X
  obtain ⟨hx, hb, hml, hown, hts, hK, hb0, hnm, hll, hR⟩ := hX
  subst he
  intro H locs ls hH hS hL
  exact lv_lstore hx hb d  hL hlt rfl fun ls' h => k H locs ls' hH hS (lo_st2 hlt hok h)
theorem lpairs_at {lv : List (Option Value)} {i : Nat} {v : Value} (h : lgt lv i = some v) : ∃ k : Nat, (lpairs lv)[k]? = some (i, v) := List.getElem?_of_mem (lpairs_mem h)
theorem A_iinc {i : Nat} {n : Int} {x v : Int32} (hX : AOk l G X cc own nm nL R) (d : decode cc pc = .ok (.iinc i n, 3)) (hl : lgt lv i = some (.int x)) (hv : x + Int32.ofInt n = v) (hok : lok lv i = true) (he : lst lv i (some (.int v)) = lv') (k : AA G X cs ss (pc + 3) lv' st σ) : AA G X cs ss pc lv st σ := by
  obtain ⟨p, l', e, R', s, m, args, below, meth, c, Q⟩ := X
  obtain ⟨hx, hb, hml, hown, hts, hK, hb0, hnm, hll, hR⟩ := hX
  subst he
  intro H locs ls hH hS hL
  obtain ⟨kk, hk⟩ := lpairs_at hl
  exact lv_iinc hx hb d hL hk hv (lgt_lt hl) rfl fun ls' h => k H locs ls' hH hS (lo_st1 rfl (lgt_lt hl) hok h)
theorem A_iadd {x y : Int32} (hX : AOk l G X cc own nm nL R) (d : decode cc pc = .ok (.iadd, 1)) (k : AA G X cs ss (pc + 1) lv (.int (x + y) :: st) σ) : AA G X cs ss pc lv (.int y :: .int x :: st) σ := by
  obtain ⟨p, l', e, R', s, m, args, below, meth, c, Q⟩ := X
  obtain ⟨hx, hb, hml, hown, hts, hK, hb0, hnm, hll, hR⟩ := hX
  intro H locs ls hH hS hL
  exact lv_iadd hx hb d (k H locs ls hH hS hL)
theorem A_isub {x y : Int32} (hX : AOk l G X cc own nm nL R) (d : decode cc pc = .ok (.isub, 1)) (k : AA G X cs ss (pc + 1) lv (.int (x - y) :: st) σ) : AA G X cs ss pc lv (.int y :: .int x :: st) σ := by
  obtain ⟨p, l', e, R', s, m, args, below, meth, c, Q⟩ := X
  obtain ⟨hx, hb, hml, hown, hts, hK, hb0, hnm, hll, hR⟩ := hX
  intro H locs ls hH hS hL
  exact lv_isub hx hb d (k H locs ls hH hS hL)
theorem A_imul {x y : Int32} (hX : AOk l G X cc own nm nL R) (d : decode cc pc = .ok (.imul, 1)) (k : AA G X cs ss (pc + 1) lv (.int (x * y) :: st) σ) : AA G X cs ss pc lv (.int y :: .int x :: st) σ := by
  obtain ⟨p, l', e, R', s, m, args, below, meth, c, Q⟩ := X
  obtain ⟨hx, hb, hml, hown, hts, hK, hb0, hnm, hll, hR⟩ := hX
  intro H locs ls hH hS hL
  exact lv_imul hx hb d (k H locs ls hH hS hL)
theorem A_iand {x y : Int32} (hX : AOk l G X cc own nm nL R) (d : decode cc pc = .ok (.iand, 1)) (k : AA G X cs ss (pc + 1) lv (.int (x &&& y) :: st) σ) : AA G X cs ss pc lv (.int y :: .int x :: st) σ := by
  obtain ⟨p, l', e, R', s, m, args, below, meth, c, Q⟩ := X
  obtain ⟨hx, hb, hml, hown, hts, hK, hb0, hnm, hll, hR⟩ := hX
  intro H locs ls hH hS hL
  exact lv_iand hx hb d (k H locs ls hH hS hL)
theorem A_ior {x y : Int32} (hX : AOk l G X cc own nm nL R) (d : decode cc pc = .ok (.ior, 1)) (k : AA G X cs ss (pc + 1) lv (.int (x ||| y) :: st) σ) : AA G X cs ss pc lv (.int y :: .int x :: st) σ := by
  obtain ⟨p, l', e, R', s, m, args, below, meth, c, Q⟩ := X
  obtain ⟨hx, hb, hml, hown, hts, hK, hb0, hnm, hll, hR⟩ := hX
  intro H locs ls hH hS hL
  exact lv_ior hx hb d (k H locs ls hH hS hL)
theorem A_ixor {x y : Int32} (hX : AOk l G X cc own nm nL R) (d : decode cc pc = .ok (.ixor, 1)) (k : AA G X cs ss (pc + 1) lv (.int (x ^^^ y) :: st) σ) : AA G X cs ss pc lv (.int y :: .int x :: st) σ := by
  obtain ⟨p, l', e, R', s, m, args, below, meth, c, Q⟩ := X
  obtain ⟨hx, hb, hml, hown, hts, hK, hb0, hnm, hll, hR⟩ := hX
  intro H locs ls hH hS hL
  exact lv_ixor hx hb d (k H locs ls hH hS hL)
theorem A_ishl {x y : Int32} (hX : AOk l G X cc own nm nL R) (d : decode cc pc = .ok (.ishl, 1)) (k : AA G X cs ss (pc + 1) lv (.int (x <<< (y &&& 31)) :: st) σ) : AA G X cs ss pc lv (.int y :: .int x :: st) σ := by
  obtain ⟨p, l', e, R', s, m, args, below, meth, c, Q⟩ := X
  obtain ⟨hx, hb, hml, hown, hts, hK, hb0, hnm, hll, hR⟩ := hX
  intro H locs ls hH hS hL
  exact lv_ishl hx hb d (k H locs ls hH hS hL)
theorem A_ishr {x y : Int32} (hX : AOk l G X cc own nm nL R) (d : decode cc pc = .ok (.ishr, 1)) (k : AA G X cs ss (pc + 1) lv (.int (x >>> (y &&& 31)) :: st) σ) : AA G X cs ss pc lv (.int y :: .int x :: st) σ := by
  obtain ⟨p, l', e, R', s, m, args, below, meth, c, Q⟩ := X
  obtain ⟨hx, hb, hml, hown, hts, hK, hb0, hnm, hll, hR⟩ := hX
  intro H locs ls hH hS hL
  exact lv_ishr hx hb d (k H locs ls hH hS hL)
theorem A_ladd {x y : Int64} (hX : AOk l G X cc own nm nL R) (d : decode cc pc = .ok (.ladd, 1)) (k : AA G X cs ss (pc + 1) lv (.long (x + y) :: st) σ) : AA G X cs ss pc lv (.long y :: .long x :: st) σ := by
  obtain ⟨p, l', e, R', s, m, args, below, meth, c, Q⟩ := X
  obtain ⟨hx, hb, hml, hown, hts, hK, hb0, hnm, hll, hR⟩ := hX
  intro H locs ls hH hS hL
  exact lv_ladd hx hb d (k H locs ls hH hS hL)
theorem A_lsub {x y : Int64} (hX : AOk l G X cc own nm nL R) (d : decode cc pc = .ok (.lsub, 1)) (k : AA G X cs ss (pc + 1) lv (.long (x - y) :: st) σ) : AA G X cs ss pc lv (.long y :: .long x :: st) σ := by
  obtain ⟨p, l', e, R', s, m, args, below, meth, c, Q⟩ := X
  obtain ⟨hx, hb, hml, hown, hts, hK, hb0, hnm, hll, hR⟩ := hX
  intro H locs ls hH hS hL
  exact lv_lsub hx hb d (k H locs ls hH hS hL)
theorem A_lmul {x y : Int64} (hX : AOk l G X cc own nm nL R) (d : decode cc pc = .ok (.lmul, 1)) (k : AA G X cs ss (pc + 1) lv (.long (x * y) :: st) σ) : AA G X cs ss pc lv (.long y :: .long x :: st) σ := by
  obtain ⟨p, l', e, R', s, m, args, below, meth, c, Q⟩ := X
  obtain ⟨hx, hb, hml, hown, hts, hK, hb0, hnm, hll, hR⟩ := hX
  intro H locs ls hH hS hL
  exact lv_lmul hx hb d (k H locs ls hH hS hL)
theorem A_land {x y : Int64} (hX : AOk l G X cc own nm nL R) (d : decode cc pc = .ok (.land, 1)) (k : AA G X cs ss (pc + 1) lv (.long (x &&& y) :: st) σ) : AA G X cs ss pc lv (.long y :: .long x :: st) σ := by
  obtain ⟨p, l', e, R', s, m, args, below, meth, c, Q⟩ := X
  obtain ⟨hx, hb, hml, hown, hts, hK, hb0, hnm, hll, hR⟩ := hX
  intro H locs ls hH hS hL
  exact lv_land hx hb d (k H locs ls hH hS hL)
theorem A_idiv {x y : Int32} (hne : ¬ y = 0) (hX : AOk l G X cc own nm nL R) (d : decode cc pc = .ok (.idiv, 1)) (k : AA G X cs ss (pc + 1) lv (.int (x / y) :: st) σ) : AA G X cs ss pc lv (.int y :: .int x :: st) σ := by
  obtain ⟨p, l', e, R', s, m, args, below, meth, c, Q⟩ := X
  obtain ⟨hx, hb, hml, hown, hts, hK, hb0, hnm, hll, hR⟩ := hX
  intro H locs ls hH hS hL
  exact lv_idiv hx hb d hne (k H locs ls hH hS hL)
theorem A_irem {x y : Int32} (hne : ¬ y = 0) (hX : AOk l G X cc own nm nL R) (d : decode cc pc = .ok (.irem, 1)) (k : AA G X cs ss (pc + 1) lv (.int (x - x / y * y) :: st) σ) : AA G X cs ss pc lv (.int y :: .int x :: st) σ := by
  obtain ⟨p, l', e, R', s, m, args, below, meth, c, Q⟩ := X
  obtain ⟨hx, hb, hml, hown, hts, hK, hb0, hnm, hll, hR⟩ := hX
  intro H locs ls hH hS hL
  exact lv_irem hx hb d hne (k H locs ls hH hS hL)
theorem A_ldiv {x y : Int64} (hne : ¬ y = 0) (hX : AOk l G X cc own nm nL R) (d : decode cc pc = .ok (.ldiv, 1)) (k : AA G X cs ss (pc + 1) lv (.long (x / y) :: st) σ) : AA G X cs ss pc lv (.long y :: .long x :: st) σ := by
  obtain ⟨p, l', e, R', s, m, args, below, meth, c, Q⟩ := X
  obtain ⟨hx, hb, hml, hown, hts, hK, hb0, hnm, hll, hR⟩ := hX
  intro H locs ls hH hS hL
  exact lv_ldiv hx hb d hne (k H locs ls hH hS hL)
theorem A_lrem {x y : Int64} (hne : ¬ y = 0) (hX : AOk l G X cc own nm nL R) (d : decode cc pc = .ok (.lrem, 1)) (k : AA G X cs ss (pc + 1) lv (.long (x - x / y * y) :: st) σ) : AA G X cs ss pc lv (.long y :: .long x :: st) σ := by
  obtain ⟨p, l', e, R', s, m, args, below, meth, c, Q⟩ := X
  obtain ⟨hx, hb, hml, hown, hts, hK, hb0, hnm, hll, hR⟩ := hX
  intro H locs ls hH hS hL
  exact lv_lrem hx hb d hne (k H locs ls hH hS hL)
theorem A_iushr {x y : Int32} (hX : AOk l G X cc own nm nL R) (d : decode cc pc = .ok (.iushr, 1)) (k : AA G X cs ss (pc + 1) lv (.int ((x.toUInt32 >>> (y.toUInt32 &&& Int32.toUInt32 31)).toInt32) :: st) σ) : AA G X cs ss pc lv (.int y :: .int x :: st) σ := by
  obtain ⟨p, l', e, R', s, m, args, below, meth, c, Q⟩ := X
  obtain ⟨hx, hb, hml, hown, hts, hK, hb0, hnm, hll, hR⟩ := hX
  intro H locs ls hH hS hL
  exact lv_iushr hx hb d rfl (k H locs ls hH hS hL)
theorem A_i2l {x : Int32} (hX : AOk l G X cc own nm nL R) (d : decode cc pc = .ok (.i2l, 1)) (k : AA G X cs ss (pc + 1) lv (.long x.toInt64 :: st) σ) : AA G X cs ss pc lv (.int x :: st) σ := by
  obtain ⟨p, l', e, R', s, m, args, below, meth, c, Q⟩ := X
  obtain ⟨hx, hb, hml, hown, hts, hK, hb0, hnm, hll, hR⟩ := hX
  intro H locs ls hH hS hL
  exact lv_i2l hx hb d rfl (k H locs ls hH hS hL)
theorem A_l2i {x : Int64} (hX : AOk l G X cc own nm nL R) (d : decode cc pc = .ok (.l2i, 1)) (k : AA G X cs ss (pc + 1) lv (.int x.toInt32 :: st) σ) : AA G X cs ss pc lv (.long x :: st) σ := by
  obtain ⟨p, l', e, R', s, m, args, below, meth, c, Q⟩ := X
  obtain ⟨hx, hb, hml, hown, hts, hK, hb0, hnm, hll, hR⟩ := hX
  intro H locs ls hH hS hL
  exact lv_l2i hx hb d rfl (k H locs ls hH hS hL)
theorem A_i2b {x : Int32} (hX : AOk l G X cc own nm nL R) (d : decode cc pc = .ok (.i2b, 1)) (k : AA G X cs ss (pc + 1) lv (.int x.toInt8.toInt32 :: st) σ) : AA G X cs ss pc lv (.int x :: st) σ := by
  obtain ⟨p, l', e, R', s, m, args, below, meth, c, Q⟩ := X
  obtain ⟨hx, hb, hml, hown, hts, hK, hb0, hnm, hll, hR⟩ := hX
  intro H locs ls hH hS hL
  exact lv_i2b hx hb d rfl (k H locs ls hH hS hL)
theorem A_lcmp {x y : Int64} (hX : AOk l G X cc own nm nL R) (d : decode cc pc = .ok (.lcmp, 1)) (k : AA G X cs ss (pc + 1) lv (.int (lg_cmp x y) :: st) σ) : AA G X cs ss pc lv (.long y :: .long x :: st) σ := by
  obtain ⟨p, l', e, R', s, m, args, below, meth, c, Q⟩ := X
  obtain ⟨hx, hb, hml, hown, hts, hK, hb0, hnm, hll, hR⟩ := hX
  intro H locs ls hH hS hL
  exact W.lcmp hx hb d (k H locs ls hH hS hL)
theorem A_dup {v : Value} (hc : v.category = 1) (hX : AOk l G X cc own nm nL R) (d : decode cc pc = .ok (.dup, 1)) (k : AA G X cs ss (pc + 1) lv (v :: v :: st) σ) : AA G X cs ss pc lv (v :: st) σ := by
  obtain ⟨p, l', e, R', s, m, args, below, meth, c, Q⟩ := X
  obtain ⟨hx, hb, hml, hown, hts, hK, hb0, hnm, hll, hR⟩ := hX
  intro H locs ls hH hS hL
  exact lv_dup hx hb d hc (k H locs ls hH hS hL)
theorem A_dup2 {v w : Value} (hv : v.category = 1) (hw : w.category = 1) (hX : AOk l G X cc own nm nL R) (d : decode cc pc = .ok (.dup2, 1)) (k : AA G X cs ss (pc + 1) lv (v :: w :: v :: w :: st) σ) : AA G X cs ss pc lv (v :: w :: st) σ := by
  obtain ⟨p, l', e, R', s, m, args, below, meth, c, Q⟩ := X
  obtain ⟨hx, hb, hml, hown, hts, hK, hb0, hnm, hll, hR⟩ := hX
  intro H locs ls hH hS hL
  exact lv_dup2_11 hx hb d hv hw (k H locs ls hH hS hL)
theorem A_goto {off : Int} (tgt : Nat) (hX : AOk l G X cc own nm nL R) (d : decode cc pc = .ok (.goto off, 3)) (ht : (pc : Int) + off = (tgt : Int)) (k : AA G X cs ss tgt lv st σ) : AA G X cs ss pc lv st σ := by
  obtain ⟨p, l', e, R', s, m, args, below, meth, c, Q⟩ := X
  obtain ⟨hx, hb, hml, hown, hts, hK, hb0, hnm, hll, hR⟩ := hX
  intro H locs ls hH hS hL
  exact lv_goto hx hb d ht (k H locs ls hH hS hL)
theorem A_if_eq {x : Int32} {off : Int} (tgt : Nat) (hX : AOk l G X cc own nm nL R) (d : decode cc pc = .ok (.ifCond .eq off, 3)) (ht : (pc : Int) + off = (tgt : Int)) (kt : x = 0 → AA G X cs ss tgt lv st σ) (kf : ¬ x = 0 → AA G X cs ss (pc + 3) lv st σ) : AA G X cs ss pc lv (.int x :: st) σ := by
  obtain ⟨p, l', e, R', s, m, args, below, meth, c, Q⟩ := X
  obtain ⟨hx, hb, hml, hown, hts, hK, hb0, hnm, hll, hR⟩ := hX
  intro H locs ls hH hS hL
  exact lv_if_eq hx hb d ht (fun q => kt (by first | exact q | simpa using q) H locs ls hH hS hL) (fun q => kf (by first | exact q | simpa using q) H locs ls hH hS hL)
theorem A_icmp_eq {x y : Int32} {off : Int} (tgt : Nat) (hX : AOk l G X cc own nm nL R) (d : decode cc pc = .ok (.if_icmp .eq off, 3)) (ht : (pc : Int) + off = (tgt : Int)) (kt : x = y → AA G X cs ss tgt lv st σ) (kf : ¬ x = y → AA G X cs ss (pc + 3) lv st σ) : AA G X cs ss pc lv (.int y :: .int x :: st) σ := by
  obtain ⟨p, l', e, R', s, m, args, below, meth, c, Q⟩ := X
  obtain ⟨hx, hb, hml, hown, hts, hK, hb0, hnm, hll, hR⟩ := hX
  intro H locs ls hH hS hL
  exact lv_icmp_eq hx hb d ht (fun q => kt (by first | exact q | simpa using q) H locs ls hH hS hL) (fun q => kf (by first | exact q | simpa using q) H locs ls hH hS hL)
theorem A_if_ne {x : Int32} {off : Int} (tgt : Nat) (hX : AOk l G X cc own nm nL R) (d : decode cc pc = .ok (.ifCond .ne off, 3)) (ht : (pc : Int) + off = (tgt : Int)) (kt : ¬ x = 0 → AA G X cs ss tgt lv st σ) (kf : x = 0 → AA G X cs ss (pc + 3) lv st σ) : AA G X cs ss pc lv (.int x :: st) σ := by
  obtain ⟨p, l', e, R', s, m, args, below, meth, c, Q⟩ := X
  obtain ⟨hx, hb, hml, hown, hts, hK, hb0, hnm, hll, hR⟩ := hX
  intro H locs ls hH hS hL
  exact lv_if_ne hx hb d ht (fun q => kt (by first | exact q | simpa using q) H locs ls hH hS hL) (fun q => kf (by first | exact q | simpa using q) H locs ls hH hS hL)
theorem A_icmp_ne {x y : Int32} {off : Int} (tgt : Nat) (hX : AOk l G X cc own nm nL R) (d : decode cc pc = .ok (.if_icmp .ne off, 3)) (ht : (pc : Int) + off = (tgt : Int)) (kt : ¬ x = y → AA G X cs ss tgt lv st σ) (kf : x = y → AA G X cs ss (pc + 3) lv st σ) : AA G X cs ss pc lv (.int y :: .int x :: st) σ := by
  obtain ⟨p, l', e, R', s, m, args, below, meth, c, Q⟩ := X
  obtain ⟨hx, hb, hml, hown, hts, hK, hb0, hnm, hll, hR⟩ := hX
  intro H locs ls hH hS hL
  exact lv_icmp_ne hx hb d ht (fun q => kt (by first | exact q | simpa using q) H locs ls hH hS hL) (fun q => kf (by first | exact q | simpa using q) H locs ls hH hS hL)
theorem A_if_lt {x : Int32} {off : Int} (tgt : Nat) (hX : AOk l G X cc own nm nL R) (d : decode cc pc = .ok (.ifCond .lt off, 3)) (ht : (pc : Int) + off = (tgt : Int)) (kt : x < 0 → AA G X cs ss tgt lv st σ) (kf : ¬ x < 0 → AA G X cs ss (pc + 3) lv st σ) : AA G X cs ss pc lv (.int x :: st) σ := by
  obtain ⟨p, l', e, R', s, m, args, below, meth, c, Q⟩ := X
  obtain ⟨hx, hb, hml, hown, hts, hK, hb0, hnm, hll, hR⟩ := hX
  intro H locs ls hH hS hL
  exact lv_if_lt hx hb d ht (fun q => kt (by first | exact q | simpa using q) H locs ls hH hS hL) (fun q => kf (by first | exact q | simpa using q) H locs ls hH hS hL)
theorem A_icmp_lt {x y : Int32} {off : Int} (tgt : Nat) (hX : AOk l G X cc own nm nL R) (d : decode cc pc = .ok (.if_icmp .lt off, 3)) (ht : (pc : Int) + off = (tgt : Int)) (kt : x < y → AA G X cs ss tgt lv st σ) (kf : ¬ x < y → AA G X cs ss (pc + 3) lv st σ) : AA G X cs ss pc lv (.int y :: .int x :: st) σ := by
  obtain ⟨p, l', e, R', s, m, args, below, meth, c, Q⟩ := X
  obtain ⟨hx, hb, hml, hown, hts, hK, hb0, hnm, hll, hR⟩ := hX
  intro H locs ls hH hS hL
  exact lv_icmp_lt hx hb d ht (fun q => kt (by first | exact q | simpa using q) H locs ls hH hS hL) (fun q => kf (by first | exact q | simpa using q) H locs ls hH hS hL)
theorem A_if_ge {x : Int32} {off : Int} (tgt : Nat) (hX : AOk l G X cc own nm nL R) (d : decode cc pc = .ok (.ifCond .ge off, 3)) (ht : (pc : Int) + off = (tgt : Int)) (kt : 0 ≤ x → AA G X cs ss tgt lv st σ) (kf : ¬ 0 ≤ x → AA G X cs ss (pc + 3) lv st σ) : AA G X cs ss pc lv (.int x :: st) σ := by
  obtain ⟨p, l', e, R', s, m, args, below, meth, c, Q⟩ := X
  obtain ⟨hx, hb, hml, hown, hts, hK, hb0, hnm, hll, hR⟩ := hX
  intro H locs ls hH hS hL
  exact lv_if_ge hx hb d ht (fun q => kt (by first | exact q | simpa using q) H locs ls hH hS hL) (fun q => kf (by first | exact q | simpa using q) H locs ls hH hS hL)
theorem A_icmp_ge {x y : Int32} {off : Int} (tgt : Nat) (hX : AOk l G X cc own nm nL R) (d : decode cc pc = .ok (.if_icmp .ge off, 3)) (ht : (pc : Int) + off = (tgt : Int)) (kt : y ≤ x → AA G X cs ss tgt lv st σ) (kf : ¬ y ≤ x → AA G X cs ss (pc + 3) lv st σ) : AA G X cs ss pc lv (.int y :: .int x :: st) σ := by
  obtain ⟨p, l', e, R', s, m, args, below, meth, c, Q⟩ := X
  obtain ⟨hx, hb, hml, hown, hts, hK, hb0, hnm, hll, hR⟩ := hX
  intro H locs ls hH hS hL
  exact lv_icmp_ge hx hb d ht (fun q => kt (by first | exact q | simpa using q) H locs ls hH hS hL) (fun q => kf (by first | exact q | simpa using q) H locs ls hH hS hL)
theorem A_if_gt {x : Int32} {off : Int} (tgt : Nat) (hX : AOk l G X cc own nm nL R) (d : decode cc pc = .ok (.ifCond .gt off, 3)) (ht : (pc : Int) + off = (tgt : Int)) (kt : 0 < x → AA G X cs ss tgt lv st σ) (kf : ¬ 0 < x → AA G X cs ss (pc + 3) lv st σ) : AA G X cs ss pc lv (.int x :: st) σ := by
  obtain ⟨p, l', e, R', s, m, args, below, meth, c, Q⟩ := X
  obtain ⟨hx, hb, hml, hown, hts, hK, hb0, hnm, hll, hR⟩ := hX
  intro H locs ls hH hS hL
  exact lv_if_gt hx hb d ht (fun q => kt (by first | exact q | simpa using q) H locs ls hH hS hL) (fun q => kf (by first | exact q | simpa using q) H locs ls hH hS hL)
theorem A_icmp_gt {x y : Int32} {off : Int} (tgt : Nat) (hX : AOk l G X cc own nm nL R) (d : decode cc pc = .ok (.if_icmp .gt off, 3)) (ht : (pc : Int) + off = (tgt : Int)) (kt : y < x → AA G X cs ss tgt lv st σ) (kf : ¬ y < x → AA G X cs ss (pc + 3) lv st σ) : AA G X cs ss pc lv (.int y :: .int x :: st) σ := by
  obtain ⟨p, l', e, R', s, m, args, below, meth, c, Q⟩ := X
  obtain ⟨hx, hb, hml, hown, hts, hK, hb0, hnm, hll, hR⟩ := hX
  intro H locs ls hH hS hL
  exact lv_icmp_gt hx hb d ht (fun q => kt (by first | exact q | simpa using q) H locs ls hH hS hL) (fun q => kf (by first | exact q | simpa using q) H locs ls hH hS hL)
theorem A_if_le {x : Int32} {off : Int} (tgt : Nat) (hX : AOk l G X cc own nm nL R) (d : decode cc pc = .ok (.ifCond .le off, 3)) (ht : (pc : Int) + off = (tgt : Int)) (kt : x ≤ 0 → AA G X cs ss tgt lv st σ) (kf : ¬ x ≤ 0 → AA G X cs ss (pc + 3) lv st σ) : AA G X cs ss pc lv (.int x :: st) σ := by
  obtain ⟨p, l', e, R', s, m, args, below, meth, c, Q⟩ := X
  obtain ⟨hx, hb, hml, hown, hts, hK, hb0, hnm, hll, hR⟩ := hX
  intro H locs ls hH hS hL
  exact lv_if_le hx hb d ht (fun q => kt (by first | exact q | simpa using q) H locs ls hH hS hL) (fun q => kf (by first | exact q | simpa using q) H locs ls hH hS hL)
theorem A_icmp_le {x y : Int32} {off : Int} (tgt : Nat) (hX : AOk l G X cc own nm nL R) (d : decode cc pc = .ok (.if_icmp .le off, 3)) (ht : (pc : Int) + off = (tgt : Int)) (kt : x ≤ y → AA G X cs ss tgt lv st σ) (kf : ¬ x ≤ y → AA G X cs ss (pc + 3) lv st σ) : AA G X cs ss pc lv (.int y :: .int x :: st) σ := by
  obtain ⟨p, l', e, R', s, m, args, below, meth, c, Q⟩ := X
  obtain ⟨hx, hb, hml, hown, hts, hK, hb0, hnm, hll, hR⟩ := hX
  intro H locs ls hH hS hL
  exact lv_icmp_le hx hb d ht (fun q => kt (by first | exact q | simpa using q) H locs ls hH hS hL) (fun q => kf (by first | exact q | simpa using q) H locs ls hH hS hL)
theorem A_ifnonnull {x : Nat} {off : Int} (tgt : Nat) (hX : AOk l G X cc own nm nL R) (d : decode cc pc = .ok (.ifnonnull off, 3)) (ht : (pc : Int) + off = (tgt : Int)) (k : AA G X cs ss tgt lv st σ) : AA G X cs ss pc lv (.ref x :: st) σ := by
  obtain ⟨p, l', e, R', s, m, args, below, meth, c, Q⟩ := X
  obtain ⟨hx, hb, hml, hown, hts, hK, hb0, hnm, hll, hR⟩ := hX
  intro H locs ls hH hS hL
  exact lv_ifnonnull hx hb d ht (k H locs ls hH hS hL)
theorem A_ifnonnullN {off : Int} (hX : AOk l G X cc own nm nL R) (d : decode cc pc = .ok (.ifnonnull off, 3)) (k : AA G X cs ss (pc + 3) lv st σ) : AA G X cs ss pc lv (.null :: st) σ := by
  obtain ⟨p, l', e, R', s, m, args, below, meth, c, Q⟩ := X
  obtain ⟨hx, hb, hml, hown, hts, hK, hb0, hnm, hll, hR⟩ := hX
  intro H locs ls hH hS hL
  exact lv_ifnonnullN hx hb d (k H locs ls hH hS hL)
theorem A_lookup {dflt : Int} {ps : Array (Int × Int)} {len : Nat} {x : Int32} {off : Int} (tgt : Nat) (hX : AOk l G X cc own nm nL R) (d : decode cc pc = .ok (.lookupswitch dflt ps, len)) (hp : (ps.toList.zip (ps.toList.drop 1)).all (fun (a, next) => a.1 < next.1) = true) (ho : Op.lookupswitch.offset ps.toList dflt x.toInt = off) (ht : (pc : Int) + off = (tgt : Int)) (k : AA G X cs ss tgt lv st σ) : AA G X cs ss pc lv (.int x :: st) σ := by
  obtain ⟨p, l', e, R', s, m, args, below, meth, c, Q⟩ := X
  obtain ⟨hx, hb, hml, hown, hts, hK, hb0, hnm, hll, hR⟩ := hX
  intro H locs ls hH hS hL
  exact lv_lookup hx hb d hp ho ht (k H locs ls hH hS hL)
theorem A_tabOut {dflt lo hi : Int} {offs : Array Int} {len : Nat} {x : Int32} (tgt : Nat) (hX : AOk l G X cc own nm nL R) (d : decode cc pc = .ok (.tableswitch dflt lo hi offs, len)) (h : x.toInt < lo ∨ hi < x.toInt) (ht : (pc : Int) + dflt = (tgt : Int)) (k : AA G X cs ss tgt lv st σ) : AA G X cs ss pc lv (.int x :: st) σ := by
  obtain ⟨p, l', e, R', s, m, args, below, meth, c, Q⟩ := X
  obtain ⟨hx, hb, hml, hown, hts, hK, hb0, hnm, hll, hR⟩ := hX
  intro H locs ls hH hS hL
  exact lv_tableOut hx hb d h ht (k H locs ls hH hS hL)
theorem A_tabIn {dflt lo hi : Int} {offs : Array Int} {len : Nat} {x : Int32} {off : Int} (tgt : Nat) (hX : AOk l G X cc own nm nL R) (d : decode cc pc = .ok (.tableswitch dflt lo hi offs, len)) (h1 : ¬ x.toInt < lo) (h2 : ¬ hi < x.toInt) (ho : offs[(x.toInt - lo).toNat]? = some off) (ht : (pc : Int) + off = (tgt : Int)) (k : AA G X cs ss tgt lv st σ) : AA G X cs ss pc lv (.int x :: st) σ := by
  obtain ⟨p, l', e, R', s, m, args, below, meth, c, Q⟩ := X
  obtain ⟨hx, hb, hml, hown, hts, hK, hb0, hnm, hll, hR⟩ := hX
  intro H locs ls hH hS hL
  exact lv_tableIn hx hb d h1 h2 ho ht (k H locs ls hH hS hL)
theorem A_getf {idx ci j a : Nat} {fs : List Value} {v : Value} (hX : AOk l G X cc own nm nL R) (hf : LkF own idx ci j) (d : decode cc pc = .ok (.getfield idx, 3)) (h : σ.2 a = some (aO ci fs)) (hv : fs[j]? = some v) (k : AA G X cs ss (pc + 3) lv (v :: st) σ) : AA G X cs ss pc lv (.ref a :: st) σ := by
  obtain ⟨C, T, N, ref, f1, f2, f3, f4, f5⟩ := hf
  obtain ⟨p, l', e, R', s, m, args, below, meth, c, Q⟩ := X
  obtain ⟨hx, hb, hml, hown, hts, hK, hb0, hnm, hll, hR⟩ := hX
  intro H locs ls hH hS hL
  have hP1 : ∀ {a : Nat} {e : va_E}, σ.2 a = some e → va_P G.1 vwCl [(a, e)] H := fun h k q hq => by
    match k, hq with
    | 0, hq => cases hq; exact (hH.2 _ _ h).2
    | k + 1, hq => simp at hq
  have hsame : ∀ x, s.fieldFound? (T j).1 (T j).2.1 (T j).2.2.1 = some x → s.fieldFound? ref (T j).2.1 (T j).2.2.1 = some x := by
    rcases f5 with rfl | f5
    · exact fun _ h => h
    · exact u_same (hts _ f5)
  rcases f4 with f4 | ⟨host, f4⟩
  · exact va_get (Ts := lw_u) hx hb hts f3 hown hK.1 (hP1 h) 0 rfl f1 j f2 (hts _ f4) hsame hv d (k H locs ls hH hS hL)
  · exact va_getN (Ts := lw_u) hx hb hts f3 hown hK.1 (hP1 h) 0 rfl f1 j f2 (hts _ f4) hsame hv d (k H locs ls hH hS hL)
theorem A_iald {a n : Nat} {f : Nat → Int32} {i : Int32} (hX : AOk l G X cc own nm nL R) (d : decode cc pc = .ok (.iaload, 1)) (h : σ.2 a = some (aI G n f)) (hin : vp_in i n) (k : AA G X cs ss (pc + 1) lv (.int (f i.toNatClampNeg) :: st) σ) : AA G X cs ss pc lv (.int i :: .ref a :: st) σ := by
  obtain ⟨p, l', e, R', s, m, args, below, meth, c, Q⟩ := X
  obtain ⟨hx, hb, hml, hown, hts, hK, hb0, hnm, hll, hR⟩ := hX
  intro H locs ls hH hS hL
  have hP1 : ∀ {a : Nat} {e : va_E}, σ.2 a = some e → va_P G.1 vwCl [(a, e)] H := fun h k q hq => by
    match k, hq with
    | 0, hq => cases hq; exact (hH.2 _ _ h).2
    | k + 1, hq => simp at hq
  exact va_iald hx hb hK.1 (hP1 h) 0 0 rfl rfl hin d (k H locs ls hH hS hL)
theorem A_bald {a n : Nat} {f : Nat → Int32} {i : Int32} (hX : AOk l G X cc own nm nL R) (d : decode cc pc = .ok (.baload, 1)) (h : σ.2 a = some (aB G n f)) (hin : vp_in i n) (k : AA G X cs ss (pc + 1) lv (.int (f i.toNatClampNeg) :: st) σ) : AA G X cs ss pc lv (.int i :: .ref a :: st) σ := by
  obtain ⟨p, l', e, R', s, m, args, below, meth, c, Q⟩ := X
  obtain ⟨hx, hb, hml, hown, hts, hK, hb0, hnm, hll, hR⟩ := hX
  intro H locs ls hH hS hL
  have hP1 : ∀ {a : Nat} {e : va_E}, σ.2 a = some e → va_P G.1 vwCl [(a, e)] H := fun h k q hq => by
    match k, hq with
    | 0, hq => cases hq; exact (hH.2 _ _ h).2
    | k + 1, hq => simp at hq
  exact va_bald hx hb hK.1 (hP1 h) 0 1 rfl rfl hin d (k H locs ls hH hS hL)
theorem A_aald {a n : Nat} {f : Nat → Option Nat} {i : Int32} {v : Value} (hX : AOk l G X cc own nm nL R) (d : decode cc pc = .ok (.aaload, 1)) (h : σ.2 a = some (aR G n f)) (hin : vp_in i n) (hv : va_rf (f i.toNatClampNeg) = v) (k : AA G X cs ss (pc + 1) lv (v :: st) σ) : AA G X cs ss pc lv (.int i :: .ref a :: st) σ := by
  obtain ⟨p, l', e, R', s, m, args, below, meth, c, Q⟩ := X
  obtain ⟨hx, hb, hml, hown, hts, hK, hb0, hnm, hll, hR⟩ := hX
  subst hv
  intro H locs ls hH hS hL
  have hP1 : ∀ {a : Nat} {e : va_E}, σ.2 a = some e → va_P G.1 vwCl [(a, e)] H := fun h k q hq => by
    match k, hq with
    | 0, hq => cases hq; exact (hH.2 _ _ h).2
    | k + 1, hq => simp at hq
  exact va_aldq hx hb hK.1 (hP1 h) 0 2 rfl rfl hin d (k H locs ls hH hS hL)
theorem A_alenI {a n : Nat} {f : Nat → Int32} (hX : AOk l G X cc own nm nL R) (d : decode cc pc = .ok (.arraylength, 1)) (h : σ.2 a = some (aI G n f)) (k : AA G X cs ss (pc + 1) lv (.int (nI n) :: st) σ) : AA G X cs ss pc lv (.ref a :: st) σ := by
  obtain ⟨p, l', e, R', s, m, args, below, meth, c, Q⟩ := X
  obtain ⟨hx, hb, hml, hown, hts, hK, hb0, hnm, hll, hR⟩ := hX
  intro H locs ls hH hS hL
  have hP1 : ∀ {a : Nat} {e : va_E}, σ.2 a = some e → va_P G.1 vwCl [(a, e)] H := fun h k q hq => by
    match k, hq with
    | 0, hq => cases hq; exact (hH.2 _ _ h).2
    | k + 1, hq => simp at hq
  exact va_alen hx hb hK.1 (hP1 h) 0 0 rfl rfl rfl d (k H locs ls hH hS hL)
theorem A_alenQ {a n : Nat} {f : Nat → Option Nat} (hX : AOk l G X cc own nm nL R) (d : decode cc pc = .ok (.arraylength, 1)) (h : σ.2 a = some (aR G n f)) (k : AA G X cs ss (pc + 1) lv (.int (nI n) :: st) σ) : AA G X cs ss pc lv (.ref a :: st) σ := by
  obtain ⟨p, l', e, R', s, m, args, below, meth, c, Q⟩ := X
  obtain ⟨hx, hb, hml, hown, hts, hK, hb0, hnm, hll, hR⟩ := hX
  intro H locs ls hH hS hL
  have hP1 : ∀ {a : Nat} {e : va_E}, σ.2 a = some e → va_P G.1 vwCl [(a, e)] H := fun h k q hq => by
    match k, hq with
    | 0, hq => cases hq; exact (hH.2 _ _ h).2
    | k + 1, hq => simp at hq
  exact va_alen hx hb hK.1 (hP1 h) 0 2 rfl rfl rfl d (k H locs ls hH hS hL)
theorem A_iast {a n : Nat} {f : Nat → Int32} {i x : Int32} (hX : AOk l G X cc own nm nL R) (d : decode cc pc = .ok (.iastore, 1)) (h : σ.2 a = some (aI G n f)) (hin : vp_in i n) (k : AA G X cs ss (pc + 1) lv st (aSet σ a (aI G n (upd f i.toNatClampNeg x)))) : AA G X cs ss pc lv (.int x :: .int i :: .ref a :: st) σ := by
  obtain ⟨p, l', e, R', s, m, args, below, meth, c, Q⟩ := X
  obtain ⟨hx, hb, hml, hown, hts, hK, hb0, hnm, hll, hR⟩ := hX
  intro H locs ls hH hS hL
  refine W.iast hx hb (hH.2 _ _ h).2 ((hK.1.2 0 _ rfl).1 n (fun j => .int (f j))) (fun q => by cases q) (by show ¬ (i < 0 ∨ (arrV _ _ _).slots.size ≤ _); rw [arrV_size]; exact hin) rfl rfl d fun H1 e1 z oq => ?_
  refine k H1 _ ls (hH.set h z ?_ oq) (hS.put z oq (hH.2 _ _ h).1) hL
  show H1[a]? = some (vp_cell _ _)
  rw [e1, vp_cell_i, vp_cell_i, arrV_store]
  congr 2
  funext q
  by_cases hq : q = i.toNatClampNeg
  · subst hq
    simp [updV, upd]
  · simp [updV, upd, hq]
theorem A_bast {a n : Nat} {f : Nat → Int32} {i x : Int32} (hX : AOk l G X cc own nm nL R) (d : decode cc pc = .ok (.bastore, 1)) (h : σ.2 a = some (aB G n f)) (hin : vp_in i n) (k : AA G X cs ss (pc + 1) lv st (aSet σ a (aB G n (upd f i.toNatClampNeg (vp_nar .byte x))))) : AA G X cs ss pc lv (.int x :: .int i :: .ref a :: st) σ := by
  obtain ⟨p, l', e, R', s, m, args, below, meth, c, Q⟩ := X
  obtain ⟨hx, hb, hml, hown, hts, hK, hb0, hnm, hll, hR⟩ := hX
  intro H locs ls hH hS hL
  refine W.bast hx hb (hH.2 _ _ h).2 ((hK.1.2 1 _ rfl).1 n (fun j => .int (f j))) (fun q => by cases q) (by show ¬ (i < 0 ∨ (arrV _ _ _).slots.size ≤ _); rw [arrV_size]; exact hin) rfl rfl d fun H1 e1 z oq => ?_
  refine k H1 _ ls (hH.set h z ?_ oq) (hS.put z oq (hH.2 _ _ h).1) hL
  show H1[a]? = some (vp_cell _ _)
  rw [e1, vp_cell_i, vp_cell_i, arrV_store]
  congr 2
  funext q
  by_cases hq : q = i.toNatClampNeg
  · subst hq
    simp [updV, upd, vp_nar]
    try rfl
  · simp [updV, upd, hq]
theorem A_aast {a n v ci : Nat} {f : Nat → Option Nat} {i : Int32} {vs : List Value} {C : String} {T : u_T} {N : Nat} (hX : AOk l G X cc own nm nL R) (d : decode cc pc = .ok (.aastore, 1)) (h : σ.2 a = some (aR G n f)) (hin : vp_in i n) (hv : σ.2 v = some (aO ci vs)) (hc : vwCl[ci]? = some (C, T, N)) (hca : C = RX0 ∨ Cond.castable C RX0 ∈ lw_u) (k : AA G X cs ss (pc + 1) lv st (aSet σ a (aR G n (va_up f i.toNatClampNeg (some v))))) : AA G X cs ss pc lv (.ref v :: .int i :: .ref a :: st) σ := by
  obtain ⟨p, l', e, R', s, m, args, below, meth, c, Q⟩ := X
  obtain ⟨hx, hb, hml, hown, hts, hK, hb0, hnm, hll, hR⟩ := hX
  intro H locs ls hH hS hL
  have hlt : i.toNatClampNeg < n := Nat.not_le.mp fun q => hin (Or.inr q)
  have h0 : ¬ i < 0 := fun q => hin (Or.inl q)
  obtain ⟨r', hr', cellV, g1, g2, g3, -⟩ := (hH.2 _ _ hv).2
  have hcls := (hK.1.1 ci _ hc).2
  obtain ⟨kA, comp, k1, k2, k3, -⟩ := (hK.1.2 2 (gQ G, .object RX0) rfl).2
  obtain ⟨kE, hkE, -⟩ := Vm.findClass_spec k3
  have f3 : s.vm.assignable (G.1.1 ci) comp = true := by
    rcases hca with rfl | hca
    · cases k3.symm.trans hcls.1
      exact va_assign hcls
    · obtain ⟨c0, t1, f1, f2, f3⟩ := Cond.castable_spec (hts _ hca)
      cases hcls.1.symm.trans f1
      cases k3.symm.trans f2
      exact f3
  obtain ⟨kC, hkC, -⟩ := hcls.2
  refine W.aast hx hb (hH.2 _ _ h).2 (fun q h => by cases h) (fun h => by cases h) k1 k2 rfl hkE ⟨h0, by show _ < (arrV _ _ _).slots.size; rw [arrV_size]; exact hlt⟩ g1 (fun q h => by rw [g3] at h; cases h) (by rw [g2]; exact hkC) (by rw [g2]; exact f3) rfl rfl d fun H1 e1 z oq => ?_
  refine k H1 _ ls (hH.set h z ?_ oq) (hS.put z oq (hH.2 _ _ h).1) hL
  show H1[a]? = some (vp_cell _ _)
  rw [e1, vp_cell_q, vp_cell_q, arrV_store]
  congr 2
  funext q
  by_cases hq : q = i.toNatClampNeg
  · subst hq
    simp [updV, va_up, va_rf]
  · simp [updV, va_up, hq]
theorem A_putf {idx ci j a : Nat} {ty : FieldType} {fs fs' : List Value} {v : Value} (hX : AOk l G X cc own nm nL R) (hf : LkP own idx ci j ty false) (d : decode cc pc = .ok (.putfield idx, 3)) (h : σ.2 a = some (aO ci fs)) (hl : j < fs.length) (he : fs.set j v = fs') (hn : narrow ty v = v) (hfit : fits ty v = true) (k : AA G X cs ss (pc + 3) lv st (aSet σ a (aO ci fs'))) : AA G X cs ss pc lv (v :: .ref a :: st) σ := by
  obtain ⟨C, T, N, ty0, f1, f2, f3, f4, f5, f6, f7, f8, f9⟩ := hf
  subst f8
  subst he
  obtain ⟨p, l', e, R', s, m, args, below, meth, c, Q⟩ := X
  obtain ⟨hx, hb, hml, hown, hts, hK, hb0, hnm, hll, hR⟩ := hX
  intro H locs ls hH hS hL
  have hap := va_apart (own := own) (Ts := lw_u) hts f3 ty0 f5 f6 hK.1 f1
  obtain ⟨r, h1, cell, q1, q2, q3, q4⟩ := (hH.2 _ _ h).2
  cases h1.symm.trans f1
  obtain ⟨hS1, hfc, kC, hkC, hkind⟩ := hK.1.1 ci _ f1
  obtain ⟨cf, kf, fi, f, hi, hsl⟩ := hS1 j f2
  have hlay := hts _ (f3 _ (u_in_lay f2))
  unfold u_lay at hlay
  rw [if_neg (by rw [f7]; decide)] at hlay
  have hst := (u_facts hfc hkC (u_lays hts f3 f2) hi).1
  have h6 := u_store hfc hkC hkind hlay hi (f5 j f2) hn hfit
  have fin : ∀ (H1 : Heap), H1[a]? = some (cell.setSlot f.slot v) → H1.size = H.size → (∀ q, q ≠ a → H1[q]? = H[q]?) → W p l' e R' s m args below meth c H1 (locs ++ [⟨a, f.slot⟩]) cs ss Q (F0 m (pc + 3) ls st) := by
    intro H1 e1 e2 e3
    refine k H1 _ ls (hH.set h e2 ?_ e3) (hS.put e2 e3 (hH.2 _ _ h).1) hL
    rw [hsl] at e1
    exact ⟨_, f1, t_OB.to (V := updV (vp_V fs) j v) ⟨_, e1, q2, q3, t_set q4 hap f2 v⟩ (fun j' _ => vp_updV_set hl v j')⟩
  rcases f4 with f4 | ⟨host, f4⟩
  · exact W.putK hx hb (f := f) ⟨hown, hts _ f4, ⟨_, _, _, hi⟩, hst⟩ (by rw [q2]; exact h6) q1 q3 (by rw [hsl]; exact k2_hasslot (q4 j f2)) rfl rfl d fin
  · exact va_WputK hx hb (f := f) hown (hts _ f4) hi hst (by rw [q2]; exact h6) q1 q3 (by rw [hsl]; exact k2_hasslot (q4 j f2)) rfl rfl d fin
theorem A_putF {idx ci j a : Nat} {ty : FieldType} {fs fs' : List Value} {v : Value} (hX : AOk l G X cc own "<init>" nL R) (hf : LkP own idx ci j ty true) (d : decode cc pc = .ok (.putfield idx, 3)) (h : σ.2 a = some (aO ci fs)) (hl : j < fs.length) (he : fs.set j v = fs') (hn : narrow ty v = v) (hfit : fits ty v = true) (k : AA G X cs ss (pc + 3) lv st (aSet σ a (aO ci fs'))) : AA G X cs ss pc lv (v :: .ref a :: st) σ := by
  obtain ⟨C, T, N, ty0, f1, f2, f3, f4, f5, f6, f7, f8, f9⟩ := hf
  subst f8
  subst he
  have hdecl := f9 rfl
  obtain ⟨p, l', e, R', s, m, args, below, meth, c, Q⟩ := X
  obtain ⟨hx, hb, hml, hown, hts, hK, hb0, hnm, hll, hR⟩ := hX
  intro H locs ls hH hS hL
  have hap := va_apart (own := own) (Ts := lw_u) hts f3 ty0 f5 f6 hK.1 f1
  obtain ⟨r, h1, cell, q1, q2, q3, q4⟩ := (hH.2 _ _ h).2
  cases h1.symm.trans f1
  obtain ⟨hS1, hfc, kC, hkC, hkind⟩ := hK.1.1 ci _ f1
  obtain ⟨cf, kf, fi, f, hi, hsl⟩ := hS1 j f2
  have hlay := hts _ (f3 _ (u_in_lay f2))
  unfold u_lay at hlay
  rw [if_pos f7] at hlay
  have hst := (u_facts hfc hkC (u_lays hts f3 f2) hi).1
  have hcf : m.cls = cf := by
    obtain ⟨_, _, c', _, _, _, -, -, hf', -, -, -, hown2, -⟩ := Cond.laysFinal_spec hlay
    have e1 : c' = cf := by have := hi.symm.trans hf'; simp at this; exact this.1.symm
    rw [hdecl] at hown2
    rw [← e1]; exact Option.some.inj (hown.symm.trans hown2)
  have h6 := u_fits hfc hkC hkind (Or.inr hlay) hi (f5 j f2) hn hfit
  rcases f4 with f4 | ⟨host, f4⟩
  · refine W.putFinK hx hb hown (hts _ f4) hi hst hcf hnm (by rw [q2]; exact h6) q1 q3 (by rw [hsl]; exact k2_hasslot (q4 j f2)) rfl rfl d fun H1 e1 e2 e3 => ?_
    refine k H1 _ ls (hH.set h e2 ?_ e3) (hS.put e2 e3 (hH.2 _ _ h).1) hL
    rw [hsl] at e1
    exact ⟨_, f1, t_OB.to (V := updV (vp_V fs) j v) ⟨_, e1, q2, q3, t_set q4 hap f2 v⟩ (fun j' _ => vp_updV_set hl v j')⟩
  · refine va_Wputf hx hb hown (hts _ f4) hi hst (Or.inr ⟨hcf, hnm⟩) q1 (by rw [q3]; exact fun h => by cases h) (by rw [hsl]; exact k2_hasslot (q4 j f2)) h6.1 (by rw [q3, q2]; exact h6.2) rfl rfl d ?_
    have ha : a < H.size := (Array.getElem?_eq_some_iff.mp q1).1
    have e1 : (H.setIfInBounds a (cell.setSlot f.slot v))[a]? = some (cell.setSlot f.slot v) := by simp [Array.getElem?_setIfInBounds, ha]
    have e2 : (H.setIfInBounds a (cell.setSlot f.slot v)).size = H.size := by simp
    have e3 : ∀ q, q ≠ a → (H.setIfInBounds a (cell.setSlot f.slot v))[q]? = H[q]? := fun q hq => by simp [Array.getElem?_setIfInBounds, Ne.symm hq]
    refine k _ _ ls (hH.set h e2 ?_ e3) (hS.put e2 e3 (hH.2 _ _ h).1) hL
    rw [hsl] at e1 ⊢
    exact ⟨_, f1, t_OB.to (V := updV (vp_V fs) j v) ⟨_, e1, q2, q3, t_set q4 hap f2 v⟩ (fun j' _ => vp_updV_set hl v j')⟩
theorem A_new {idx ci N : Nat} {fs : List Value} (hX : AOk l G X cc own nm nL R) (hw : LkN own idx ci N) (d : decode cc pc = .ok (.new idx, 3)) (hfs : ∀ C T, vwCl[ci]? = some (C, T, N) → ∀ j, j < N → (parseFieldDescriptor (T j).2.2.1).map defaultValue = some (vp_V fs j)) (hc : cs + 1 ≤ R.cells) (hs : ss + N ≤ R.slots) (k : AA G X (cs + 1) (ss + N) (pc + 3) lv (.ref σ.1 :: st) (aNew σ (aO ci fs))) : AA G X cs ss pc lv st σ := by
  obtain ⟨C, T, ty0, f1, f2, f3, f4, f5, f6⟩ := hw
  obtain ⟨p, l', e, R', s, m, args, below, meth, c, Q⟩ := X
  obtain ⟨hx, hb, hml, hown, hts, hK, hb0, hnm, hll, hR⟩ := hX
  intro H locs ls hH hS hL
  subst hR
  have hKn := hK.1.1 ci _ f1
  refine W.newcK hx hb hown (hts _ f4) (hts _ f5) (hts _ f6) rfl d hc hs hKn.2.1 hH.1 fun H1 kC hkC e1 z1 o1 => ?_
  rw [← hH.1] at e1 z1 o1
  refine k H1 locs ls (hH.new (Nat.le_trans hb0 (by rw [← hH.1]; exact hS.1)) z1 ?_ o1) ⟨Nat.le_trans hS.1 (by omega), fun x h1 h2 => (o1 x (Nat.lt_of_lt_of_le h1 hS.1)).trans (hS.2.1 x h1 h2), hS.2.2⟩ hL
  refine ⟨_, f1, (u_born ty0 hts f2 hKn hkC e1 f3).to fun j hj => ?_⟩
  have := hfs C T f1 j hj
  rw [f3 j hj] at this
  exact Option.some.inj this
theorem A_newI {n : Int32} {N : Nat} (hX : AOk l G X cc own nm nL R) (d : decode cc pc = .ok (.newarray .int, 2)) (hn : ¬ n < 0) (hN : n.toNatClampNeg = N) (hB : N ≤ 100000) (hc : cs + 1 ≤ R.cells) (hs : ss + N ≤ R.slots) (k : AA G X (cs + 1) (ss + N) (pc + 2) lv (.ref σ.1 :: st) (aNew σ (aI G N (fun _ => 0)))) : AA G X cs ss pc lv (.int n :: st) σ := by
  obtain ⟨p, l', e, R', s, m, args, below, meth, c, Q⟩ := X
  obtain ⟨hx, hb, hml, hown, hts, hK, hb0, hnm, hll, hR⟩ := hX
  intro H locs ls hH hS hL
  subst hR
  refine va_newaK (atype := .int) hx hb (hts _ ac_int) rfl d rfl hn hN (by show N * 4 ≤ 536870912; omega) hc hs hH.1 fun H1 cA e1 z1 o1 hAr hNm => ?_
  rw [← hH.1] at e1 z1 o1
  have hcA : cA = gI G := Option.some.inj (hNm.symm.trans (hK.1.2 0 (gI G, .int) rfl).2)
  subst hcA
  exact k H1 locs ls (hH.new (Nat.le_trans hb0 (by rw [← hH.1]; exact hS.1)) z1 e1 o1) ⟨Nat.le_trans hS.1 (by omega), fun x h1 h2 => (o1 x (Nat.lt_of_lt_of_le h1 hS.1)).trans (hS.2.1 x h1 h2), hS.2.2⟩ hL
theorem A_newB {n : Int32} {N : Nat} (hX : AOk l G X cc own nm nL R) (d : decode cc pc = .ok (.newarray .byte, 2)) (hn : ¬ n < 0) (hN : n.toNatClampNeg = N) (hB : N ≤ 100000) (hc : cs + 1 ≤ R.cells) (hs : ss + N ≤ R.slots) (k : AA G X (cs + 1) (ss + N) (pc + 2) lv (.ref σ.1 :: st) (aNew σ (aB G N (fun _ => 0)))) : AA G X cs ss pc lv (.int n :: st) σ := by
  obtain ⟨p, l', e, R', s, m, args, below, meth, c, Q⟩ := X
  obtain ⟨hx, hb, hml, hown, hts, hK, hb0, hnm, hll, hR⟩ := hX
  intro H locs ls hH hS hL
  subst hR
  refine va_newaK (atype := .byte) hx hb (hts _ ac_byte) rfl d rfl hn hN (by show N * 1 ≤ 536870912; omega) hc hs hH.1 fun H1 cA e1 z1 o1 hAr hNm => ?_
  rw [← hH.1] at e1 z1 o1
  have hcA : cA = gB G := Option.some.inj (hNm.symm.trans (hK.1.2 1 (gB G, .byte) rfl).2)
  subst hcA
  exact k H1 locs ls (hH.new (Nat.le_trans hb0 (by rw [← hH.1]; exact hS.1)) z1 e1 o1) ⟨Nat.le_trans hS.1 (by omega), fun x h1 h2 => (o1 x (Nat.lt_of_lt_of_le h1 hS.1)).trans (hS.2.1 x h1 h2), hS.2.2⟩ hL
theorem A_newQ {n : Int32} {N idx : Nat} (hX : AOk l G X cc own nm nL R) (hw : Cond.classLink own idx RX0 ∈ lw_u) (d : decode cc pc = .ok (.anewarray idx, 3)) (hn : ¬ n < 0) (hN : n.toNatClampNeg = N) (hB : N ≤ 100000) (hc : cs + 1 ≤ R.cells) (hs : ss + N ≤ R.slots) (k : AA G X (cs + 1) (ss + N) (pc + 3) lv (.ref σ.1 :: st) (aNew σ (aR G N (fun _ => none)))) : AA G X cs ss pc lv (.int n :: st) σ := by
  subst hN
  obtain ⟨p, l', e, R', s, m, args, below, meth, c, Q⟩ := X
  obtain ⟨hx, hb, hml, hown, hts, hK, hb0, hnm, hll, hR⟩ := hX
  intro H locs ls hH hS hL
  subst hR
  refine W.anew hx hb hown (hts _ hw) (hts _ ao_Adder) rfl d rfl hn (by omega) hc hs fun cA kA comp f1 f2 f3 f4 => ?_
  obtain ⟨kA', comp', k1, k2, k3, k4⟩ := (hK.1.2 2 (gQ G, .object RX0) rfl).2
  have hcA : cA = gQ G := Option.some.inj (f1.symm.trans k4)
  subst hcA
  generalize hH1 : H.push ({ cls := gQ G, slots := Array.replicate n.toNatClampNeg .null, vm := .none } : Cell) = H1
  have z1 : H1.size = H.size + 1 := by rw [← hH1, Array.size_push]
  have e1 : H1[H.size]? = some (arrV (gQ G) n.toNatClampNeg (fun _ => .null)) := by rw [← hH1, Array.getElem?_push_size, ← arrV_new]
  have o1 : ∀ q : Nat, q < H.size → H1[q]? = H[q]? := fun q hq => by rw [← hH1, Array.getElem?_push, if_neg (Nat.ne_of_lt hq)]
  have := k H1 locs ls (hH.new (Nat.le_trans hb0 (by rw [← hH.1]; exact hS.1)) z1 e1 o1) ⟨Nat.le_trans hS.1 (by omega), fun x h1 h2 => (o1 x (Nat.lt_of_lt_of_le h1 hS.1)).trans (hS.2.1 x h1 h2), hS.2.2⟩ hL
  rw [← hH.1] at this
  exact this
theorem A_instY {idx ci a : Nat} {fs : List Value} {C nm' : String} {T : u_T} {N : Nat} (hX : AOk l G X cc own nm nL R) (hw : Cond.classLink own idx nm' ∈ lw_u) (d : decode cc pc = .ok (.instanceof idx, 3)) (h : σ.2 a = some (aO ci fs)) (hc : vwCl[ci]? = some (C, T, N)) (hca : C = nm' ∨ Cond.castable C nm' ∈ lw_u) (k : AA G X cs ss (pc + 3) lv (.int 1 :: st) σ) : AA G X cs ss pc lv (.ref a :: st) σ := by
  obtain ⟨p, l', e, R', s, m, args, below, meth, c, Q⟩ := X
  obtain ⟨hx, hb, hml, hown, hts, hK, hb0, hnm, hll, hR⟩ := hX
  intro H locs ls hH hS hL
  have hP1 : ∀ {a : Nat} {e : va_E}, σ.2 a = some e → va_P G.1 vwCl [(a, e)] H := fun h k q hq => by
    match k, hq with
    | 0, hq => cases hq; exact (hH.2 _ _ h).2
    | k + 1, hq => simp at hq
  rcases hca with rfl | hca
  · exact va_instS hx hb hown (hts _ hw) (hK.1.1 ci _ hc).2 (va_recv hK.1 (hP1 h) (q0 := 0) hc rfl) d (k H locs ls hH hS hL)
  · exact va_instY hx hb hown (hts _ hw) (va_Nw.of rfl (hts _ hca)) (va_recv hK.1 (hP1 h) (q0 := 0) hc rfl) d (k H locs ls hH hS hL)
theorem A_instN {idx ci a : Nat} {fs : List Value} {C nm' : String} {T : u_T} {N : Nat} (hX : AOk l G X cc own nm nL R) (hw : Cond.classLink own idx nm' ∈ lw_u) (d : decode cc pc = .ok (.instanceof idx, 3)) (h : σ.2 a = some (aO ci fs)) (hc : vwCl[ci]? = some (C, T, N)) (hca : (C, nm') ∈ ncs) (k : AA G X cs ss (pc + 3) lv (.int 0 :: st) σ) : AA G X cs ss pc lv (.ref a :: st) σ := by
  obtain ⟨p, l', e, R', s, m, args, below, meth, c, Q⟩ := X
  obtain ⟨hx, hb, hml, hown, hts, hK, hb0, hnm, hll, hR⟩ := hX
  intro H locs ls hH hS hL
  have hP1 : ∀ {a : Nat} {e : va_E}, σ.2 a = some e → va_P G.1 vwCl [(a, e)] H := fun h k q hq => by
    match k, hq with
    | 0, hq => cases hq; exact (hH.2 _ _ h).2
    | k + 1, hq => simp at hq
  exact va_instNo hx hb hown (hts _ hw) (hK.2.1 _ hca) (va_recv hK.1 (hP1 h) (q0 := 0) hc rfl) d (k H locs ls hH hS hL)
theorem A_objInit {idx a : Nat} (hX : AOk l G X cc own nm nL R) (hw : Cond.methodLink own idx objectInit ∈ lw_u) (d : decode cc pc = .ok (.invokespecial idx, 3)) (hlen : lv.length = nL) (hfr : 1 ≤ R.frames) (hlo : (st.map fun v => v.category).sum + 12 ≤ R.locals) (k : AA G X cs ss (pc + 3) lv st σ) : AA G X cs ss pc lv (.ref a :: st) σ := by
  obtain ⟨p, l', e, R', s, m, args, below, meth, c, Q⟩ := X
  obtain ⟨hx, hb, hml, hown, hts, hK, hb0, hnm, hll, hR⟩ := hX
  intro H locs ls hH hS hL
  subst hR
  exact W.objInit hx hb hown (hts _ hw) (hts _ oi_inst) (hts _ oi_code) rfl (by rw [hml, ← hlen]; exact hL.1) rfl d hfr (by simpa [JFrame.monitorRoom] using hlo) (k H locs ls hH hS hL)
theorem A_widen {cs' ss' : Nat} (h1 : cs ≤ cs') (h2 : ss ≤ ss') (k : AA G X cs' ss' pc lv st σ) : AA G X cs ss pc lv st σ := by
  obtain ⟨p, l', e, R', s, m, args, below, meth, c, Q⟩ := X
  intro H locs ls hH hS hL
  exact W.widen h1 h2 (k H locs ls hH hS hL)
/-! ends -/
theorem A_iret {P : Option Value → aS → Prop} {ret : Option FieldType} {ty : FieldType} {x : Int32} (hX : AOk l G X cc own nm nL R) (hr : ARt G X P ret cs ss) (d : decode cc pc = .ok (.ireturn, 1)) (hret : ret = some ty) (hn : narrow ty (.int x) = .int x) (h : P (some (.int x)) σ) : AA G X cs ss pc lv [.int x] σ := by
  obtain ⟨p, l', e, R', s, m, args, below, meth, c, Q⟩ := X
  obtain ⟨hx, hb, hml, hown, hts, hK, hb0, hnm, hll, hR⟩ := hX
  obtain ⟨rfl, hr2, hlocks⟩ := hr
  intro H locs ls hH hS hL
  exact W.zret hx hb (hr2.trans hret) hn (fun t ht hW => ⟨⟨_, σ, rfl, h, by rw [ht]; exact hH⟩, hS.F ht⟩) hS.2.2 d
theorem A_lret {P : Option Value → aS → Prop} {x : Int64} (hX : AOk l G X cc own nm nL R) (hr : ARt G X P (some .long) cs ss) (d : decode cc pc = .ok (.lreturn, 1)) (h : P (some (.long x)) σ) : AA G X cs ss pc lv [.long x] σ := by
  obtain ⟨p, l', e, R', s, m, args, below, meth, c, Q⟩ := X
  obtain ⟨hx, hb, hml, hown, hts, hK, hb0, hnm, hll, hR⟩ := hX
  obtain ⟨rfl, hr2, hlocks⟩ := hr
  intro H locs ls hH hS hL
  exact W.lret hx hb hr2 (fun t ht hW => ⟨⟨_, σ, rfl, h, by rw [ht]; exact hH⟩, hS.F ht⟩) hS.2.2 d
theorem A_aret {P : Option Value → aS → Prop} {C : String} {v : Value} (hX : AOk l G X cc own nm nL R) (hr : ARt G X P (some (.object C)) cs ss) (d : decode cc pc = .ok (.areturn, 1)) (hv : v = .null ∨ ∃ a, v = .ref a) (h : P (some v) σ) : AA G X cs ss pc lv [v] σ := by
  obtain ⟨p, l', e, R', s, m, args, below, meth, c, Q⟩ := X
  obtain ⟨hx, hb, hml, hown, hts, hK, hb0, hnm, hll, hR⟩ := hX
  obtain ⟨rfl, hr2, hlocks⟩ := hr
  intro H locs ls hH hS hL
  exact W.aret hx hb hr2 (Or.inl ⟨_, rfl⟩) hv (fun t ht hW => ⟨⟨_, σ, rfl, h, by rw [ht]; exact hH⟩, hS.F ht⟩) hS.2.2 d
theorem A_ret {P : Option Value → aS → Prop} (hX : AOk l G X cc own nm nL R) (hr : ARt G X P none cs ss) (d : decode cc pc = .ok (.return_, 1)) (h : P none σ) : AA G X cs ss pc lv [] σ := by
  obtain ⟨p, l', e, R', s, m, args, below, meth, c, Q⟩ := X
  obtain ⟨hx, hb, hml, hown, hts, hK, hb0, hnm, hll, hR⟩ := hX
  obtain ⟨rfl, hr2, hlocks⟩ := hr
  intro H locs ls hH hS hL
  exact W.vret hx hb hr2 (fun t ht hW => ⟨⟨_, σ, rfl, h, by rw [ht]; exact hH⟩, hS.F ht⟩) hS.2.2 d
/-! calls -/
theorem aa_back {p : Program} {l : Launch} {e : Env} {R : Room} {s : State} {m : MethodId} {args : Array Value} {below : List Frame} {meth : Method} {c : Code} {H : Heap} {locs : List Loc} {cs ss mc ms : Nat} {Q : State → Prop} {G : aG} {P : Option Value → aS → Prop} {a : Array Value} {pc : Nat} {ls : Array Slot} {st0 rest : List Value}
    (hr : va_Run p l e R s m args below meth c H locs cs ss mc ms (F0 m pc ls st0) rest (Qm G P a) (aA G)) (hS : va_S (aA G) s.heap H locs)
    (kk : ∀ (r : Option Value) (σ' : aS) (H1 : Heap) (locs1 : List Loc), P r σ' → AHP G σ' H1 → va_S (aA G) s.heap H1 locs1 → W p l e R s m args below meth c H1 locs1 (cs + mc) (ss + ms) Q (F0 m (pc + 3) ls (r.toList ++ rest))) : W p l e R s m args below meth c H locs cs ss Q (F0 m pc ls st0) := by
  intro T hT X
  obtain ⟨v, st₀, t, T', L, h0, X', hL, e1, e2, ⟨⟨r, σ', hv, hp, hh⟩, hz, hk⟩, st⟩ := hr T hT X
  cases hv
  rw [h0] at hz hk
  obtain ⟨t2, a1, b1⟩ := kk _ σ' T'.heap (locs ++ L) hp (by rw [e1]; exact hh)
    ⟨Nat.le_trans hS.1 (by rw [e1]; exact hz), fun q h1 h2 => by rw [e1, hk q (Nat.lt_of_lt_of_le h1 hS.1) h2]; exact hS.2.1 q h1 h2, fun q hq => by
      rcases List.mem_append.mp hq with h | h
      · exact hS.2.2 q h
      · exact hL q h⟩ T' rfl X'
  exact ⟨t2, st t2 a1, b1⟩
theorem aa_blind {G : aG} {av : List Value} {σ : aS} : FrameBlind (fun v U => v = av.toArray ∧ AHP G σ U.heap ∧ AGK G U ∧ G.2.1 ≤ U.heap.size) := by
  intro a U g mk q
  obtain ⟨q1, q2, q3, q4⟩ := q
  exact ⟨q1, q2, AGK.same (u := U) (U := U.calling g mk a) rfl q3, q4⟩
theorem aa_good {y : MethodName} {cc : ByteArray} {nL : Nat} {ret : Option FieldType} (h : Cond.code y cc nL ret ∈ lw_u) : GoodIn lw_u (wsM y cc nL ret) := by
  intro w hw
  rcases List.mem_cons.mp hw with rfl | hw
  · exact ⟨h, good_of_word rfl⟩
  · obtain ⟨h1, h2⟩ := List.mem_filter.mp hw
    exact ⟨List.mem_filter.mpr ⟨h1, by simp [uw, h2]⟩, good_of_word h2⟩
theorem aa_sig {y : MethodName} {n : Nat} (h : (parseMethodDescriptor y.desc).map (fun d => d.parameters.length) = some n) : ∀ sig, parseMethodDescriptor y.desc = some sig → n = sig.parameters.length := by
  intro sig hs
  rw [hs] at h
  exact (Option.some.inj h).symm
variable {y : MethodName} {yc : ByteArray} {yL n dd mc ms idx : Nat} {ret : Option FieldType} {av : List Value} {P : Option Value → aS → Prop}
theorem A_callS (hX : AOk l G X cc own nm nL R) (hy : MkY y yc yL ret n) (hw : LkS own idx y) (d : decode cc pc = .ok (.invokestatic idx, 3)) (hM : ACt l G y yc yL ret dd mc ms av σ P) (hav : av.length = n) (hlen : lv.length = nL) (hst : (st.map fun v => v.category).sum ≤ 8) (hfr : dd + 1 ≤ R.frames) (hlo : 8 + (yL + 11) + 36 * dd ≤ R.locals) (hc : cs + mc ≤ R.cells) (hs : ss + ms ≤ R.slots)
    (k : ∀ (r : Option Value) (σ' : aS), P r σ' → AA G X (cs + mc) (ss + ms) (pc + 3) lv (r.toList ++ st) σ') : AA G X cs ss pc lv (av.reverse ++ st) σ := by
  obtain ⟨y1, y2, y3, y4, y5⟩ := hy
  obtain ⟨w1, w2⟩ := hw
  obtain ⟨p, l', e, R', s, m, args, below, meth, c, Q⟩ := X
  obtain ⟨hx, hb, hml, hown, hts, hK, hb0, hnm, hll, hR⟩ := hX
  intro H locs ls hH hS hL
  subst hR; subst hll
  have hp : PreS s H (fun v U => v = av.toArray ∧ AHP G σ U.heap ∧ AGK G U ∧ G.2.1 ≤ U.heap.size) av := ⟨aa_blind, fun U hU hW => ⟨rfl, by rw [hU]; exact hH, AGK.warm hW hK, by rw [hU]; exact Nat.le_trans hb0 hS.1⟩⟩
  have hsz : (F0 m pc ls (av.reverse ++ st)).locals.size = nL := by rw [← hlen]; exact hL.1
  rcases w1 with w1 | ⟨host, w1⟩
  · exact aa_back (va_runS (Ts := lw_u) ⟨hx, hb, hml, hown, hts⟩ hM ⟨⟨rfl, rfl, hfr, hlo, pay_in hts (aa_good y1), List.mem_cons_self, hts _ y1, hts _ y2, y3, aa_sig y4, hts _ w1⟩, hts _ w2⟩ hp rfl hav hsz rfl (lv_room hst) d ⟨hc, hs⟩) hS fun r σ' H1 locs1 h1 h2 h3 => k r σ' h1 H1 locs1 ls h2 h3 hL
  · exact aa_back (va_runSN (Ts := lw_u) ⟨hx, hb, hml, hown, hts⟩ hM ⟨⟨⟨rfl, rfl, hfr, hlo, pay_in hts (aa_good y1), List.mem_cons_self⟩, hts _ y1, hts _ y2, y3, aa_sig y4, hts _ w1⟩, hts _ w2, trivial⟩ hp rfl hav hsz rfl (lv_room hst) d ⟨hc, hs⟩) hS fun r σ' H1 locs1 h1 h2 h3 => k r σ' h1 H1 locs1 ls h2 h3 hL
theorem A_callI {b : Nat} (hX : AOk l G X cc own nm nL R) (hy : MkY y yc yL none n) (hw : LkI own idx y) (d : decode cc pc = .ok (.invokespecial idx, 3)) (hM : ACt l G y yc yL none dd mc ms (.ref b :: av) σ P) (hav : av.length = n) (hlen : lv.length = nL) (hst : (st.map fun v => v.category).sum ≤ 8) (hfr : dd + 1 ≤ R.frames) (hlo : 8 + (yL + 11) + 36 * dd ≤ R.locals) (hc : cs + mc ≤ R.cells) (hs : ss + ms ≤ R.slots)
    (k : ∀ (r : Option Value) (σ' : aS), P r σ' → AA G X (cs + mc) (ss + ms) (pc + 3) lv (r.toList ++ st) σ') : AA G X cs ss pc lv (av.reverse ++ .ref b :: st) σ := by
  obtain ⟨y1, y2, y3, y4, y5⟩ := hy
  obtain ⟨w1, w2, w3⟩ := hw
  obtain ⟨p, l', e, R', s, m, args, below, meth, c, Q⟩ := X
  obtain ⟨hx, hb, hml, hown, hts, hK, hb0, hnm, hll, hR⟩ := hX
  intro H locs ls hH hS hL
  subst hR; subst hll
  have hp : PreS s H (fun v U => v = (Value.ref b :: av).toArray ∧ AHP G σ U.heap ∧ AGK G U ∧ G.2.1 ≤ U.heap.size) (.ref b :: av) := ⟨aa_blind, fun U hU hW => ⟨rfl, by rw [hU]; exact hH, AGK.warm hW hK, by rw [hU]; exact Nat.le_trans hb0 hS.1⟩⟩
  have hsz : (F0 m pc ls (av.reverse ++ .ref b :: st)).locals.size = nL := by rw [← hlen]; exact hL.1
  rcases w1 with w1 | ⟨host, w1⟩
  · exact aa_back (va_runI (Ts := lw_u) ⟨hx, hb, hml, hown, hts⟩ hM ⟨⟨rfl, rfl, hfr, hlo, pay_in hts (aa_good y1), List.mem_cons_self, hts _ y1, hts _ y2, y3, aa_sig y4, hts _ w1⟩, w3, hts _ w2⟩ hp rfl hav hsz rfl (lv_room hst) d ⟨hc, hs⟩) hS fun r σ' H1 locs1 h1 h2 h3 => k r σ' h1 H1 locs1 ls h2 h3 hL
  · exact aa_back (va_runIN (Ts := lw_u) ⟨hx, hb, hml, hown, hts⟩ hM ⟨⟨⟨rfl, rfl, hfr, hlo, pay_in hts (aa_good y1), List.mem_cons_self⟩, hts _ y1, hts _ y2, y3, aa_sig y4, hts _ w1⟩, w3, hts _ w2⟩ hp rfl hav hsz rfl (lv_room hst) d ⟨hc, hs⟩) hS fun r σ' H1 locs1 h1 h2 h3 => k r σ' h1 H1 locs1 ls h2 h3 hL
theorem A_callV {b ci : Nat} {fs : List Value} (hX : AOk l G X cc own nm nL R) (hy : MkY y yc yL ret n) (hw : LkV own idx y ci) (d : decode cc pc = .ok (.invokevirtual idx, 3)) (ho : σ.2 b = some (aO ci fs)) (hM : ACt l G y yc yL ret dd mc ms (.ref b :: av) σ P) (hav : av.length = n) (hlen : lv.length = nL) (hst : (st.map fun v => v.category).sum ≤ 8) (hfr : dd + 1 ≤ R.frames) (hlo : 8 + (yL + 11) + 36 * dd ≤ R.locals) (hc : cs + mc ≤ R.cells) (hs : ss + ms ≤ R.slots)
    (k : ∀ (r : Option Value) (σ' : aS), P r σ' → AA G X (cs + mc) (ss + ms) (pc + 3) lv (r.toList ++ st) σ') : AA G X cs ss pc lv (av.reverse ++ .ref b :: st) σ := by
  obtain ⟨y1, y2, y3, y4, y5⟩ := hy
  obtain ⟨w1, w2, w3, T, N, w4⟩ := hw
  obtain ⟨p, l', e, R', s, m, args, below, meth, c, Q⟩ := X
  obtain ⟨hx, hb, hml, hown, hts, hK, hb0, hnm, hll, hR⟩ := hX
  intro H locs ls hH hS hL
  have hP1 : ∀ {a : Nat} {e : va_E}, σ.2 a = some e → va_P G.1 vwCl [(a, e)] H := fun h k q hq => by
    match k, hq with
    | 0, hq => cases hq; exact (hH.2 _ _ h).2
    | k + 1, hq => simp at hq
  subst hR; subst hll
  have hp : PreV s H y.cls b (fun v U => v = (Value.ref b :: av).toArray ∧ AHP G σ U.heap ∧ AGK G U ∧ G.2.1 ≤ U.heap.size) av := ⟨aa_blind, va_recv hK.1 (hP1 ho) (q0 := 0) w4 rfl, fun U hU hW => ⟨rfl, by rw [hU]; exact hH, AGK.warm hW hK, by rw [hU]; exact Nat.le_trans hb0 hS.1⟩⟩
  have hsz : (F0 m pc ls (av.reverse ++ .ref b :: st)).locals.size = nL := by rw [← hlen]; exact hL.1
  exact aa_back (va_runV (Ts := lw_u) ⟨hx, hb, hml, hown, hts⟩ hM ⟨⟨rfl, rfl, hfr, hlo, pay_in hts (aa_good y1), List.mem_cons_self, hts _ y1, hts _ y2, y3, aa_sig y4, hts _ w1⟩, hts _ w2, hts _ w3⟩ hp rfl hav hsz rfl (lv_room hst) d ⟨hc, hs⟩) hS fun r σ' H1 locs1 h1 h2 h3 => k r σ' h1 H1 locs1 ls h2 h3 hL
theorem A_callU {b ci : Nat} {fs : List Value} {x : MethodName} (hX : AOk l G X cc own nm nL R) (hy : MkY y yc yL ret n) (hw : LkU own idx x y ci) (d : decode cc pc = .ok (.invokevirtual idx, 3)) (ho : σ.2 b = some (aO ci fs)) (hM : ACt l G y yc yL ret dd mc ms (.ref b :: av) σ P) (hav : av.length = n) (hlen : lv.length = nL) (hst : (st.map fun v => v.category).sum ≤ 8) (hfr : dd + 1 ≤ R.frames) (hlo : 8 + (yL + 11) + 36 * dd ≤ R.locals) (hc : cs + mc ≤ R.cells) (hs : ss + ms ≤ R.slots)
    (k : ∀ (r : Option Value) (σ' : aS), P r σ' → AA G X (cs + mc) (ss + ms) (pc + 3) lv (r.toList ++ st) σ') : AA G X cs ss pc lv (av.reverse ++ .ref b :: st) σ := by
  obtain ⟨y1, y2, y3, y4, y5⟩ := hy
  obtain ⟨C, T, N, owner, b0, m0, r0, w1, w2, w3, w4, w5, w6, w7, w8, w9⟩ := hw
  obtain ⟨p, l', e, R', s, m, args, below, meth, c, Q⟩ := X
  obtain ⟨hx, hb, hml, hown, hts, hK, hb0, hnm, hll, hR⟩ := hX
  intro H locs ls hH hS hL
  have hP1 : ∀ {a : Nat} {e : va_E}, σ.2 a = some e → va_P G.1 vwCl [(a, e)] H := fun h k q hq => by
    match k, hq with
    | 0, hq => cases hq; exact (hH.2 _ _ h).2
    | k + 1, hq => simp at hq
  subst hR; subst hll
  have hp : PreV s H C b (fun v U => v = (Value.ref b :: av).toArray ∧ AHP G σ U.heap ∧ AGK G U ∧ G.2.1 ≤ U.heap.size) av := ⟨aa_blind, va_recv hK.1 (hP1 ho) (q0 := 0) w1 rfl, fun U hU hW => ⟨rfl, by rw [hU]; exact hH, AGK.warm hW hK, by rw [hU]; exact Nat.le_trans hb0 hS.1⟩⟩
  have hsz : (F0 m pc ls (av.reverse ++ .ref b :: st)).locals.size = nL := by rw [← hlen]; exact hL.1
  exact aa_back (va_runU (Ts := lw_u) (C := C) (owner := owner) (x := x) ⟨hx, hb, hml, hown, hts⟩ hM ⟨⟨rfl, rfl, hfr, hlo, pay_in hts (aa_good y1), List.mem_cons_self⟩, hts _ y1, hts _ y2, w8, by rw [w9]; exact aa_sig y4, hts _ w2, hts _ w3, va_Decl.of (hts _ w4) (hts _ w5), hts _ w6, hts _ w7⟩ hp rfl hav hsz rfl (lv_room hst) d ⟨hc, hs⟩) hS fun r σ' H1 locs1 h1 h2 h3 => k r σ' h1 H1 locs1 ls h2 h3 hL
theorem A_mmin {x y' : Int32} (hX : AOk l G X cc own nm nL R) (hw : Cond.methodLink own idx Lib.Math.min.name ∈ lw_u) (d : decode cc pc = .ok (.invokestatic idx, 3)) (hlen : lv.length = nL) (hfr : 1 ≤ R.frames) (hlo : (st.map fun v => v.category).sum + 13 ≤ R.locals) (hc : cs ≤ R.cells) (hs : ss ≤ R.slots) (k : AA G X cs ss (pc + 3) lv (.int (if y' < x then y' else x) :: st) σ) : AA G X cs ss pc lv (.int y' :: .int x :: st) σ := by
  obtain ⟨p, l', e, R', s, m, args, below, meth, c, Q⟩ := X
  obtain ⟨hx, hb, hml, hown, hts, hK, hb0, hnm, hll, hR⟩ := hX
  intro H locs ls hH hS hL
  subst hR
  exact va_mmin hx hb (by rw [hml, ← hlen]; exact hL.1.symm) hown (hts _ hw) (hts _ mm_stat) (hts _ mm_init) (hts _ mm_code) hfr hlo hc hs d (k H locs ls hH hS hL)
theorem A_S0 (hX : AOk l G X cc own nm nL R) (hy : MkY y yc yL ret 0) (hw : LkS own idx y) (d : decode cc pc = .ok (.invokestatic idx, 3)) (hM : ACt l G y yc yL ret dd mc ms [] σ P) (hlen : lv.length = nL) (hst : (st.map fun v => v.category).sum ≤ 8) (hfr : dd + 1 ≤ R.frames) (hlo : 8 + (yL + 11) + 36 * dd ≤ R.locals) (hc : cs + mc ≤ R.cells) (hs : ss + ms ≤ R.slots) (k : ∀ (r : Option Value) (σ' : aS), P r σ' → AA G X (cs + mc) (ss + ms) (pc + 3) lv (r.toList ++ st) σ') : AA G X cs ss pc lv (st) σ :=
  A_callS (av := []) hX hy hw d hM rfl hlen hst hfr hlo hc hs k
theorem A_S0p (hX : AOk l G X cc own nm nL R) (hy : MkY y yc yL ret 0) (hw : LkS own idx y) (d : decode cc pc = .ok (.invokestatic idx, 3)) (hM : ACt l G y yc yL ret dd 0 0 [] σ (P)) (hlen : lv.length = nL) (hst : (st.map fun v => v.category).sum ≤ 8) (hfr : dd + 1 ≤ R.frames) (hlo : 8 + (yL + 11) + 36 * dd ≤ R.locals) (hc : cs ≤ R.cells) (hs : ss ≤ R.slots) (k : ∀ (r : Option Value) (σ' : aS), P r σ' → AA G X cs ss (pc + 3) lv (r.toList ++ st) σ') : AA G X cs ss pc lv (st) σ :=
  A_callS (av := []) hX hy hw d hM rfl hlen hst hfr hlo hc hs (k)
theorem A_S0d {w : Value} {σ1 : aS} (hX : AOk l G X cc own nm nL R) (hy : MkY y yc yL ret 0) (hw : LkS own idx y) (d : decode cc pc = .ok (.invokestatic idx, 3)) (hM : ACt l G y yc yL ret dd 0 0 [] σ (dP (some w) σ1)) (hlen : lv.length = nL) (hst : (st.map fun v => v.category).sum ≤ 8) (hfr : dd + 1 ≤ R.frames) (hlo : 8 + (yL + 11) + 36 * dd ≤ R.locals) (hc : cs ≤ R.cells) (hs : ss ≤ R.slots) (k : AA G X cs ss (pc + 3) lv (w :: st) σ1) : AA G X cs ss pc lv (st) σ :=
  A_callS (av := []) hX hy hw d hM rfl hlen hst hfr hlo hc hs (fun _ _ h => by obtain ⟨rfl, rfl⟩ := h; exact k)
theorem A_S0e {σ1 : aS} (hX : AOk l G X cc own nm nL R) (hy : MkY y yc yL ret 0) (hw : LkS own idx y) (d : decode cc pc = .ok (.invokestatic idx, 3)) (hM : ACt l G y yc yL ret dd 0 0 [] σ (dP none σ1)) (hlen : lv.length = nL) (hst : (st.map fun v => v.category).sum ≤ 8) (hfr : dd + 1 ≤ R.frames) (hlo : 8 + (yL + 11) + 36 * dd ≤ R.locals) (hc : cs ≤ R.cells) (hs : ss ≤ R.slots) (k : AA G X cs ss (pc + 3) lv st σ1) : AA G X cs ss pc lv (st) σ :=
  A_callS (av := []) hX hy hw d hM rfl hlen hst hfr hlo hc hs (fun _ _ h => by obtain ⟨rfl, rfl⟩ := h; exact k)
theorem A_S0i {Q : Int32 → aS → Prop} (hX : AOk l G X cc own nm nL R) (hy : MkY y yc yL ret 0) (hw : LkS own idx y) (d : decode cc pc = .ok (.invokestatic idx, 3)) (hM : ACt l G y yc yL ret dd 0 0 [] σ (iP Q)) (hlen : lv.length = nL) (hst : (st.map fun v => v.category).sum ≤ 8) (hfr : dd + 1 ≤ R.frames) (hlo : 8 + (yL + 11) + 36 * dd ≤ R.locals) (hc : cs ≤ R.cells) (hs : ss ≤ R.slots) (k : ∀ (x : Int32) (σ' : aS), Q x σ' → AA G X cs ss (pc + 3) lv (.int x :: st) σ') : AA G X cs ss pc lv (st) σ :=
  A_callS (av := []) hX hy hw d hM rfl hlen hst hfr hlo hc hs (fun _ σ' h => by obtain ⟨x, rfl, h⟩ := h; exact k x σ' h)
theorem A_S0j {Q : Int64 → aS → Prop} (hX : AOk l G X cc own nm nL R) (hy : MkY y yc yL ret 0) (hw : LkS own idx y) (d : decode cc pc = .ok (.invokestatic idx, 3)) (hM : ACt l G y yc yL ret dd 0 0 [] σ (jP Q)) (hlen : lv.length = nL) (hst : (st.map fun v => v.category).sum ≤ 8) (hfr : dd + 1 ≤ R.frames) (hlo : 8 + (yL + 11) + 36 * dd ≤ R.locals) (hc : cs ≤ R.cells) (hs : ss ≤ R.slots) (k : ∀ (x : Int64) (σ' : aS), Q x σ' → AA G X cs ss (pc + 3) lv (.long x :: st) σ') : AA G X cs ss pc lv (st) σ :=
  A_callS (av := []) hX hy hw d hM rfl hlen hst hfr hlo hc hs (fun _ σ' h => by obtain ⟨x, rfl, h⟩ := h; exact k x σ' h)
theorem A_S0v {Q : aS → Prop} (hX : AOk l G X cc own nm nL R) (hy : MkY y yc yL ret 0) (hw : LkS own idx y) (d : decode cc pc = .ok (.invokestatic idx, 3)) (hM : ACt l G y yc yL ret dd 0 0 [] σ (vP Q)) (hlen : lv.length = nL) (hst : (st.map fun v => v.category).sum ≤ 8) (hfr : dd + 1 ≤ R.frames) (hlo : 8 + (yL + 11) + 36 * dd ≤ R.locals) (hc : cs ≤ R.cells) (hs : ss ≤ R.slots) (k : ∀ σ' : aS, Q σ' → AA G X cs ss (pc + 3) lv st σ') : AA G X cs ss pc lv (st) σ :=
  A_callS (av := []) hX hy hw d hM rfl hlen hst hfr hlo hc hs (fun _ σ' h => by obtain ⟨rfl, h⟩ := h; exact k σ' h)
theorem A_S1 {a1 : Value} (hX : AOk l G X cc own nm nL R) (hy : MkY y yc yL ret 1) (hw : LkS own idx y) (d : decode cc pc = .ok (.invokestatic idx, 3)) (hM : ACt l G y yc yL ret dd mc ms [a1] σ P) (hlen : lv.length = nL) (hst : (st.map fun v => v.category).sum ≤ 8) (hfr : dd + 1 ≤ R.frames) (hlo : 8 + (yL + 11) + 36 * dd ≤ R.locals) (hc : cs + mc ≤ R.cells) (hs : ss + ms ≤ R.slots) (k : ∀ (r : Option Value) (σ' : aS), P r σ' → AA G X (cs + mc) (ss + ms) (pc + 3) lv (r.toList ++ st) σ') : AA G X cs ss pc lv (a1 :: st) σ :=
  A_callS (av := [a1]) hX hy hw d hM rfl hlen hst hfr hlo hc hs k
theorem A_S1p {a1 : Value} (hX : AOk l G X cc own nm nL R) (hy : MkY y yc yL ret 1) (hw : LkS own idx y) (d : decode cc pc = .ok (.invokestatic idx, 3)) (hM : ACt l G y yc yL ret dd 0 0 [a1] σ (P)) (hlen : lv.length = nL) (hst : (st.map fun v => v.category).sum ≤ 8) (hfr : dd + 1 ≤ R.frames) (hlo : 8 + (yL + 11) + 36 * dd ≤ R.locals) (hc : cs ≤ R.cells) (hs : ss ≤ R.slots) (k : ∀ (r : Option Value) (σ' : aS), P r σ' → AA G X cs ss (pc + 3) lv (r.toList ++ st) σ') : AA G X cs ss pc lv (a1 :: st) σ :=
  A_callS (av := [a1]) hX hy hw d hM rfl hlen hst hfr hlo hc hs (k)
theorem A_S1d {w : Value} {σ1 : aS} {a1 : Value} (hX : AOk l G X cc own nm nL R) (hy : MkY y yc yL ret 1) (hw : LkS own idx y) (d : decode cc pc = .ok (.invokestatic idx, 3)) (hM : ACt l G y yc yL ret dd 0 0 [a1] σ (dP (some w) σ1)) (hlen : lv.length = nL) (hst : (st.map fun v => v.category).sum ≤ 8) (hfr : dd + 1 ≤ R.frames) (hlo : 8 + (yL + 11) + 36 * dd ≤ R.locals) (hc : cs ≤ R.cells) (hs : ss ≤ R.slots) (k : AA G X cs ss (pc + 3) lv (w :: st) σ1) : AA G X cs ss pc lv (a1 :: st) σ :=
  A_callS (av := [a1]) hX hy hw d hM rfl hlen hst hfr hlo hc hs (fun _ _ h => by obtain ⟨rfl, rfl⟩ := h; exact k)
theorem A_S1e {σ1 : aS} {a1 : Value} (hX : AOk l G X cc own nm nL R) (hy : MkY y yc yL ret 1) (hw : LkS own idx y) (d : decode cc pc = .ok (.invokestatic idx, 3)) (hM : ACt l G y yc yL ret dd 0 0 [a1] σ (dP none σ1)) (hlen : lv.length = nL) (hst : (st.map fun v => v.category).sum ≤ 8) (hfr : dd + 1 ≤ R.frames) (hlo : 8 + (yL + 11) + 36 * dd ≤ R.locals) (hc : cs ≤ R.cells) (hs : ss ≤ R.slots) (k : AA G X cs ss (pc + 3) lv st σ1) : AA G X cs ss pc lv (a1 :: st) σ :=
  A_callS (av := [a1]) hX hy hw d hM rfl hlen hst hfr hlo hc hs (fun _ _ h => by obtain ⟨rfl, rfl⟩ := h; exact k)
theorem A_S1i {Q : Int32 → aS → Prop} {a1 : Value} (hX : AOk l G X cc own nm nL R) (hy : MkY y yc yL ret 1) (hw : LkS own idx y) (d : decode cc pc = .ok (.invokestatic idx, 3)) (hM : ACt l G y yc yL ret dd 0 0 [a1] σ (iP Q)) (hlen : lv.length = nL) (hst : (st.map fun v => v.category).sum ≤ 8) (hfr : dd + 1 ≤ R.frames) (hlo : 8 + (yL + 11) + 36 * dd ≤ R.locals) (hc : cs ≤ R.cells) (hs : ss ≤ R.slots) (k : ∀ (x : Int32) (σ' : aS), Q x σ' → AA G X cs ss (pc + 3) lv (.int x :: st) σ') : AA G X cs ss pc lv (a1 :: st) σ :=
  A_callS (av := [a1]) hX hy hw d hM rfl hlen hst hfr hlo hc hs (fun _ σ' h => by obtain ⟨x, rfl, h⟩ := h; exact k x σ' h)
theorem A_S1j {Q : Int64 → aS → Prop} {a1 : Value} (hX : AOk l G X cc own nm nL R) (hy : MkY y yc yL ret 1) (hw : LkS own idx y) (d : decode cc pc = .ok (.invokestatic idx, 3)) (hM : ACt l G y yc yL ret dd 0 0 [a1] σ (jP Q)) (hlen : lv.length = nL) (hst : (st.map fun v => v.category).sum ≤ 8) (hfr : dd + 1 ≤ R.frames) (hlo : 8 + (yL + 11) + 36 * dd ≤ R.locals) (hc : cs ≤ R.cells) (hs : ss ≤ R.slots) (k : ∀ (x : Int64) (σ' : aS), Q x σ' → AA G X cs ss (pc + 3) lv (.long x :: st) σ') : AA G X cs ss pc lv (a1 :: st) σ :=
  A_callS (av := [a1]) hX hy hw d hM rfl hlen hst hfr hlo hc hs (fun _ σ' h => by obtain ⟨x, rfl, h⟩ := h; exact k x σ' h)
theorem A_S1v {Q : aS → Prop} {a1 : Value} (hX : AOk l G X cc own nm nL R) (hy : MkY y yc yL ret 1) (hw : LkS own idx y) (d : decode cc pc = .ok (.invokestatic idx, 3)) (hM : ACt l G y yc yL ret dd 0 0 [a1] σ (vP Q)) (hlen : lv.length = nL) (hst : (st.map fun v => v.category).sum ≤ 8) (hfr : dd + 1 ≤ R.frames) (hlo : 8 + (yL + 11) + 36 * dd ≤ R.locals) (hc : cs ≤ R.cells) (hs : ss ≤ R.slots) (k : ∀ σ' : aS, Q σ' → AA G X cs ss (pc + 3) lv st σ') : AA G X cs ss pc lv (a1 :: st) σ :=
  A_callS (av := [a1]) hX hy hw d hM rfl hlen hst hfr hlo hc hs (fun _ σ' h => by obtain ⟨rfl, h⟩ := h; exact k σ' h)
theorem A_S2 {a1 a2 : Value} (hX : AOk l G X cc own nm nL R) (hy : MkY y yc yL ret 2) (hw : LkS own idx y) (d : decode cc pc = .ok (.invokestatic idx, 3)) (hM : ACt l G y yc yL ret dd mc ms [a1, a2] σ P) (hlen : lv.length = nL) (hst : (st.map fun v => v.category).sum ≤ 8) (hfr : dd + 1 ≤ R.frames) (hlo : 8 + (yL + 11) + 36 * dd ≤ R.locals) (hc : cs + mc ≤ R.cells) (hs : ss + ms ≤ R.slots) (k : ∀ (r : Option Value) (σ' : aS), P r σ' → AA G X (cs + mc) (ss + ms) (pc + 3) lv (r.toList ++ st) σ') : AA G X cs ss pc lv (a2 :: a1 :: st) σ :=
  A_callS (av := [a1, a2]) hX hy hw d hM rfl hlen hst hfr hlo hc hs k
theorem A_S2p {a1 a2 : Value} (hX : AOk l G X cc own nm nL R) (hy : MkY y yc yL ret 2) (hw : LkS own idx y) (d : decode cc pc = .ok (.invokestatic idx, 3)) (hM : ACt l G y yc yL ret dd 0 0 [a1, a2] σ (P)) (hlen : lv.length = nL) (hst : (st.map fun v => v.category).sum ≤ 8) (hfr : dd + 1 ≤ R.frames) (hlo : 8 + (yL + 11) + 36 * dd ≤ R.locals) (hc : cs ≤ R.cells) (hs : ss ≤ R.slots) (k : ∀ (r : Option Value) (σ' : aS), P r σ' → AA G X cs ss (pc + 3) lv (r.toList ++ st) σ') : AA G X cs ss pc lv (a2 :: a1 :: st) σ :=
  A_callS (av := [a1, a2]) hX hy hw d hM rfl hlen hst hfr hlo hc hs (k)
theorem A_S2d {w : Value} {σ1 : aS} {a1 a2 : Value} (hX : AOk l G X cc own nm nL R) (hy : MkY y yc yL ret 2) (hw : LkS own idx y) (d : decode cc pc = .ok (.invokestatic idx, 3)) (hM : ACt l G y yc yL ret dd 0 0 [a1, a2] σ (dP (some w) σ1)) (hlen : lv.length = nL) (hst : (st.map fun v => v.category).sum ≤ 8) (hfr : dd + 1 ≤ R.frames) (hlo : 8 + (yL + 11) + 36 * dd ≤ R.locals) (hc : cs ≤ R.cells) (hs : ss ≤ R.slots) (k : AA G X cs ss (pc + 3) lv (w :: st) σ1) : AA G X cs ss pc lv (a2 :: a1 :: st) σ :=
  A_callS (av := [a1, a2]) hX hy hw d hM rfl hlen hst hfr hlo hc hs (fun _ _ h => by obtain ⟨rfl, rfl⟩ := h; exact k)
theorem A_S2e {σ1 : aS} {a1 a2 : Value} (hX : AOk l G X cc own nm nL R) (hy : MkY y yc yL ret 2) (hw : LkS own idx y) (d : decode cc pc = .ok (.invokestatic idx, 3)) (hM : ACt l G y yc yL ret dd 0 0 [a1, a2] σ (dP none σ1)) (hlen : lv.length = nL) (hst : (st.map fun v => v.category).sum ≤ 8) (hfr : dd + 1 ≤ R.frames) (hlo : 8 + (yL + 11) + 36 * dd ≤ R.locals) (hc : cs ≤ R.cells) (hs : ss ≤ R.slots) (k : AA G X cs ss (pc + 3) lv st σ1) : AA G X cs ss pc lv (a2 :: a1 :: st) σ :=
  A_callS (av := [a1, a2]) hX hy hw d hM rfl hlen hst hfr hlo hc hs (fun _ _ h => by obtain ⟨rfl, rfl⟩ := h; exact k)
theorem A_S2i {Q : Int32 → aS → Prop} {a1 a2 : Value} (hX : AOk l G X cc own nm nL R) (hy : MkY y yc yL ret 2) (hw : LkS own idx y) (d : decode cc pc = .ok (.invokestatic idx, 3)) (hM : ACt l G y yc yL ret dd 0 0 [a1, a2] σ (iP Q)) (hlen : lv.length = nL) (hst : (st.map fun v => v.category).sum ≤ 8) (hfr : dd + 1 ≤ R.frames) (hlo : 8 + (yL + 11) + 36 * dd ≤ R.locals) (hc : cs ≤ R.cells) (hs : ss ≤ R.slots) (k : ∀ (x : Int32) (σ' : aS), Q x σ' → AA G X cs ss (pc + 3) lv (.int x :: st) σ') : AA G X cs ss pc lv (a2 :: a1 :: st) σ :=
  A_callS (av := [a1, a2]) hX hy hw d hM rfl hlen hst hfr hlo hc hs (fun _ σ' h => by obtain ⟨x, rfl, h⟩ := h; exact k x σ' h)
theorem A_S2j {Q : Int64 → aS → Prop} {a1 a2 : Value} (hX : AOk l G X cc own nm nL R) (hy : MkY y yc yL ret 2) (hw : LkS own idx y) (d : decode cc pc = .ok (.invokestatic idx, 3)) (hM : ACt l G y yc yL ret dd 0 0 [a1, a2] σ (jP Q)) (hlen : lv.length = nL) (hst : (st.map fun v => v.category).sum ≤ 8) (hfr : dd + 1 ≤ R.frames) (hlo : 8 + (yL + 11) + 36 * dd ≤ R.locals) (hc : cs ≤ R.cells) (hs : ss ≤ R.slots) (k : ∀ (x : Int64) (σ' : aS), Q x σ' → AA G X cs ss (pc + 3) lv (.long x :: st) σ') : AA G X cs ss pc lv (a2 :: a1 :: st) σ :=
  A_callS (av := [a1, a2]) hX hy hw d hM rfl hlen hst hfr hlo hc hs (fun _ σ' h => by obtain ⟨x, rfl, h⟩ := h; exact k x σ' h)
theorem A_S2v {Q : aS → Prop} {a1 a2 : Value} (hX : AOk l G X cc own nm nL R) (hy : MkY y yc yL ret 2) (hw : LkS own idx y) (d : decode cc pc = .ok (.invokestatic idx, 3)) (hM : ACt l G y yc yL ret dd 0 0 [a1, a2] σ (vP Q)) (hlen : lv.length = nL) (hst : (st.map fun v => v.category).sum ≤ 8) (hfr : dd + 1 ≤ R.frames) (hlo : 8 + (yL + 11) + 36 * dd ≤ R.locals) (hc : cs ≤ R.cells) (hs : ss ≤ R.slots) (k : ∀ σ' : aS, Q σ' → AA G X cs ss (pc + 3) lv st σ') : AA G X cs ss pc lv (a2 :: a1 :: st) σ :=
  A_callS (av := [a1, a2]) hX hy hw d hM rfl hlen hst hfr hlo hc hs (fun _ σ' h => by obtain ⟨rfl, h⟩ := h; exact k σ' h)
theorem A_S3 {a1 a2 a3 : Value} (hX : AOk l G X cc own nm nL R) (hy : MkY y yc yL ret 3) (hw : LkS own idx y) (d : decode cc pc = .ok (.invokestatic idx, 3)) (hM : ACt l G y yc yL ret dd mc ms [a1, a2, a3] σ P) (hlen : lv.length = nL) (hst : (st.map fun v => v.category).sum ≤ 8) (hfr : dd + 1 ≤ R.frames) (hlo : 8 + (yL + 11) + 36 * dd ≤ R.locals) (hc : cs + mc ≤ R.cells) (hs : ss + ms ≤ R.slots) (k : ∀ (r : Option Value) (σ' : aS), P r σ' → AA G X (cs + mc) (ss + ms) (pc + 3) lv (r.toList ++ st) σ') : AA G X cs ss pc lv (a3 :: a2 :: a1 :: st) σ :=
  A_callS (av := [a1, a2, a3]) hX hy hw d hM rfl hlen hst hfr hlo hc hs k
theorem A_S3p {a1 a2 a3 : Value} (hX : AOk l G X cc own nm nL R) (hy : MkY y yc yL ret 3) (hw : LkS own idx y) (d : decode cc pc = .ok (.invokestatic idx, 3)) (hM : ACt l G y yc yL ret dd 0 0 [a1, a2, a3] σ (P)) (hlen : lv.length = nL) (hst : (st.map fun v => v.category).sum ≤ 8) (hfr : dd + 1 ≤ R.frames) (hlo : 8 + (yL + 11) + 36 * dd ≤ R.locals) (hc : cs ≤ R.cells) (hs : ss ≤ R.slots) (k : ∀ (r : Option Value) (σ' : aS), P r σ' → AA G X cs ss (pc + 3) lv (r.toList ++ st) σ') : AA G X cs ss pc lv (a3 :: a2 :: a1 :: st) σ :=
  A_callS (av := [a1, a2, a3]) hX hy hw d hM rfl hlen hst hfr hlo hc hs (k)
theorem A_S3d {w : Value} {σ1 : aS} {a1 a2 a3 : Value} (hX : AOk l G X cc own nm nL R) (hy : MkY y yc yL ret 3) (hw : LkS own idx y) (d : decode cc pc = .ok (.invokestatic idx, 3)) (hM : ACt l G y yc yL ret dd 0 0 [a1, a2, a3] σ (dP (some w) σ1)) (hlen : lv.length = nL) (hst : (st.map fun v => v.category).sum ≤ 8) (hfr : dd + 1 ≤ R.frames) (hlo : 8 + (yL + 11) + 36 * dd ≤ R.locals) (hc : cs ≤ R.cells) (hs : ss ≤ R.slots) (k : AA G X cs ss (pc + 3) lv (w :: st) σ1) : AA G X cs ss pc lv (a3 :: a2 :: a1 :: st) σ :=
  A_callS (av := [a1, a2, a3]) hX hy hw d hM rfl hlen hst hfr hlo hc hs (fun _ _ h => by obtain ⟨rfl, rfl⟩ := h; exact k)
theorem A_S3e {σ1 : aS} {a1 a2 a3 : Value} (hX : AOk l G X cc own nm nL R) (hy : MkY y yc yL ret 3) (hw : LkS own idx y) (d : decode cc pc = .ok (.invokestatic idx, 3)) (hM : ACt l G y yc yL ret dd 0 0 [a1, a2, a3] σ (dP none σ1)) (hlen : lv.length = nL) (hst : (st.map fun v => v.category).sum ≤ 8) (hfr : dd + 1 ≤ R.frames) (hlo : 8 + (yL + 11) + 36 * dd ≤ R.locals) (hc : cs ≤ R.cells) (hs : ss ≤ R.slots) (k : AA G X cs ss (pc + 3) lv st σ1) : AA G X cs ss pc lv (a3 :: a2 :: a1 :: st) σ :=
  A_callS (av := [a1, a2, a3]) hX hy hw d hM rfl hlen hst hfr hlo hc hs (fun _ _ h => by obtain ⟨rfl, rfl⟩ := h; exact k)
theorem A_S3i {Q : Int32 → aS → Prop} {a1 a2 a3 : Value} (hX : AOk l G X cc own nm nL R) (hy : MkY y yc yL ret 3) (hw : LkS own idx y) (d : decode cc pc = .ok (.invokestatic idx, 3)) (hM : ACt l G y yc yL ret dd 0 0 [a1, a2, a3] σ (iP Q)) (hlen : lv.length = nL) (hst : (st.map fun v => v.category).sum ≤ 8) (hfr : dd + 1 ≤ R.frames) (hlo : 8 + (yL + 11) + 36 * dd ≤ R.locals) (hc : cs ≤ R.cells) (hs : ss ≤ R.slots) (k : ∀ (x : Int32) (σ' : aS), Q x σ' → AA G X cs ss (pc + 3) lv (.int x :: st) σ') : AA G X cs ss pc lv (a3 :: a2 :: a1 :: st) σ :=
  A_callS (av := [a1, a2, a3]) hX hy hw d hM rfl hlen hst hfr hlo hc hs (fun _ σ' h => by obtain ⟨x, rfl, h⟩ := h; exact k x σ' h)
theorem A_S3j {Q : Int64 → aS → Prop} {a1 a2 a3 : Value} (hX : AOk l G X cc own nm nL R) (hy : MkY y yc yL ret 3) (hw : LkS own idx y) (d : decode cc pc = .ok (.invokestatic idx, 3)) (hM : ACt l G y yc yL ret dd 0 0 [a1, a2, a3] σ (jP Q)) (hlen : lv.length = nL) (hst : (st.map fun v => v.category).sum ≤ 8) (hfr : dd + 1 ≤ R.frames) (hlo : 8 + (yL + 11) + 36 * dd ≤ R.locals) (hc : cs ≤ R.cells) (hs : ss ≤ R.slots) (k : ∀ (x : Int64) (σ' : aS), Q x σ' → AA G X cs ss (pc + 3) lv (.long x :: st) σ') : AA G X cs ss pc lv (a3 :: a2 :: a1 :: st) σ :=
  A_callS (av := [a1, a2, a3]) hX hy hw d hM rfl hlen hst hfr hlo hc hs (fun _ σ' h => by obtain ⟨x, rfl, h⟩ := h; exact k x σ' h)
theorem A_S3v {Q : aS → Prop} {a1 a2 a3 : Value} (hX : AOk l G X cc own nm nL R) (hy : MkY y yc yL ret 3) (hw : LkS own idx y) (d : decode cc pc = .ok (.invokestatic idx, 3)) (hM : ACt l G y yc yL ret dd 0 0 [a1, a2, a3] σ (vP Q)) (hlen : lv.length = nL) (hst : (st.map fun v => v.category).sum ≤ 8) (hfr : dd + 1 ≤ R.frames) (hlo : 8 + (yL + 11) + 36 * dd ≤ R.locals) (hc : cs ≤ R.cells) (hs : ss ≤ R.slots) (k : ∀ σ' : aS, Q σ' → AA G X cs ss (pc + 3) lv st σ') : AA G X cs ss pc lv (a3 :: a2 :: a1 :: st) σ :=
  A_callS (av := [a1, a2, a3]) hX hy hw d hM rfl hlen hst hfr hlo hc hs (fun _ σ' h => by obtain ⟨rfl, h⟩ := h; exact k σ' h)
theorem A_S4 {a1 a2 a3 a4 : Value} (hX : AOk l G X cc own nm nL R) (hy : MkY y yc yL ret 4) (hw : LkS own idx y) (d : decode cc pc = .ok (.invokestatic idx, 3)) (hM : ACt l G y yc yL ret dd mc ms [a1, a2, a3, a4] σ P) (hlen : lv.length = nL) (hst : (st.map fun v => v.category).sum ≤ 8) (hfr : dd + 1 ≤ R.frames) (hlo : 8 + (yL + 11) + 36 * dd ≤ R.locals) (hc : cs + mc ≤ R.cells) (hs : ss + ms ≤ R.slots) (k : ∀ (r : Option Value) (σ' : aS), P r σ' → AA G X (cs + mc) (ss + ms) (pc + 3) lv (r.toList ++ st) σ') : AA G X cs ss pc lv (a4 :: a3 :: a2 :: a1 :: st) σ :=
  A_callS (av := [a1, a2, a3, a4]) hX hy hw d hM rfl hlen hst hfr hlo hc hs k
theorem A_S4p {a1 a2 a3 a4 : Value} (hX : AOk l G X cc own nm nL R) (hy : MkY y yc yL ret 4) (hw : LkS own idx y) (d : decode cc pc = .ok (.invokestatic idx, 3)) (hM : ACt l G y yc yL ret dd 0 0 [a1, a2, a3, a4] σ (P)) (hlen : lv.length = nL) (hst : (st.map fun v => v.category).sum ≤ 8) (hfr : dd + 1 ≤ R.frames) (hlo : 8 + (yL + 11) + 36 * dd ≤ R.locals) (hc : cs ≤ R.cells) (hs : ss ≤ R.slots) (k : ∀ (r : Option Value) (σ' : aS), P r σ' → AA G X cs ss (pc + 3) lv (r.toList ++ st) σ') : AA G X cs ss pc lv (a4 :: a3 :: a2 :: a1 :: st) σ :=
  A_callS (av := [a1, a2, a3, a4]) hX hy hw d hM rfl hlen hst hfr hlo hc hs (k)
theorem A_S4d {w : Value} {σ1 : aS} {a1 a2 a3 a4 : Value} (hX : AOk l G X cc own nm nL R) (hy : MkY y yc yL ret 4) (hw : LkS own idx y) (d : decode cc pc = .ok (.invokestatic idx, 3)) (hM : ACt l G y yc yL ret dd 0 0 [a1, a2, a3, a4] σ (dP (some w) σ1)) (hlen : lv.length = nL) (hst : (st.map fun v => v.category).sum ≤ 8) (hfr : dd + 1 ≤ R.frames) (hlo : 8 + (yL + 11) + 36 * dd ≤ R.locals) (hc : cs ≤ R.cells) (hs : ss ≤ R.slots) (k : AA G X cs ss (pc + 3) lv (w :: st) σ1) : AA G X cs ss pc lv (a4 :: a3 :: a2 :: a1 :: st) σ :=
  A_callS (av := [a1, a2, a3, a4]) hX hy hw d hM rfl hlen hst hfr hlo hc hs (fun _ _ h => by obtain ⟨rfl, rfl⟩ := h; exact k)
theorem A_S4e {σ1 : aS} {a1 a2 a3 a4 : Value} (hX : AOk l G X cc own nm nL R) (hy : MkY y yc yL ret 4) (hw : LkS own idx y) (d : decode cc pc = .ok (.invokestatic idx, 3)) (hM : ACt l G y yc yL ret dd 0 0 [a1, a2, a3, a4] σ (dP none σ1)) (hlen : lv.length = nL) (hst : (st.map fun v => v.category).sum ≤ 8) (hfr : dd + 1 ≤ R.frames) (hlo : 8 + (yL + 11) + 36 * dd ≤ R.locals) (hc : cs ≤ R.cells) (hs : ss ≤ R.slots) (k : AA G X cs ss (pc + 3) lv st σ1) : AA G X cs ss pc lv (a4 :: a3 :: a2 :: a1 :: st) σ :=
  A_callS (av := [a1, a2, a3, a4]) hX hy hw d hM rfl hlen hst hfr hlo hc hs (fun _ _ h => by obtain ⟨rfl, rfl⟩ := h; exact k)
theorem A_S4i {Q : Int32 → aS → Prop} {a1 a2 a3 a4 : Value} (hX : AOk l G X cc own nm nL R) (hy : MkY y yc yL ret 4) (hw : LkS own idx y) (d : decode cc pc = .ok (.invokestatic idx, 3)) (hM : ACt l G y yc yL ret dd 0 0 [a1, a2, a3, a4] σ (iP Q)) (hlen : lv.length = nL) (hst : (st.map fun v => v.category).sum ≤ 8) (hfr : dd + 1 ≤ R.frames) (hlo : 8 + (yL + 11) + 36 * dd ≤ R.locals) (hc : cs ≤ R.cells) (hs : ss ≤ R.slots) (k : ∀ (x : Int32) (σ' : aS), Q x σ' → AA G X cs ss (pc + 3) lv (.int x :: st) σ') : AA G X cs ss pc lv (a4 :: a3 :: a2 :: a1 :: st) σ :=
  A_callS (av := [a1, a2, a3, a4]) hX hy hw d hM rfl hlen hst hfr hlo hc hs (fun _ σ' h => by obtain ⟨x, rfl, h⟩ := h; exact k x σ' h)
theorem A_S4j {Q : Int64 → aS → Prop} {a1 a2 a3 a4 : Value} (hX : AOk l G X cc own nm nL R) (hy : MkY y yc yL ret 4) (hw : LkS own idx y) (d : decode cc pc = .ok (.invokestatic idx, 3)) (hM : ACt l G y yc yL ret dd 0 0 [a1, a2, a3, a4] σ (jP Q)) (hlen : lv.length = nL) (hst : (st.map fun v => v.category).sum ≤ 8) (hfr : dd + 1 ≤ R.frames) (hlo : 8 + (yL + 11) + 36 * dd ≤ R.locals) (hc : cs ≤ R.cells) (hs : ss ≤ R.slots) (k : ∀ (x : Int64) (σ' : aS), Q x σ' → AA G X cs ss (pc + 3) lv (.long x :: st) σ') : AA G X cs ss pc lv (a4 :: a3 :: a2 :: a1 :: st) σ :=
  A_callS (av := [a1, a2, a3, a4]) hX hy hw d hM rfl hlen hst hfr hlo hc hs (fun _ σ' h => by obtain ⟨x, rfl, h⟩ := h; exact k x σ' h)
theorem A_S4v {Q : aS → Prop} {a1 a2 a3 a4 : Value} (hX : AOk l G X cc own nm nL R) (hy : MkY y yc yL ret 4) (hw : LkS own idx y) (d : decode cc pc = .ok (.invokestatic idx, 3)) (hM : ACt l G y yc yL ret dd 0 0 [a1, a2, a3, a4] σ (vP Q)) (hlen : lv.length = nL) (hst : (st.map fun v => v.category).sum ≤ 8) (hfr : dd + 1 ≤ R.frames) (hlo : 8 + (yL + 11) + 36 * dd ≤ R.locals) (hc : cs ≤ R.cells) (hs : ss ≤ R.slots) (k : ∀ σ' : aS, Q σ' → AA G X cs ss (pc + 3) lv st σ') : AA G X cs ss pc lv (a4 :: a3 :: a2 :: a1 :: st) σ :=
  A_callS (av := [a1, a2, a3, a4]) hX hy hw d hM rfl hlen hst hfr hlo hc hs (fun _ σ' h => by obtain ⟨rfl, h⟩ := h; exact k σ' h)
theorem A_V0 {b : Nat} {ci : Nat} {fs : List Value} (hX : AOk l G X cc own nm nL R) (hy : MkY y yc yL ret 0) (hw : LkV own idx y ci) (d : decode cc pc = .ok (.invokevirtual idx, 3)) (ho : σ.2 b = some (aO ci fs)) (hM : ACt l G y yc yL ret dd mc ms [.ref b] σ P) (hlen : lv.length = nL) (hst : (st.map fun v => v.category).sum ≤ 8) (hfr : dd + 1 ≤ R.frames) (hlo : 8 + (yL + 11) + 36 * dd ≤ R.locals) (hc : cs + mc ≤ R.cells) (hs : ss + ms ≤ R.slots) (k : ∀ (r : Option Value) (σ' : aS), P r σ' → AA G X (cs + mc) (ss + ms) (pc + 3) lv (r.toList ++ st) σ') : AA G X cs ss pc lv (.ref b :: st) σ :=
  A_callV (av := []) hX hy hw d ho hM rfl hlen hst hfr hlo hc hs k
theorem A_V0p {b : Nat} {ci : Nat} {fs : List Value} (hX : AOk l G X cc own nm nL R) (hy : MkY y yc yL ret 0) (hw : LkV own idx y ci) (d : decode cc pc = .ok (.invokevirtual idx, 3)) (ho : σ.2 b = some (aO ci fs)) (hM : ACt l G y yc yL ret dd 0 0 [.ref b] σ (P)) (hlen : lv.length = nL) (hst : (st.map fun v => v.category).sum ≤ 8) (hfr : dd + 1 ≤ R.frames) (hlo : 8 + (yL + 11) + 36 * dd ≤ R.locals) (hc : cs ≤ R.cells) (hs : ss ≤ R.slots) (k : ∀ (r : Option Value) (σ' : aS), P r σ' → AA G X cs ss (pc + 3) lv (r.toList ++ st) σ') : AA G X cs ss pc lv (.ref b :: st) σ :=
  A_callV (av := []) hX hy hw d ho hM rfl hlen hst hfr hlo hc hs (k)
theorem A_V0d {w : Value} {σ1 : aS} {b : Nat} {ci : Nat} {fs : List Value} (hX : AOk l G X cc own nm nL R) (hy : MkY y yc yL ret 0) (hw : LkV own idx y ci) (d : decode cc pc = .ok (.invokevirtual idx, 3)) (ho : σ.2 b = some (aO ci fs)) (hM : ACt l G y yc yL ret dd 0 0 [.ref b] σ (dP (some w) σ1)) (hlen : lv.length = nL) (hst : (st.map fun v => v.category).sum ≤ 8) (hfr : dd + 1 ≤ R.frames) (hlo : 8 + (yL + 11) + 36 * dd ≤ R.locals) (hc : cs ≤ R.cells) (hs : ss ≤ R.slots) (k : AA G X cs ss (pc + 3) lv (w :: st) σ1) : AA G X cs ss pc lv (.ref b :: st) σ :=
  A_callV (av := []) hX hy hw d ho hM rfl hlen hst hfr hlo hc hs (fun _ _ h => by obtain ⟨rfl, rfl⟩ := h; exact k)
theorem A_V0e {σ1 : aS} {b : Nat} {ci : Nat} {fs : List Value} (hX : AOk l G X cc own nm nL R) (hy : MkY y yc yL ret 0) (hw : LkV own idx y ci) (d : decode cc pc = .ok (.invokevirtual idx, 3)) (ho : σ.2 b = some (aO ci fs)) (hM : ACt l G y yc yL ret dd 0 0 [.ref b] σ (dP none σ1)) (hlen : lv.length = nL) (hst : (st.map fun v => v.category).sum ≤ 8) (hfr : dd + 1 ≤ R.frames) (hlo : 8 + (yL + 11) + 36 * dd ≤ R.locals) (hc : cs ≤ R.cells) (hs : ss ≤ R.slots) (k : AA G X cs ss (pc + 3) lv st σ1) : AA G X cs ss pc lv (.ref b :: st) σ :=
  A_callV (av := []) hX hy hw d ho hM rfl hlen hst hfr hlo hc hs (fun _ _ h => by obtain ⟨rfl, rfl⟩ := h; exact k)
theorem A_V0i {Q : Int32 → aS → Prop} {b : Nat} {ci : Nat} {fs : List Value} (hX : AOk l G X cc own nm nL R) (hy : MkY y yc yL ret 0) (hw : LkV own idx y ci) (d : decode cc pc = .ok (.invokevirtual idx, 3)) (ho : σ.2 b = some (aO ci fs)) (hM : ACt l G y yc yL ret dd 0 0 [.ref b] σ (iP Q)) (hlen : lv.length = nL) (hst : (st.map fun v => v.category).sum ≤ 8) (hfr : dd + 1 ≤ R.frames) (hlo : 8 + (yL + 11) + 36 * dd ≤ R.locals) (hc : cs ≤ R.cells) (hs : ss ≤ R.slots) (k : ∀ (x : Int32) (σ' : aS), Q x σ' → AA G X cs ss (pc + 3) lv (.int x :: st) σ') : AA G X cs ss pc lv (.ref b :: st) σ :=
  A_callV (av := []) hX hy hw d ho hM rfl hlen hst hfr hlo hc hs (fun _ σ' h => by obtain ⟨x, rfl, h⟩ := h; exact k x σ' h)
theorem A_V0j {Q : Int64 → aS → Prop} {b : Nat} {ci : Nat} {fs : List Value} (hX : AOk l G X cc own nm nL R) (hy : MkY y yc yL ret 0) (hw : LkV own idx y ci) (d : decode cc pc = .ok (.invokevirtual idx, 3)) (ho : σ.2 b = some (aO ci fs)) (hM : ACt l G y yc yL ret dd 0 0 [.ref b] σ (jP Q)) (hlen : lv.length = nL) (hst : (st.map fun v => v.category).sum ≤ 8) (hfr : dd + 1 ≤ R.frames) (hlo : 8 + (yL + 11) + 36 * dd ≤ R.locals) (hc : cs ≤ R.cells) (hs : ss ≤ R.slots) (k : ∀ (x : Int64) (σ' : aS), Q x σ' → AA G X cs ss (pc + 3) lv (.long x :: st) σ') : AA G X cs ss pc lv (.ref b :: st) σ :=
  A_callV (av := []) hX hy hw d ho hM rfl hlen hst hfr hlo hc hs (fun _ σ' h => by obtain ⟨x, rfl, h⟩ := h; exact k x σ' h)
theorem A_V0v {Q : aS → Prop} {b : Nat} {ci : Nat} {fs : List Value} (hX : AOk l G X cc own nm nL R) (hy : MkY y yc yL ret 0) (hw : LkV own idx y ci) (d : decode cc pc = .ok (.invokevirtual idx, 3)) (ho : σ.2 b = some (aO ci fs)) (hM : ACt l G y yc yL ret dd 0 0 [.ref b] σ (vP Q)) (hlen : lv.length = nL) (hst : (st.map fun v => v.category).sum ≤ 8) (hfr : dd + 1 ≤ R.frames) (hlo : 8 + (yL + 11) + 36 * dd ≤ R.locals) (hc : cs ≤ R.cells) (hs : ss ≤ R.slots) (k : ∀ σ' : aS, Q σ' → AA G X cs ss (pc + 3) lv st σ') : AA G X cs ss pc lv (.ref b :: st) σ :=
  A_callV (av := []) hX hy hw d ho hM rfl hlen hst hfr hlo hc hs (fun _ σ' h => by obtain ⟨rfl, h⟩ := h; exact k σ' h)
theorem A_V1 {a1 : Value} {b : Nat} {ci : Nat} {fs : List Value} (hX : AOk l G X cc own nm nL R) (hy : MkY y yc yL ret 1) (hw : LkV own idx y ci) (d : decode cc pc = .ok (.invokevirtual idx, 3)) (ho : σ.2 b = some (aO ci fs)) (hM : ACt l G y yc yL ret dd mc ms [.ref b, a1] σ P) (hlen : lv.length = nL) (hst : (st.map fun v => v.category).sum ≤ 8) (hfr : dd + 1 ≤ R.frames) (hlo : 8 + (yL + 11) + 36 * dd ≤ R.locals) (hc : cs + mc ≤ R.cells) (hs : ss + ms ≤ R.slots) (k : ∀ (r : Option Value) (σ' : aS), P r σ' → AA G X (cs + mc) (ss + ms) (pc + 3) lv (r.toList ++ st) σ') : AA G X cs ss pc lv (a1 :: .ref b :: st) σ :=
  A_callV (av := [a1]) hX hy hw d ho hM rfl hlen hst hfr hlo hc hs k
theorem A_V1p {a1 : Value} {b : Nat} {ci : Nat} {fs : List Value} (hX : AOk l G X cc own nm nL R) (hy : MkY y yc yL ret 1) (hw : LkV own idx y ci) (d : decode cc pc = .ok (.invokevirtual idx, 3)) (ho : σ.2 b = some (aO ci fs)) (hM : ACt l G y yc yL ret dd 0 0 [.ref b, a1] σ (P)) (hlen : lv.length = nL) (hst : (st.map fun v => v.category).sum ≤ 8) (hfr : dd + 1 ≤ R.frames) (hlo : 8 + (yL + 11) + 36 * dd ≤ R.locals) (hc : cs ≤ R.cells) (hs : ss ≤ R.slots) (k : ∀ (r : Option Value) (σ' : aS), P r σ' → AA G X cs ss (pc + 3) lv (r.toList ++ st) σ') : AA G X cs ss pc lv (a1 :: .ref b :: st) σ :=
  A_callV (av := [a1]) hX hy hw d ho hM rfl hlen hst hfr hlo hc hs (k)
theorem A_V1d {w : Value} {σ1 : aS} {a1 : Value} {b : Nat} {ci : Nat} {fs : List Value} (hX : AOk l G X cc own nm nL R) (hy : MkY y yc yL ret 1) (hw : LkV own idx y ci) (d : decode cc pc = .ok (.invokevirtual idx, 3)) (ho : σ.2 b = some (aO ci fs)) (hM : ACt l G y yc yL ret dd 0 0 [.ref b, a1] σ (dP (some w) σ1)) (hlen : lv.length = nL) (hst : (st.map fun v => v.category).sum ≤ 8) (hfr : dd + 1 ≤ R.frames) (hlo : 8 + (yL + 11) + 36 * dd ≤ R.locals) (hc : cs ≤ R.cells) (hs : ss ≤ R.slots) (k : AA G X cs ss (pc + 3) lv (w :: st) σ1) : AA G X cs ss pc lv (a1 :: .ref b :: st) σ :=
  A_callV (av := [a1]) hX hy hw d ho hM rfl hlen hst hfr hlo hc hs (fun _ _ h => by obtain ⟨rfl, rfl⟩ := h; exact k)
theorem A_V1e {σ1 : aS} {a1 : Value} {b : Nat} {ci : Nat} {fs : List Value} (hX : AOk l G X cc own nm nL R) (hy : MkY y yc yL ret 1) (hw : LkV own idx y ci) (d : decode cc pc = .ok (.invokevirtual idx, 3)) (ho : σ.2 b = some (aO ci fs)) (hM : ACt l G y yc yL ret dd 0 0 [.ref b, a1] σ (dP none σ1)) (hlen : lv.length = nL) (hst : (st.map fun v => v.category).sum ≤ 8) (hfr : dd + 1 ≤ R.frames) (hlo : 8 + (yL + 11) + 36 * dd ≤ R.locals) (hc : cs ≤ R.cells) (hs : ss ≤ R.slots) (k : AA G X cs ss (pc + 3) lv st σ1) : AA G X cs ss pc lv (a1 :: .ref b :: st) σ :=
  A_callV (av := [a1]) hX hy hw d ho hM rfl hlen hst hfr hlo hc hs (fun _ _ h => by obtain ⟨rfl, rfl⟩ := h; exact k)
theorem A_V1i {Q : Int32 → aS → Prop} {a1 : Value} {b : Nat} {ci : Nat} {fs : List Value} (hX : AOk l G X cc own nm nL R) (hy : MkY y yc yL ret 1) (hw : LkV own idx y ci) (d : decode cc pc = .ok (.invokevirtual idx, 3)) (ho : σ.2 b = some (aO ci fs)) (hM : ACt l G y yc yL ret dd 0 0 [.ref b, a1] σ (iP Q)) (hlen : lv.length = nL) (hst : (st.map fun v => v.category).sum ≤ 8) (hfr : dd + 1 ≤ R.frames) (hlo : 8 + (yL + 11) + 36 * dd ≤ R.locals) (hc : cs ≤ R.cells) (hs : ss ≤ R.slots) (k : ∀ (x : Int32) (σ' : aS), Q x σ' → AA G X cs ss (pc + 3) lv (.int x :: st) σ') : AA G X cs ss pc lv (a1 :: .ref b :: st) σ :=
  A_callV (av := [a1]) hX hy hw d ho hM rfl hlen hst hfr hlo hc hs (fun _ σ' h => by obtain ⟨x, rfl, h⟩ := h; exact k x σ' h)
theorem A_V1j {Q : Int64 → aS → Prop} {a1 : Value} {b : Nat} {ci : Nat} {fs : List Value} (hX : AOk l G X cc own nm nL R) (hy : MkY y yc yL ret 1) (hw : LkV own idx y ci) (d : decode cc pc = .ok (.invokevirtual idx, 3)) (ho : σ.2 b = some (aO ci fs)) (hM : ACt l G y yc yL ret dd 0 0 [.ref b, a1] σ (jP Q)) (hlen : lv.length = nL) (hst : (st.map fun v => v.category).sum ≤ 8) (hfr : dd + 1 ≤ R.frames) (hlo : 8 + (yL + 11) + 36 * dd ≤ R.locals) (hc : cs ≤ R.cells) (hs : ss ≤ R.slots) (k : ∀ (x : Int64) (σ' : aS), Q x σ' → AA G X cs ss (pc + 3) lv (.long x :: st) σ') : AA G X cs ss pc lv (a1 :: .ref b :: st) σ :=
  A_callV (av := [a1]) hX hy hw d ho hM rfl hlen hst hfr hlo hc hs (fun _ σ' h => by obtain ⟨x, rfl, h⟩ := h; exact k x σ' h)
theorem A_V1v {Q : aS → Prop} {a1 : Value} {b : Nat} {ci : Nat} {fs : List Value} (hX : AOk l G X cc own nm nL R) (hy : MkY y yc yL ret 1) (hw : LkV own idx y ci) (d : decode cc pc = .ok (.invokevirtual idx, 3)) (ho : σ.2 b = some (aO ci fs)) (hM : ACt l G y yc yL ret dd 0 0 [.ref b, a1] σ (vP Q)) (hlen : lv.length = nL) (hst : (st.map fun v => v.category).sum ≤ 8) (hfr : dd + 1 ≤ R.frames) (hlo : 8 + (yL + 11) + 36 * dd ≤ R.locals) (hc : cs ≤ R.cells) (hs : ss ≤ R.slots) (k : ∀ σ' : aS, Q σ' → AA G X cs ss (pc + 3) lv st σ') : AA G X cs ss pc lv (a1 :: .ref b :: st) σ :=
  A_callV (av := [a1]) hX hy hw d ho hM rfl hlen hst hfr hlo hc hs (fun _ σ' h => by obtain ⟨rfl, h⟩ := h; exact k σ' h)
theorem A_V2 {a1 a2 : Value} {b : Nat} {ci : Nat} {fs : List Value} (hX : AOk l G X cc own nm nL R) (hy : MkY y yc yL ret 2) (hw : LkV own idx y ci) (d : decode cc pc = .ok (.invokevirtual idx, 3)) (ho : σ.2 b = some (aO ci fs)) (hM : ACt l G y yc yL ret dd mc ms [.ref b, a1, a2] σ P) (hlen : lv.length = nL) (hst : (st.map fun v => v.category).sum ≤ 8) (hfr : dd + 1 ≤ R.frames) (hlo : 8 + (yL + 11) + 36 * dd ≤ R.locals) (hc : cs + mc ≤ R.cells) (hs : ss + ms ≤ R.slots) (k : ∀ (r : Option Value) (σ' : aS), P r σ' → AA G X (cs + mc) (ss + ms) (pc + 3) lv (r.toList ++ st) σ') : AA G X cs ss pc lv (a2 :: a1 :: .ref b :: st) σ :=
  A_callV (av := [a1, a2]) hX hy hw d ho hM rfl hlen hst hfr hlo hc hs k
theorem A_V2p {a1 a2 : Value} {b : Nat} {ci : Nat} {fs : List Value} (hX : AOk l G X cc own nm nL R) (hy : MkY y yc yL ret 2) (hw : LkV own idx y ci) (d : decode cc pc = .ok (.invokevirtual idx, 3)) (ho : σ.2 b = some (aO ci fs)) (hM : ACt l G y yc yL ret dd 0 0 [.ref b, a1, a2] σ (P)) (hlen : lv.length = nL) (hst : (st.map fun v => v.category).sum ≤ 8) (hfr : dd + 1 ≤ R.frames) (hlo : 8 + (yL + 11) + 36 * dd ≤ R.locals) (hc : cs ≤ R.cells) (hs : ss ≤ R.slots) (k : ∀ (r : Option Value) (σ' : aS), P r σ' → AA G X cs ss (pc + 3) lv (r.toList ++ st) σ') : AA G X cs ss pc lv (a2 :: a1 :: .ref b :: st) σ :=
  A_callV (av := [a1, a2]) hX hy hw d ho hM rfl hlen hst hfr hlo hc hs (k)
theorem A_V2d {w : Value} {σ1 : aS} {a1 a2 : Value} {b : Nat} {ci : Nat} {fs : List Value} (hX : AOk l G X cc own nm nL R) (hy : MkY y yc yL ret 2) (hw : LkV own idx y ci) (d : decode cc pc = .ok (.invokevirtual idx, 3)) (ho : σ.2 b = some (aO ci fs)) (hM : ACt l G y yc yL ret dd 0 0 [.ref b, a1, a2] σ (dP (some w) σ1)) (hlen : lv.length = nL) (hst : (st.map fun v => v.category).sum ≤ 8) (hfr : dd + 1 ≤ R.frames) (hlo : 8 + (yL + 11) + 36 * dd ≤ R.locals) (hc : cs ≤ R.cells) (hs : ss ≤ R.slots) (k : AA G X cs ss (pc + 3) lv (w :: st) σ1) : AA G X cs ss pc lv (a2 :: a1 :: .ref b :: st) σ :=
  A_callV (av := [a1, a2]) hX hy hw d ho hM rfl hlen hst hfr hlo hc hs (fun _ _ h => by obtain ⟨rfl, rfl⟩ := h; exact k)
theorem A_V2e {σ1 : aS} {a1 a2 : Value} {b : Nat} {ci : Nat} {fs : List Value} (hX : AOk l G X cc own nm nL R) (hy : MkY y yc yL ret 2) (hw : LkV own idx y ci) (d : decode cc pc = .ok (.invokevirtual idx, 3)) (ho : σ.2 b = some (aO ci fs)) (hM : ACt l G y yc yL ret dd 0 0 [.ref b, a1, a2] σ (dP none σ1)) (hlen : lv.length = nL) (hst : (st.map fun v => v.category).sum ≤ 8) (hfr : dd + 1 ≤ R.frames) (hlo : 8 + (yL + 11) + 36 * dd ≤ R.locals) (hc : cs ≤ R.cells) (hs : ss ≤ R.slots) (k : AA G X cs ss (pc + 3) lv st σ1) : AA G X cs ss pc lv (a2 :: a1 :: .ref b :: st) σ :=
  A_callV (av := [a1, a2]) hX hy hw d ho hM rfl hlen hst hfr hlo hc hs (fun _ _ h => by obtain ⟨rfl, rfl⟩ := h; exact k)
theorem A_V2i {Q : Int32 → aS → Prop} {a1 a2 : Value} {b : Nat} {ci : Nat} {fs : List Value} (hX : AOk l G X cc own nm nL R) (hy : MkY y yc yL ret 2) (hw : LkV own idx y ci) (d : decode cc pc = .ok (.invokevirtual idx, 3)) (ho : σ.2 b = some (aO ci fs)) (hM : ACt l G y yc yL ret dd 0 0 [.ref b, a1, a2] σ (iP Q)) (hlen : lv.length = nL) (hst : (st.map fun v => v.category).sum ≤ 8) (hfr : dd + 1 ≤ R.frames) (hlo : 8 + (yL + 11) + 36 * dd ≤ R.locals) (hc : cs ≤ R.cells) (hs : ss ≤ R.slots) (k : ∀ (x : Int32) (σ' : aS), Q x σ' → AA G X cs ss (pc + 3) lv (.int x :: st) σ') : AA G X cs ss pc lv (a2 :: a1 :: .ref b :: st) σ :=
  A_callV (av := [a1, a2]) hX hy hw d ho hM rfl hlen hst hfr hlo hc hs (fun _ σ' h => by obtain ⟨x, rfl, h⟩ := h; exact k x σ' h)
theorem A_V2j {Q : Int64 → aS → Prop} {a1 a2 : Value} {b : Nat} {ci : Nat} {fs : List Value} (hX : AOk l G X cc own nm nL R) (hy : MkY y yc yL ret 2) (hw : LkV own idx y ci) (d : decode cc pc = .ok (.invokevirtual idx, 3)) (ho : σ.2 b = some (aO ci fs)) (hM : ACt l G y yc yL ret dd 0 0 [.ref b, a1, a2] σ (jP Q)) (hlen : lv.length = nL) (hst : (st.map fun v => v.category).sum ≤ 8) (hfr : dd + 1 ≤ R.frames) (hlo : 8 + (yL + 11) + 36 * dd ≤ R.locals) (hc : cs ≤ R.cells) (hs : ss ≤ R.slots) (k : ∀ (x : Int64) (σ' : aS), Q x σ' → AA G X cs ss (pc + 3) lv (.long x :: st) σ') : AA G X cs ss pc lv (a2 :: a1 :: .ref b :: st) σ :=
  A_callV (av := [a1, a2]) hX hy hw d ho hM rfl hlen hst hfr hlo hc hs (fun _ σ' h => by obtain ⟨x, rfl, h⟩ := h; exact k x σ' h)
theorem A_V2v {Q : aS → Prop} {a1 a2 : Value} {b : Nat} {ci : Nat} {fs : List Value} (hX : AOk l G X cc own nm nL R) (hy : MkY y yc yL ret 2) (hw : LkV own idx y ci) (d : decode cc pc = .ok (.invokevirtual idx, 3)) (ho : σ.2 b = some (aO ci fs)) (hM : ACt l G y yc yL ret dd 0 0 [.ref b, a1, a2] σ (vP Q)) (hlen : lv.length = nL) (hst : (st.map fun v => v.category).sum ≤ 8) (hfr : dd + 1 ≤ R.frames) (hlo : 8 + (yL + 11) + 36 * dd ≤ R.locals) (hc : cs ≤ R.cells) (hs : ss ≤ R.slots) (k : ∀ σ' : aS, Q σ' → AA G X cs ss (pc + 3) lv st σ') : AA G X cs ss pc lv (a2 :: a1 :: .ref b :: st) σ :=
  A_callV (av := [a1, a2]) hX hy hw d ho hM rfl hlen hst hfr hlo hc hs (fun _ σ' h => by obtain ⟨rfl, h⟩ := h; exact k σ' h)
theorem A_V3 {a1 a2 a3 : Value} {b : Nat} {ci : Nat} {fs : List Value} (hX : AOk l G X cc own nm nL R) (hy : MkY y yc yL ret 3) (hw : LkV own idx y ci) (d : decode cc pc = .ok (.invokevirtual idx, 3)) (ho : σ.2 b = some (aO ci fs)) (hM : ACt l G y yc yL ret dd mc ms [.ref b, a1, a2, a3] σ P) (hlen : lv.length = nL) (hst : (st.map fun v => v.category).sum ≤ 8) (hfr : dd + 1 ≤ R.frames) (hlo : 8 + (yL + 11) + 36 * dd ≤ R.locals) (hc : cs + mc ≤ R.cells) (hs : ss + ms ≤ R.slots) (k : ∀ (r : Option Value) (σ' : aS), P r σ' → AA G X (cs + mc) (ss + ms) (pc + 3) lv (r.toList ++ st) σ') : AA G X cs ss pc lv (a3 :: a2 :: a1 :: .ref b :: st) σ :=
  A_callV (av := [a1, a2, a3]) hX hy hw d ho hM rfl hlen hst hfr hlo hc hs k
theorem A_V3p {a1 a2 a3 : Value} {b : Nat} {ci : Nat} {fs : List Value} (hX : AOk l G X cc own nm nL R) (hy : MkY y yc yL ret 3) (hw : LkV own idx y ci) (d : decode cc pc = .ok (.invokevirtual idx, 3)) (ho : σ.2 b = some (aO ci fs)) (hM : ACt l G y yc yL ret dd 0 0 [.ref b, a1, a2, a3] σ (P)) (hlen : lv.length = nL) (hst : (st.map fun v => v.category).sum ≤ 8) (hfr : dd + 1 ≤ R.frames) (hlo : 8 + (yL + 11) + 36 * dd ≤ R.locals) (hc : cs ≤ R.cells) (hs : ss ≤ R.slots) (k : ∀ (r : Option Value) (σ' : aS), P r σ' → AA G X cs ss (pc + 3) lv (r.toList ++ st) σ') : AA G X cs ss pc lv (a3 :: a2 :: a1 :: .ref b :: st) σ :=
  A_callV (av := [a1, a2, a3]) hX hy hw d ho hM rfl hlen hst hfr hlo hc hs (k)
theorem A_V3d {w : Value} {σ1 : aS} {a1 a2 a3 : Value} {b : Nat} {ci : Nat} {fs : List Value} (hX : AOk l G X cc own nm nL R) (hy : MkY y yc yL ret 3) (hw : LkV own idx y ci) (d : decode cc pc = .ok (.invokevirtual idx, 3)) (ho : σ.2 b = some (aO ci fs)) (hM : ACt l G y yc yL ret dd 0 0 [.ref b, a1, a2, a3] σ (dP (some w) σ1)) (hlen : lv.length = nL) (hst : (st.map fun v => v.category).sum ≤ 8) (hfr : dd + 1 ≤ R.frames) (hlo : 8 + (yL + 11) + 36 * dd ≤ R.locals) (hc : cs ≤ R.cells) (hs : ss ≤ R.slots) (k : AA G X cs ss (pc + 3) lv (w :: st) σ1) : AA G X cs ss pc lv (a3 :: a2 :: a1 :: .ref b :: st) σ :=
  A_callV (av := [a1, a2, a3]) hX hy hw d ho hM rfl hlen hst hfr hlo hc hs (fun _ _ h => by obtain ⟨rfl, rfl⟩ := h; exact k)
theorem A_V3e {σ1 : aS} {a1 a2 a3 : Value} {b : Nat} {ci : Nat} {fs : List Value} (hX : AOk l G X cc own nm nL R) (hy : MkY y yc yL ret 3) (hw : LkV own idx y ci) (d : decode cc pc = .ok (.invokevirtual idx, 3)) (ho : σ.2 b = some (aO ci fs)) (hM : ACt l G y yc yL ret dd 0 0 [.ref b, a1, a2, a3] σ (dP none σ1)) (hlen : lv.length = nL) (hst : (st.map fun v => v.category).sum ≤ 8) (hfr : dd + 1 ≤ R.frames) (hlo : 8 + (yL + 11) + 36 * dd ≤ R.locals) (hc : cs ≤ R.cells) (hs : ss ≤ R.slots) (k : AA G X cs ss (pc + 3) lv st σ1) : AA G X cs ss pc lv (a3 :: a2 :: a1 :: .ref b :: st) σ :=
  A_callV (av := [a1, a2, a3]) hX hy hw d ho hM rfl hlen hst hfr hlo hc hs (fun _ _ h => by obtain ⟨rfl, rfl⟩ := h; exact k)
theorem A_V3i {Q : Int32 → aS → Prop} {a1 a2 a3 : Value} {b : Nat} {ci : Nat} {fs : List Value} (hX : AOk l G X cc own nm nL R) (hy : MkY y yc yL ret 3) (hw : LkV own idx y ci) (d : decode cc pc = .ok (.invokevirtual idx, 3)) (ho : σ.2 b = some (aO ci fs)) (hM : ACt l G y yc yL ret dd 0 0 [.ref b, a1, a2, a3] σ (iP Q)) (hlen : lv.length = nL) (hst : (st.map fun v => v.category).sum ≤ 8) (hfr : dd + 1 ≤ R.frames) (hlo : 8 + (yL + 11) + 36 * dd ≤ R.locals) (hc : cs ≤ R.cells) (hs : ss ≤ R.slots) (k : ∀ (x : Int32) (σ' : aS), Q x σ' → AA G X cs ss (pc + 3) lv (.int x :: st) σ') : AA G X cs ss pc lv (a3 :: a2 :: a1 :: .ref b :: st) σ :=
  A_callV (av := [a1, a2, a3]) hX hy hw d ho hM rfl hlen hst hfr hlo hc hs (fun _ σ' h => by obtain ⟨x, rfl, h⟩ := h; exact k x σ' h)
theorem A_V3j {Q : Int64 → aS → Prop} {a1 a2 a3 : Value} {b : Nat} {ci : Nat} {fs : List Value} (hX : AOk l G X cc own nm nL R) (hy : MkY y yc yL ret 3) (hw : LkV own idx y ci) (d : decode cc pc = .ok (.invokevirtual idx, 3)) (ho : σ.2 b = some (aO ci fs)) (hM : ACt l G y yc yL ret dd 0 0 [.ref b, a1, a2, a3] σ (jP Q)) (hlen : lv.length = nL) (hst : (st.map fun v => v.category).sum ≤ 8) (hfr : dd + 1 ≤ R.frames) (hlo : 8 + (yL + 11) + 36 * dd ≤ R.locals) (hc : cs ≤ R.cells) (hs : ss ≤ R.slots) (k : ∀ (x : Int64) (σ' : aS), Q x σ' → AA G X cs ss (pc + 3) lv (.long x :: st) σ') : AA G X cs ss pc lv (a3 :: a2 :: a1 :: .ref b :: st) σ :=
  A_callV (av := [a1, a2, a3]) hX hy hw d ho hM rfl hlen hst hfr hlo hc hs (fun _ σ' h => by obtain ⟨x, rfl, h⟩ := h; exact k x σ' h)
theorem A_V3v {Q : aS → Prop} {a1 a2 a3 : Value} {b : Nat} {ci : Nat} {fs : List Value} (hX : AOk l G X cc own nm nL R) (hy : MkY y yc yL ret 3) (hw : LkV own idx y ci) (d : decode cc pc = .ok (.invokevirtual idx, 3)) (ho : σ.2 b = some (aO ci fs)) (hM : ACt l G y yc yL ret dd 0 0 [.ref b, a1, a2, a3] σ (vP Q)) (hlen : lv.length = nL) (hst : (st.map fun v => v.category).sum ≤ 8) (hfr : dd + 1 ≤ R.frames) (hlo : 8 + (yL + 11) + 36 * dd ≤ R.locals) (hc : cs ≤ R.cells) (hs : ss ≤ R.slots) (k : ∀ σ' : aS, Q σ' → AA G X cs ss (pc + 3) lv st σ') : AA G X cs ss pc lv (a3 :: a2 :: a1 :: .ref b :: st) σ :=
  A_callV (av := [a1, a2, a3]) hX hy hw d ho hM rfl hlen hst hfr hlo hc hs (fun _ σ' h => by obtain ⟨rfl, h⟩ := h; exact k σ' h)
theorem A_V4 {a1 a2 a3 a4 : Value} {b : Nat} {ci : Nat} {fs : List Value} (hX : AOk l G X cc own nm nL R) (hy : MkY y yc yL ret 4) (hw : LkV own idx y ci) (d : decode cc pc = .ok (.invokevirtual idx, 3)) (ho : σ.2 b = some (aO ci fs)) (hM : ACt l G y yc yL ret dd mc ms [.ref b, a1, a2, a3, a4] σ P) (hlen : lv.length = nL) (hst : (st.map fun v => v.category).sum ≤ 8) (hfr : dd + 1 ≤ R.frames) (hlo : 8 + (yL + 11) + 36 * dd ≤ R.locals) (hc : cs + mc ≤ R.cells) (hs : ss + ms ≤ R.slots) (k : ∀ (r : Option Value) (σ' : aS), P r σ' → AA G X (cs + mc) (ss + ms) (pc + 3) lv (r.toList ++ st) σ') : AA G X cs ss pc lv (a4 :: a3 :: a2 :: a1 :: .ref b :: st) σ :=
  A_callV (av := [a1, a2, a3, a4]) hX hy hw d ho hM rfl hlen hst hfr hlo hc hs k
theorem A_V4p {a1 a2 a3 a4 : Value} {b : Nat} {ci : Nat} {fs : List Value} (hX : AOk l G X cc own nm nL R) (hy : MkY y yc yL ret 4) (hw : LkV own idx y ci) (d : decode cc pc = .ok (.invokevirtual idx, 3)) (ho : σ.2 b = some (aO ci fs)) (hM : ACt l G y yc yL ret dd 0 0 [.ref b, a1, a2, a3, a4] σ (P)) (hlen : lv.length = nL) (hst : (st.map fun v => v.category).sum ≤ 8) (hfr : dd + 1 ≤ R.frames) (hlo : 8 + (yL + 11) + 36 * dd ≤ R.locals) (hc : cs ≤ R.cells) (hs : ss ≤ R.slots) (k : ∀ (r : Option Value) (σ' : aS), P r σ' → AA G X cs ss (pc + 3) lv (r.toList ++ st) σ') : AA G X cs ss pc lv (a4 :: a3 :: a2 :: a1 :: .ref b :: st) σ :=
  A_callV (av := [a1, a2, a3, a4]) hX hy hw d ho hM rfl hlen hst hfr hlo hc hs (k)
theorem A_V4d {w : Value} {σ1 : aS} {a1 a2 a3 a4 : Value} {b : Nat} {ci : Nat} {fs : List Value} (hX : AOk l G X cc own nm nL R) (hy : MkY y yc yL ret 4) (hw : LkV own idx y ci) (d : decode cc pc = .ok (.invokevirtual idx, 3)) (ho : σ.2 b = some (aO ci fs)) (hM : ACt l G y yc yL ret dd 0 0 [.ref b, a1, a2, a3, a4] σ (dP (some w) σ1)) (hlen : lv.length = nL) (hst : (st.map fun v => v.category).sum ≤ 8) (hfr : dd + 1 ≤ R.frames) (hlo : 8 + (yL + 11) + 36 * dd ≤ R.locals) (hc : cs ≤ R.cells) (hs : ss ≤ R.slots) (k : AA G X cs ss (pc + 3) lv (w :: st) σ1) : AA G X cs ss pc lv (a4 :: a3 :: a2 :: a1 :: .ref b :: st) σ :=
  A_callV (av := [a1, a2, a3, a4]) hX hy hw d ho hM rfl hlen hst hfr hlo hc hs (fun _ _ h => by obtain ⟨rfl, rfl⟩ := h; exact k)
theorem A_V4e {σ1 : aS} {a1 a2 a3 a4 : Value} {b : Nat} {ci : Nat} {fs : List Value} (hX : AOk l G X cc own nm nL R) (hy : MkY y yc yL ret 4) (hw : LkV own idx y ci) (d : decode cc pc = .ok (.invokevirtual idx, 3)) (ho : σ.2 b = some (aO ci fs)) (hM : ACt l G y yc yL ret dd 0 0 [.ref b, a1, a2, a3, a4] σ (dP none σ1)) (hlen : lv.length = nL) (hst : (st.map fun v => v.category).sum ≤ 8) (hfr : dd + 1 ≤ R.frames) (hlo : 8 + (yL + 11) + 36 * dd ≤ R.locals) (hc : cs ≤ R.cells) (hs : ss ≤ R.slots) (k : AA G X cs ss (pc + 3) lv st σ1) : AA G X cs ss pc lv (a4 :: a3 :: a2 :: a1 :: .ref b :: st) σ :=
  A_callV (av := [a1, a2, a3, a4]) hX hy hw d ho hM rfl hlen hst hfr hlo hc hs (fun _ _ h => by obtain ⟨rfl, rfl⟩ := h; exact k)
theorem A_V4i {Q : Int32 → aS → Prop} {a1 a2 a3 a4 : Value} {b : Nat} {ci : Nat} {fs : List Value} (hX : AOk l G X cc own nm nL R) (hy : MkY y yc yL ret 4) (hw : LkV own idx y ci) (d : decode cc pc = .ok (.invokevirtual idx, 3)) (ho : σ.2 b = some (aO ci fs)) (hM : ACt l G y yc yL ret dd 0 0 [.ref b, a1, a2, a3, a4] σ (iP Q)) (hlen : lv.length = nL) (hst : (st.map fun v => v.category).sum ≤ 8) (hfr : dd + 1 ≤ R.frames) (hlo : 8 + (yL + 11) + 36 * dd ≤ R.locals) (hc : cs ≤ R.cells) (hs : ss ≤ R.slots) (k : ∀ (x : Int32) (σ' : aS), Q x σ' → AA G X cs ss (pc + 3) lv (.int x :: st) σ') : AA G X cs ss pc lv (a4 :: a3 :: a2 :: a1 :: .ref b :: st) σ :=
  A_callV (av := [a1, a2, a3, a4]) hX hy hw d ho hM rfl hlen hst hfr hlo hc hs (fun _ σ' h => by obtain ⟨x, rfl, h⟩ := h; exact k x σ' h)
theorem A_V4j {Q : Int64 → aS → Prop} {a1 a2 a3 a4 : Value} {b : Nat} {ci : Nat} {fs : List Value} (hX : AOk l G X cc own nm nL R) (hy : MkY y yc yL ret 4) (hw : LkV own idx y ci) (d : decode cc pc = .ok (.invokevirtual idx, 3)) (ho : σ.2 b = some (aO ci fs)) (hM : ACt l G y yc yL ret dd 0 0 [.ref b, a1, a2, a3, a4] σ (jP Q)) (hlen : lv.length = nL) (hst : (st.map fun v => v.category).sum ≤ 8) (hfr : dd + 1 ≤ R.frames) (hlo : 8 + (yL + 11) + 36 * dd ≤ R.locals) (hc : cs ≤ R.cells) (hs : ss ≤ R.slots) (k : ∀ (x : Int64) (σ' : aS), Q x σ' → AA G X cs ss (pc + 3) lv (.long x :: st) σ') : AA G X cs ss pc lv (a4 :: a3 :: a2 :: a1 :: .ref b :: st) σ :=
  A_callV (av := [a1, a2, a3, a4]) hX hy hw d ho hM rfl hlen hst hfr hlo hc hs (fun _ σ' h => by obtain ⟨x, rfl, h⟩ := h; exact k x σ' h)
theorem A_V4v {Q : aS → Prop} {a1 a2 a3 a4 : Value} {b : Nat} {ci : Nat} {fs : List Value} (hX : AOk l G X cc own nm nL R) (hy : MkY y yc yL ret 4) (hw : LkV own idx y ci) (d : decode cc pc = .ok (.invokevirtual idx, 3)) (ho : σ.2 b = some (aO ci fs)) (hM : ACt l G y yc yL ret dd 0 0 [.ref b, a1, a2, a3, a4] σ (vP Q)) (hlen : lv.length = nL) (hst : (st.map fun v => v.category).sum ≤ 8) (hfr : dd + 1 ≤ R.frames) (hlo : 8 + (yL + 11) + 36 * dd ≤ R.locals) (hc : cs ≤ R.cells) (hs : ss ≤ R.slots) (k : ∀ σ' : aS, Q σ' → AA G X cs ss (pc + 3) lv st σ') : AA G X cs ss pc lv (a4 :: a3 :: a2 :: a1 :: .ref b :: st) σ :=
  A_callV (av := [a1, a2, a3, a4]) hX hy hw d ho hM rfl hlen hst hfr hlo hc hs (fun _ σ' h => by obtain ⟨rfl, h⟩ := h; exact k σ' h)
theorem A_I0 {b : Nat} (hX : AOk l G X cc own nm nL R) (hy : MkY y yc yL none 0) (hw : LkI own idx y) (d : decode cc pc = .ok (.invokespecial idx, 3)) (hM : ACt l G y yc yL none dd mc ms [.ref b] σ P) (hlen : lv.length = nL) (hst : (st.map fun v => v.category).sum ≤ 8) (hfr : dd + 1 ≤ R.frames) (hlo : 8 + (yL + 11) + 36 * dd ≤ R.locals) (hc : cs + mc ≤ R.cells) (hs : ss + ms ≤ R.slots) (k : ∀ (r : Option Value) (σ' : aS), P r σ' → AA G X (cs + mc) (ss + ms) (pc + 3) lv (r.toList ++ st) σ') : AA G X cs ss pc lv (.ref b :: st) σ :=
  A_callI (av := []) hX hy hw d hM rfl hlen hst hfr hlo hc hs k
theorem A_I0p {b : Nat} (hX : AOk l G X cc own nm nL R) (hy : MkY y yc yL none 0) (hw : LkI own idx y) (d : decode cc pc = .ok (.invokespecial idx, 3)) (hM : ACt l G y yc yL none dd 0 0 [.ref b] σ (P)) (hlen : lv.length = nL) (hst : (st.map fun v => v.category).sum ≤ 8) (hfr : dd + 1 ≤ R.frames) (hlo : 8 + (yL + 11) + 36 * dd ≤ R.locals) (hc : cs ≤ R.cells) (hs : ss ≤ R.slots) (k : ∀ (r : Option Value) (σ' : aS), P r σ' → AA G X cs ss (pc + 3) lv (r.toList ++ st) σ') : AA G X cs ss pc lv (.ref b :: st) σ :=
  A_callI (av := []) hX hy hw d hM rfl hlen hst hfr hlo hc hs (k)
theorem A_I0e {σ1 : aS} {b : Nat} (hX : AOk l G X cc own nm nL R) (hy : MkY y yc yL none 0) (hw : LkI own idx y) (d : decode cc pc = .ok (.invokespecial idx, 3)) (hM : ACt l G y yc yL none dd 0 0 [.ref b] σ (dP none σ1)) (hlen : lv.length = nL) (hst : (st.map fun v => v.category).sum ≤ 8) (hfr : dd + 1 ≤ R.frames) (hlo : 8 + (yL + 11) + 36 * dd ≤ R.locals) (hc : cs ≤ R.cells) (hs : ss ≤ R.slots) (k : AA G X cs ss (pc + 3) lv st σ1) : AA G X cs ss pc lv (.ref b :: st) σ :=
  A_callI (av := []) hX hy hw d hM rfl hlen hst hfr hlo hc hs (fun _ _ h => by obtain ⟨rfl, rfl⟩ := h; exact k)
theorem A_I0v {Q : aS → Prop} {b : Nat} (hX : AOk l G X cc own nm nL R) (hy : MkY y yc yL none 0) (hw : LkI own idx y) (d : decode cc pc = .ok (.invokespecial idx, 3)) (hM : ACt l G y yc yL none dd 0 0 [.ref b] σ (vP Q)) (hlen : lv.length = nL) (hst : (st.map fun v => v.category).sum ≤ 8) (hfr : dd + 1 ≤ R.frames) (hlo : 8 + (yL + 11) + 36 * dd ≤ R.locals) (hc : cs ≤ R.cells) (hs : ss ≤ R.slots) (k : ∀ σ' : aS, Q σ' → AA G X cs ss (pc + 3) lv st σ') : AA G X cs ss pc lv (.ref b :: st) σ :=
  A_callI (av := []) hX hy hw d hM rfl hlen hst hfr hlo hc hs (fun _ σ' h => by obtain ⟨rfl, h⟩ := h; exact k σ' h)
theorem A_I1 {a1 : Value} {b : Nat} (hX : AOk l G X cc own nm nL R) (hy : MkY y yc yL none 1) (hw : LkI own idx y) (d : decode cc pc = .ok (.invokespecial idx, 3)) (hM : ACt l G y yc yL none dd mc ms [.ref b, a1] σ P) (hlen : lv.length = nL) (hst : (st.map fun v => v.category).sum ≤ 8) (hfr : dd + 1 ≤ R.frames) (hlo : 8 + (yL + 11) + 36 * dd ≤ R.locals) (hc : cs + mc ≤ R.cells) (hs : ss + ms ≤ R.slots) (k : ∀ (r : Option Value) (σ' : aS), P r σ' → AA G X (cs + mc) (ss + ms) (pc + 3) lv (r.toList ++ st) σ') : AA G X cs ss pc lv (a1 :: .ref b :: st) σ :=
  A_callI (av := [a1]) hX hy hw d hM rfl hlen hst hfr hlo hc hs k
theorem A_I1p {a1 : Value} {b : Nat} (hX : AOk l G X cc own nm nL R) (hy : MkY y yc yL none 1) (hw : LkI own idx y) (d : decode cc pc = .ok (.invokespecial idx, 3)) (hM : ACt l G y yc yL none dd 0 0 [.ref b, a1] σ (P)) (hlen : lv.length = nL) (hst : (st.map fun v => v.category).sum ≤ 8) (hfr : dd + 1 ≤ R.frames) (hlo : 8 + (yL + 11) + 36 * dd ≤ R.locals) (hc : cs ≤ R.cells) (hs : ss ≤ R.slots) (k : ∀ (r : Option Value) (σ' : aS), P r σ' → AA G X cs ss (pc + 3) lv (r.toList ++ st) σ') : AA G X cs ss pc lv (a1 :: .ref b :: st) σ :=
  A_callI (av := [a1]) hX hy hw d hM rfl hlen hst hfr hlo hc hs (k)
theorem A_I1e {σ1 : aS} {a1 : Value} {b : Nat} (hX : AOk l G X cc own nm nL R) (hy : MkY y yc yL none 1) (hw : LkI own idx y) (d : decode cc pc = .ok (.invokespecial idx, 3)) (hM : ACt l G y yc yL none dd 0 0 [.ref b, a1] σ (dP none σ1)) (hlen : lv.length = nL) (hst : (st.map fun v => v.category).sum ≤ 8) (hfr : dd + 1 ≤ R.frames) (hlo : 8 + (yL + 11) + 36 * dd ≤ R.locals) (hc : cs ≤ R.cells) (hs : ss ≤ R.slots) (k : AA G X cs ss (pc + 3) lv st σ1) : AA G X cs ss pc lv (a1 :: .ref b :: st) σ :=
  A_callI (av := [a1]) hX hy hw d hM rfl hlen hst hfr hlo hc hs (fun _ _ h => by obtain ⟨rfl, rfl⟩ := h; exact k)
theorem A_I1v {Q : aS → Prop} {a1 : Value} {b : Nat} (hX : AOk l G X cc own nm nL R) (hy : MkY y yc yL none 1) (hw : LkI own idx y) (d : decode cc pc = .ok (.invokespecial idx, 3)) (hM : ACt l G y yc yL none dd 0 0 [.ref b, a1] σ (vP Q)) (hlen : lv.length = nL) (hst : (st.map fun v => v.category).sum ≤ 8) (hfr : dd + 1 ≤ R.frames) (hlo : 8 + (yL + 11) + 36 * dd ≤ R.locals) (hc : cs ≤ R.cells) (hs : ss ≤ R.slots) (k : ∀ σ' : aS, Q σ' → AA G X cs ss (pc + 3) lv st σ') : AA G X cs ss pc lv (a1 :: .ref b :: st) σ :=
  A_callI (av := [a1]) hX hy hw d hM rfl hlen hst hfr hlo hc hs (fun _ σ' h => by obtain ⟨rfl, h⟩ := h; exact k σ' h)
theorem A_I2 {a1 a2 : Value} {b : Nat} (hX : AOk l G X cc own nm nL R) (hy : MkY y yc yL none 2) (hw : LkI own idx y) (d : decode cc pc = .ok (.invokespecial idx, 3)) (hM : ACt l G y yc yL none dd mc ms [.ref b, a1, a2] σ P) (hlen : lv.length = nL) (hst : (st.map fun v => v.category).sum ≤ 8) (hfr : dd + 1 ≤ R.frames) (hlo : 8 + (yL + 11) + 36 * dd ≤ R.locals) (hc : cs + mc ≤ R.cells) (hs : ss + ms ≤ R.slots) (k : ∀ (r : Option Value) (σ' : aS), P r σ' → AA G X (cs + mc) (ss + ms) (pc + 3) lv (r.toList ++ st) σ') : AA G X cs ss pc lv (a2 :: a1 :: .ref b :: st) σ :=
  A_callI (av := [a1, a2]) hX hy hw d hM rfl hlen hst hfr hlo hc hs k
theorem A_I2p {a1 a2 : Value} {b : Nat} (hX : AOk l G X cc own nm nL R) (hy : MkY y yc yL none 2) (hw : LkI own idx y) (d : decode cc pc = .ok (.invokespecial idx, 3)) (hM : ACt l G y yc yL none dd 0 0 [.ref b, a1, a2] σ (P)) (hlen : lv.length = nL) (hst : (st.map fun v => v.category).sum ≤ 8) (hfr : dd + 1 ≤ R.frames) (hlo : 8 + (yL + 11) + 36 * dd ≤ R.locals) (hc : cs ≤ R.cells) (hs : ss ≤ R.slots) (k : ∀ (r : Option Value) (σ' : aS), P r σ' → AA G X cs ss (pc + 3) lv (r.toList ++ st) σ') : AA G X cs ss pc lv (a2 :: a1 :: .ref b :: st) σ :=
  A_callI (av := [a1, a2]) hX hy hw d hM rfl hlen hst hfr hlo hc hs (k)
theorem A_I2e {σ1 : aS} {a1 a2 : Value} {b : Nat} (hX : AOk l G X cc own nm nL R) (hy : MkY y yc yL none 2) (hw : LkI own idx y) (d : decode cc pc = .ok (.invokespecial idx, 3)) (hM : ACt l G y yc yL none dd 0 0 [.ref b, a1, a2] σ (dP none σ1)) (hlen : lv.length = nL) (hst : (st.map fun v => v.category).sum ≤ 8) (hfr : dd + 1 ≤ R.frames) (hlo : 8 + (yL + 11) + 36 * dd ≤ R.locals) (hc : cs ≤ R.cells) (hs : ss ≤ R.slots) (k : AA G X cs ss (pc + 3) lv st σ1) : AA G X cs ss pc lv (a2 :: a1 :: .ref b :: st) σ :=
  A_callI (av := [a1, a2]) hX hy hw d hM rfl hlen hst hfr hlo hc hs (fun _ _ h => by obtain ⟨rfl, rfl⟩ := h; exact k)
theorem A_I2v {Q : aS → Prop} {a1 a2 : Value} {b : Nat} (hX : AOk l G X cc own nm nL R) (hy : MkY y yc yL none 2) (hw : LkI own idx y) (d : decode cc pc = .ok (.invokespecial idx, 3)) (hM : ACt l G y yc yL none dd 0 0 [.ref b, a1, a2] σ (vP Q)) (hlen : lv.length = nL) (hst : (st.map fun v => v.category).sum ≤ 8) (hfr : dd + 1 ≤ R.frames) (hlo : 8 + (yL + 11) + 36 * dd ≤ R.locals) (hc : cs ≤ R.cells) (hs : ss ≤ R.slots) (k : ∀ σ' : aS, Q σ' → AA G X cs ss (pc + 3) lv st σ') : AA G X cs ss pc lv (a2 :: a1 :: .ref b :: st) σ :=
  A_callI (av := [a1, a2]) hX hy hw d hM rfl hlen hst hfr hlo hc hs (fun _ σ' h => by obtain ⟨rfl, h⟩ := h; exact k σ' h)
theorem A_I3 {a1 a2 a3 : Value} {b : Nat} (hX : AOk l G X cc own nm nL R) (hy : MkY y yc yL none 3) (hw : LkI own idx y) (d : decode cc pc = .ok (.invokespecial idx, 3)) (hM : ACt l G y yc yL none dd mc ms [.ref b, a1, a2, a3] σ P) (hlen : lv.length = nL) (hst : (st.map fun v => v.category).sum ≤ 8) (hfr : dd + 1 ≤ R.frames) (hlo : 8 + (yL + 11) + 36 * dd ≤ R.locals) (hc : cs + mc ≤ R.cells) (hs : ss + ms ≤ R.slots) (k : ∀ (r : Option Value) (σ' : aS), P r σ' → AA G X (cs + mc) (ss + ms) (pc + 3) lv (r.toList ++ st) σ') : AA G X cs ss pc lv (a3 :: a2 :: a1 :: .ref b :: st) σ :=
  A_callI (av := [a1, a2, a3]) hX hy hw d hM rfl hlen hst hfr hlo hc hs k
theorem A_I3p {a1 a2 a3 : Value} {b : Nat} (hX : AOk l G X cc own nm nL R) (hy : MkY y yc yL none 3) (hw : LkI own idx y) (d : decode cc pc = .ok (.invokespecial idx, 3)) (hM : ACt l G y yc yL none dd 0 0 [.ref b, a1, a2, a3] σ (P)) (hlen : lv.length = nL) (hst : (st.map fun v => v.category).sum ≤ 8) (hfr : dd + 1 ≤ R.frames) (hlo : 8 + (yL + 11) + 36 * dd ≤ R.locals) (hc : cs ≤ R.cells) (hs : ss ≤ R.slots) (k : ∀ (r : Option Value) (σ' : aS), P r σ' → AA G X cs ss (pc + 3) lv (r.toList ++ st) σ') : AA G X cs ss pc lv (a3 :: a2 :: a1 :: .ref b :: st) σ :=
  A_callI (av := [a1, a2, a3]) hX hy hw d hM rfl hlen hst hfr hlo hc hs (k)
theorem A_I3e {σ1 : aS} {a1 a2 a3 : Value} {b : Nat} (hX : AOk l G X cc own nm nL R) (hy : MkY y yc yL none 3) (hw : LkI own idx y) (d : decode cc pc = .ok (.invokespecial idx, 3)) (hM : ACt l G y yc yL none dd 0 0 [.ref b, a1, a2, a3] σ (dP none σ1)) (hlen : lv.length = nL) (hst : (st.map fun v => v.category).sum ≤ 8) (hfr : dd + 1 ≤ R.frames) (hlo : 8 + (yL + 11) + 36 * dd ≤ R.locals) (hc : cs ≤ R.cells) (hs : ss ≤ R.slots) (k : AA G X cs ss (pc + 3) lv st σ1) : AA G X cs ss pc lv (a3 :: a2 :: a1 :: .ref b :: st) σ :=
  A_callI (av := [a1, a2, a3]) hX hy hw d hM rfl hlen hst hfr hlo hc hs (fun _ _ h => by obtain ⟨rfl, rfl⟩ := h; exact k)
theorem A_I3v {Q : aS → Prop} {a1 a2 a3 : Value} {b : Nat} (hX : AOk l G X cc own nm nL R) (hy : MkY y yc yL none 3) (hw : LkI own idx y) (d : decode cc pc = .ok (.invokespecial idx, 3)) (hM : ACt l G y yc yL none dd 0 0 [.ref b, a1, a2, a3] σ (vP Q)) (hlen : lv.length = nL) (hst : (st.map fun v => v.category).sum ≤ 8) (hfr : dd + 1 ≤ R.frames) (hlo : 8 + (yL + 11) + 36 * dd ≤ R.locals) (hc : cs ≤ R.cells) (hs : ss ≤ R.slots) (k : ∀ σ' : aS, Q σ' → AA G X cs ss (pc + 3) lv st σ') : AA G X cs ss pc lv (a3 :: a2 :: a1 :: .ref b :: st) σ :=
  A_callI (av := [a1, a2, a3]) hX hy hw d hM rfl hlen hst hfr hlo hc hs (fun _ σ' h => by obtain ⟨rfl, h⟩ := h; exact k σ' h)
theorem A_U0 {b : Nat} {ci : Nat} {fs : List Value} {x : MethodName} (hX : AOk l G X cc own nm nL R) (hy : MkY y yc yL ret 0) (hw : LkU own idx x y ci) (d : decode cc pc = .ok (.invokevirtual idx, 3)) (ho : σ.2 b = some (aO ci fs)) (hM : ACt l G y yc yL ret dd mc ms [.ref b] σ P) (hlen : lv.length = nL) (hst : (st.map fun v => v.category).sum ≤ 8) (hfr : dd + 1 ≤ R.frames) (hlo : 8 + (yL + 11) + 36 * dd ≤ R.locals) (hc : cs + mc ≤ R.cells) (hs : ss + ms ≤ R.slots) (k : ∀ (r : Option Value) (σ' : aS), P r σ' → AA G X (cs + mc) (ss + ms) (pc + 3) lv (r.toList ++ st) σ') : AA G X cs ss pc lv (.ref b :: st) σ :=
  A_callU (av := []) hX hy hw d ho hM rfl hlen hst hfr hlo hc hs k
theorem A_U0p {b : Nat} {ci : Nat} {fs : List Value} {x : MethodName} (hX : AOk l G X cc own nm nL R) (hy : MkY y yc yL ret 0) (hw : LkU own idx x y ci) (d : decode cc pc = .ok (.invokevirtual idx, 3)) (ho : σ.2 b = some (aO ci fs)) (hM : ACt l G y yc yL ret dd 0 0 [.ref b] σ (P)) (hlen : lv.length = nL) (hst : (st.map fun v => v.category).sum ≤ 8) (hfr : dd + 1 ≤ R.frames) (hlo : 8 + (yL + 11) + 36 * dd ≤ R.locals) (hc : cs ≤ R.cells) (hs : ss ≤ R.slots) (k : ∀ (r : Option Value) (σ' : aS), P r σ' → AA G X cs ss (pc + 3) lv (r.toList ++ st) σ') : AA G X cs ss pc lv (.ref b :: st) σ :=
  A_callU (av := []) hX hy hw d ho hM rfl hlen hst hfr hlo hc hs (k)
theorem A_U0d {w : Value} {σ1 : aS} {b : Nat} {ci : Nat} {fs : List Value} {x : MethodName} (hX : AOk l G X cc own nm nL R) (hy : MkY y yc yL ret 0) (hw : LkU own idx x y ci) (d : decode cc pc = .ok (.invokevirtual idx, 3)) (ho : σ.2 b = some (aO ci fs)) (hM : ACt l G y yc yL ret dd 0 0 [.ref b] σ (dP (some w) σ1)) (hlen : lv.length = nL) (hst : (st.map fun v => v.category).sum ≤ 8) (hfr : dd + 1 ≤ R.frames) (hlo : 8 + (yL + 11) + 36 * dd ≤ R.locals) (hc : cs ≤ R.cells) (hs : ss ≤ R.slots) (k : AA G X cs ss (pc + 3) lv (w :: st) σ1) : AA G X cs ss pc lv (.ref b :: st) σ :=
  A_callU (av := []) hX hy hw d ho hM rfl hlen hst hfr hlo hc hs (fun _ _ h => by obtain ⟨rfl, rfl⟩ := h; exact k)
theorem A_U0e {σ1 : aS} {b : Nat} {ci : Nat} {fs : List Value} {x : MethodName} (hX : AOk l G X cc own nm nL R) (hy : MkY y yc yL ret 0) (hw : LkU own idx x y ci) (d : decode cc pc = .ok (.invokevirtual idx, 3)) (ho : σ.2 b = some (aO ci fs)) (hM : ACt l G y yc yL ret dd 0 0 [.ref b] σ (dP none σ1)) (hlen : lv.length = nL) (hst : (st.map fun v => v.category).sum ≤ 8) (hfr : dd + 1 ≤ R.frames) (hlo : 8 + (yL + 11) + 36 * dd ≤ R.locals) (hc : cs ≤ R.cells) (hs : ss ≤ R.slots) (k : AA G X cs ss (pc + 3) lv st σ1) : AA G X cs ss pc lv (.ref b :: st) σ :=
  A_callU (av := []) hX hy hw d ho hM rfl hlen hst hfr hlo hc hs (fun _ _ h => by obtain ⟨rfl, rfl⟩ := h; exact k)
theorem A_U0i {Q : Int32 → aS → Prop} {b : Nat} {ci : Nat} {fs : List Value} {x : MethodName} (hX : AOk l G X cc own nm nL R) (hy : MkY y yc yL ret 0) (hw : LkU own idx x y ci) (d : decode cc pc = .ok (.invokevirtual idx, 3)) (ho : σ.2 b = some (aO ci fs)) (hM : ACt l G y yc yL ret dd 0 0 [.ref b] σ (iP Q)) (hlen : lv.length = nL) (hst : (st.map fun v => v.category).sum ≤ 8) (hfr : dd + 1 ≤ R.frames) (hlo : 8 + (yL + 11) + 36 * dd ≤ R.locals) (hc : cs ≤ R.cells) (hs : ss ≤ R.slots) (k : ∀ (x : Int32) (σ' : aS), Q x σ' → AA G X cs ss (pc + 3) lv (.int x :: st) σ') : AA G X cs ss pc lv (.ref b :: st) σ :=
  A_callU (av := []) hX hy hw d ho hM rfl hlen hst hfr hlo hc hs (fun _ σ' h => by obtain ⟨x, rfl, h⟩ := h; exact k x σ' h)
theorem A_U0j {Q : Int64 → aS → Prop} {b : Nat} {ci : Nat} {fs : List Value} {x : MethodName} (hX : AOk l G X cc own nm nL R) (hy : MkY y yc yL ret 0) (hw : LkU own idx x y ci) (d : decode cc pc = .ok (.invokevirtual idx, 3)) (ho : σ.2 b = some (aO ci fs)) (hM : ACt l G y yc yL ret dd 0 0 [.ref b] σ (jP Q)) (hlen : lv.length = nL) (hst : (st.map fun v => v.category).sum ≤ 8) (hfr : dd + 1 ≤ R.frames) (hlo : 8 + (yL + 11) + 36 * dd ≤ R.locals) (hc : cs ≤ R.cells) (hs : ss ≤ R.slots) (k : ∀ (x : Int64) (σ' : aS), Q x σ' → AA G X cs ss (pc + 3) lv (.long x :: st) σ') : AA G X cs ss pc lv (.ref b :: st) σ :=
  A_callU (av := []) hX hy hw d ho hM rfl hlen hst hfr hlo hc hs (fun _ σ' h => by obtain ⟨x, rfl, h⟩ := h; exact k x σ' h)
theorem A_U0v {Q : aS → Prop} {b : Nat} {ci : Nat} {fs : List Value} {x : MethodName} (hX : AOk l G X cc own nm nL R) (hy : MkY y yc yL ret 0) (hw : LkU own idx x y ci) (d : decode cc pc = .ok (.invokevirtual idx, 3)) (ho : σ.2 b = some (aO ci fs)) (hM : ACt l G y yc yL ret dd 0 0 [.ref b] σ (vP Q)) (hlen : lv.length = nL) (hst : (st.map fun v => v.category).sum ≤ 8) (hfr : dd + 1 ≤ R.frames) (hlo : 8 + (yL + 11) + 36 * dd ≤ R.locals) (hc : cs ≤ R.cells) (hs : ss ≤ R.slots) (k : ∀ σ' : aS, Q σ' → AA G X cs ss (pc + 3) lv st σ') : AA G X cs ss pc lv (.ref b :: st) σ :=
  A_callU (av := []) hX hy hw d ho hM rfl hlen hst hfr hlo hc hs (fun _ σ' h => by obtain ⟨rfl, h⟩ := h; exact k σ' h)
theorem A_U1 {a1 : Value} {b : Nat} {ci : Nat} {fs : List Value} {x : MethodName} (hX : AOk l G X cc own nm nL R) (hy : MkY y yc yL ret 1) (hw : LkU own idx x y ci) (d : decode cc pc = .ok (.invokevirtual idx, 3)) (ho : σ.2 b = some (aO ci fs)) (hM : ACt l G y yc yL ret dd mc ms [.ref b, a1] σ P) (hlen : lv.length = nL) (hst : (st.map fun v => v.category).sum ≤ 8) (hfr : dd + 1 ≤ R.frames) (hlo : 8 + (yL + 11) + 36 * dd ≤ R.locals) (hc : cs + mc ≤ R.cells) (hs : ss + ms ≤ R.slots) (k : ∀ (r : Option Value) (σ' : aS), P r σ' → AA G X (cs + mc) (ss + ms) (pc + 3) lv (r.toList ++ st) σ') : AA G X cs ss pc lv (a1 :: .ref b :: st) σ :=
  A_callU (av := [a1]) hX hy hw d ho hM rfl hlen hst hfr hlo hc hs k
theorem A_U1p {a1 : Value} {b : Nat} {ci : Nat} {fs : List Value} {x : MethodName} (hX : AOk l G X cc own nm nL R) (hy : MkY y yc yL ret 1) (hw : LkU own idx x y ci) (d : decode cc pc = .ok (.invokevirtual idx, 3)) (ho : σ.2 b = some (aO ci fs)) (hM : ACt l G y yc yL ret dd 0 0 [.ref b, a1] σ (P)) (hlen : lv.length = nL) (hst : (st.map fun v => v.category).sum ≤ 8) (hfr : dd + 1 ≤ R.frames) (hlo : 8 + (yL + 11) + 36 * dd ≤ R.locals) (hc : cs ≤ R.cells) (hs : ss ≤ R.slots) (k : ∀ (r : Option Value) (σ' : aS), P r σ' → AA G X cs ss (pc + 3) lv (r.toList ++ st) σ') : AA G X cs ss pc lv (a1 :: .ref b :: st) σ :=
  A_callU (av := [a1]) hX hy hw d ho hM rfl hlen hst hfr hlo hc hs (k)
theorem A_U1d {w : Value} {σ1 : aS} {a1 : Value} {b : Nat} {ci : Nat} {fs : List Value} {x : MethodName} (hX : AOk l G X cc own nm nL R) (hy : MkY y yc yL ret 1) (hw : LkU own idx x y ci) (d : decode cc pc = .ok (.invokevirtual idx, 3)) (ho : σ.2 b = some (aO ci fs)) (hM : ACt l G y yc yL ret dd 0 0 [.ref b, a1] σ (dP (some w) σ1)) (hlen : lv.length = nL) (hst : (st.map fun v => v.category).sum ≤ 8) (hfr : dd + 1 ≤ R.frames) (hlo : 8 + (yL + 11) + 36 * dd ≤ R.locals) (hc : cs ≤ R.cells) (hs : ss ≤ R.slots) (k : AA G X cs ss (pc + 3) lv (w :: st) σ1) : AA G X cs ss pc lv (a1 :: .ref b :: st) σ :=
  A_callU (av := [a1]) hX hy hw d ho hM rfl hlen hst hfr hlo hc hs (fun _ _ h => by obtain ⟨rfl, rfl⟩ := h; exact k)
theorem A_U1e {σ1 : aS} {a1 : Value} {b : Nat} {ci : Nat} {fs : List Value} {x : MethodName} (hX : AOk l G X cc own nm nL R) (hy : MkY y yc yL ret 1) (hw : LkU own idx x y ci) (d : decode cc pc = .ok (.invokevirtual idx, 3)) (ho : σ.2 b = some (aO ci fs)) (hM : ACt l G y yc yL ret dd 0 0 [.ref b, a1] σ (dP none σ1)) (hlen : lv.length = nL) (hst : (st.map fun v => v.category).sum ≤ 8) (hfr : dd + 1 ≤ R.frames) (hlo : 8 + (yL + 11) + 36 * dd ≤ R.locals) (hc : cs ≤ R.cells) (hs : ss ≤ R.slots) (k : AA G X cs ss (pc + 3) lv st σ1) : AA G X cs ss pc lv (a1 :: .ref b :: st) σ :=
  A_callU (av := [a1]) hX hy hw d ho hM rfl hlen hst hfr hlo hc hs (fun _ _ h => by obtain ⟨rfl, rfl⟩ := h; exact k)
theorem A_U1i {Q : Int32 → aS → Prop} {a1 : Value} {b : Nat} {ci : Nat} {fs : List Value} {x : MethodName} (hX : AOk l G X cc own nm nL R) (hy : MkY y yc yL ret 1) (hw : LkU own idx x y ci) (d : decode cc pc = .ok (.invokevirtual idx, 3)) (ho : σ.2 b = some (aO ci fs)) (hM : ACt l G y yc yL ret dd 0 0 [.ref b, a1] σ (iP Q)) (hlen : lv.length = nL) (hst : (st.map fun v => v.category).sum ≤ 8) (hfr : dd + 1 ≤ R.frames) (hlo : 8 + (yL + 11) + 36 * dd ≤ R.locals) (hc : cs ≤ R.cells) (hs : ss ≤ R.slots) (k : ∀ (x : Int32) (σ' : aS), Q x σ' → AA G X cs ss (pc + 3) lv (.int x :: st) σ') : AA G X cs ss pc lv (a1 :: .ref b :: st) σ :=
  A_callU (av := [a1]) hX hy hw d ho hM rfl hlen hst hfr hlo hc hs (fun _ σ' h => by obtain ⟨x, rfl, h⟩ := h; exact k x σ' h)
theorem A_U1j {Q : Int64 → aS → Prop} {a1 : Value} {b : Nat} {ci : Nat} {fs : List Value} {x : MethodName} (hX : AOk l G X cc own nm nL R) (hy : MkY y yc yL ret 1) (hw : LkU own idx x y ci) (d : decode cc pc = .ok (.invokevirtual idx, 3)) (ho : σ.2 b = some (aO ci fs)) (hM : ACt l G y yc yL ret dd 0 0 [.ref b, a1] σ (jP Q)) (hlen : lv.length = nL) (hst : (st.map fun v => v.category).sum ≤ 8) (hfr : dd + 1 ≤ R.frames) (hlo : 8 + (yL + 11) + 36 * dd ≤ R.locals) (hc : cs ≤ R.cells) (hs : ss ≤ R.slots) (k : ∀ (x : Int64) (σ' : aS), Q x σ' → AA G X cs ss (pc + 3) lv (.long x :: st) σ') : AA G X cs ss pc lv (a1 :: .ref b :: st) σ :=
  A_callU (av := [a1]) hX hy hw d ho hM rfl hlen hst hfr hlo hc hs (fun _ σ' h => by obtain ⟨x, rfl, h⟩ := h; exact k x σ' h)
theorem A_U1v {Q : aS → Prop} {a1 : Value} {b : Nat} {ci : Nat} {fs : List Value} {x : MethodName} (hX : AOk l G X cc own nm nL R) (hy : MkY y yc yL ret 1) (hw : LkU own idx x y ci) (d : decode cc pc = .ok (.invokevirtual idx, 3)) (ho : σ.2 b = some (aO ci fs)) (hM : ACt l G y yc yL ret dd 0 0 [.ref b, a1] σ (vP Q)) (hlen : lv.length = nL) (hst : (st.map fun v => v.category).sum ≤ 8) (hfr : dd + 1 ≤ R.frames) (hlo : 8 + (yL + 11) + 36 * dd ≤ R.locals) (hc : cs ≤ R.cells) (hs : ss ≤ R.slots) (k : ∀ σ' : aS, Q σ' → AA G X cs ss (pc + 3) lv st σ') : AA G X cs ss pc lv (a1 :: .ref b :: st) σ :=
  A_callU (av := [a1]) hX hy hw d ho hM rfl hlen hst hfr hlo hc hs (fun _ σ' h => by obtain ⟨rfl, h⟩ := h; exact k σ' h)
theorem nf_0 : ∀ C T, vwCl[0]? = some (C, T, 3) → ∀ j, j < 3 → (parseFieldDescriptor (T j).2.2.1).map defaultValue = some (vp_V [.int 0, .int 0, .int 0] j) := by
  intro C T h
  cases h
  decide +kernel
theorem nf_1 : ∀ C T, vwCl[1]? = some (C, T, 3) → ∀ j, j < 3 → (parseFieldDescriptor (T j).2.2.1).map defaultValue = some (vp_V [.int 0, .int 0, .int 0] j) := by
  intro C T h
  cases h
  decide +kernel
theorem nf_2 : ∀ C T, vwCl[2]? = some (C, T, 2) → ∀ j, j < 2 → (parseFieldDescriptor (T j).2.2.1).map defaultValue = some (vp_V [.null, .int 0] j) := by
  intro C T h
  cases h
  decide +kernel
theorem nf_3 : ∀ C T, vwCl[3]? = some (C, T, 5) → ∀ j, j < 5 → (parseFieldDescriptor (T j).2.2.1).map defaultValue = some (vp_V [.null, .null, .null, .null, .null] j) := by
  intro C T h
  cases h
  decide +kernel
theorem nf_4 : ∀ C T, vwCl[4]? = some (C, T, 3) → ∀ j, j < 3 → (parseFieldDescriptor (T j).2.2.1).map defaultValue = some (vp_V [.int 0, .int 0, .int 0] j) := by
  intro C T h
  cases h
  decide +kernel
theorem nf_5 : ∀ C T, vwCl[5]? = some (C, T, 4) → ∀ j, j < 4 → (parseFieldDescriptor (T j).2.2.1).map defaultValue = some (vp_V [.null, .null, .null, .int 0] j) := by
  intro C T h
  cases h
  decide +kernel
theorem nf_6 : ∀ C T, vwCl[6]? = some (C, T, 3) → ∀ j, j < 3 → (parseFieldDescriptor (T j).2.2.1).map defaultValue = some (vp_V [.int 0, .int 0, .int 0] j) := by
  intro C T h
  cases h
  decide +kernel
theorem nf_7 : ∀ C T, vwCl[7]? = some (C, T, 8) → ∀ j, j < 8 → (parseFieldDescriptor (T j).2.2.1).map defaultValue = some (vp_V [.null, .null, .null, .null, .int 0, .int 0, .null, .int 0] j) := by
  intro C T h
  cases h
  decide +kernel
theorem nf_8 : ∀ C T, vwCl[8]? = some (C, T, 5) → ∀ j, j < 5 → (parseFieldDescriptor (T j).2.2.1).map defaultValue = some (vp_V [.null, .null, .null, .null, .int 0] j) := by
  intro C T h
  cases h
  decide +kernel
theorem nf_9 : ∀ C T, vwCl[9]? = some (C, T, 3) → ∀ j, j < 3 → (parseFieldDescriptor (T j).2.2.1).map defaultValue = some (vp_V [.int 0, .int 0, .int 0] j) := by
  intro C T h
  cases h
  decide +kernel
theorem nf_10 : ∀ C T, vwCl[10]? = some (C, T, 9) → ∀ j, j < 9 → (parseFieldDescriptor (T j).2.2.1).map defaultValue = some (vp_V [.null, .int 0, .null, .null, .null, .null, .null, .int 0, .int 0] j) := by
  intro C T h
  cases h
  decide +kernel
theorem nf_11 : ∀ C T, vwCl[11]? = some (C, T, 11) → ∀ j, j < 11 → (parseFieldDescriptor (T j).2.2.1).map defaultValue = some (vp_V [.null, .null, .null, .null, .null, .null, .null, .null, .int 0, .int 0, .int 0] j) := by
  intro C T h
  cases h
  decide +kernel
theorem nf_12 : ∀ C T, vwCl[12]? = some (C, T, 37) → ∀ j, j < 37 → (parseFieldDescriptor (T j).2.2.1).map defaultValue = some (vp_V [.int 0, .int 0, .null, .null, .null, .null, .int 0, .null, .null, .null, .null, .int 0, .int 0, .int 0, .null, .int 0, .int 0, .int 0, .null, .null, .null, .null, .null, .null, .null, .null, .long 0, .null, .int 0, .int 0, .int 0, .int 0, .null, .null, .null, .null, .long 0] j) := by
  intro C T h
  cases h
  decide +kernel
/-- nothing outside lo .. hi has changed -/
def Fr (lo hi : Nat) (σ σ' : aS) : Prop := σ'.1 = σ.1 ∧ ∀ a, a < lo ∨ hi ≤ a → σ'.2 a = σ.2 a
theorem Fr.rf {lo hi : Nat} {σ : aS} : Fr lo hi σ σ := ⟨rfl, fun _ _ => rfl⟩
theorem Fr.tr {lo hi : Nat} {σ σ1 σ2 : aS} (h1 : Fr lo hi σ σ1) (h2 : Fr lo hi σ1 σ2) : Fr lo hi σ σ2 := ⟨h2.1.trans h1.1, fun a ha => (h2.2 a ha).trans (h1.2 a ha)⟩
theorem Fr.wd {lo hi lo' hi' : Nat} {σ σ' : aS} (h : Fr lo hi σ σ') (h1 : lo' ≤ lo) (h2 : hi ≤ hi') : Fr lo' hi' σ σ' := ⟨h.1, fun a ha => h.2 a (by omega)⟩
theorem Fr.set {lo hi a : Nat} {e : va_E} {σ σ' : aS} (h : Fr lo hi σ σ') (h1 : lo ≤ a) (h2 : a < hi) : Fr lo hi σ (aSet σ' a e) := ⟨h.1, fun b hb => (aSet_n (by omega)).trans (h.2 b hb)⟩
theorem lk_f {lo hi b : Nat} {σ σ' : aS} {r : Option va_E} (hf : Fr lo hi σ σ') (h : σ.2 b = r) (hb : b < lo ∨ hi ≤ b) : σ'.2 b = r := (hf.2 b hb).trans h
theorem lk_n {σ : aS} {a b : Nat} {e : va_E} {r : Option va_E} (h : σ.2 b = r) (hne : b ≠ a) : (aSet σ a e).2 b = r := (aSet_n hne).trans h
theorem lk_w {σ : aS} {b : Nat} {e : va_E} {r : Option va_E} (h : σ.2 b = r) (hne : b ≠ σ.1) : (aNew σ e).2 b = r := (aNew_n hne).trans h
theorem A_dom (k : (∀ (a : Nat) (e : va_E), σ.2 a = some e → G.2.1 ≤ a ∧ a < σ.1) → AA G X cs ss pc lv st σ) : AA G X cs ss pc lv st σ := by
  obtain ⟨p, l', e, R', s, m, args, below, meth, c, Q⟩ := X
  intro H locs ls hH hS hL
  exact k (fun a e h => ⟨(hH.2 a e h).1, by have := (hH.2 a e h).2.lt; rw [hH.1] at this; exact this⟩) H locs ls hH hS hL
theorem A_name {x : Int32} (k : ∀ y : Int32, y = x → AA G X cs ss pc lv (.int y :: st) σ) : AA G X cs ss pc lv (.int x :: st) σ := k x rfl
theorem A_top {x y : Int32} (h : x = y) (k : AA G X cs ss pc lv (.int y :: st) σ) : AA G X cs ss pc lv (.int x :: st) σ := h ▸ k
theorem A_gen (P : aS → Prop) (h : P σ) (k : ∀ σ' : aS, P σ' → AA G X cs ss pc lv st σ') : AA G X cs ss pc lv st σ := k σ h
theorem aNew_s' {σ : aS} {b : Nat} {e : va_E} (h : b = σ.1) : (aNew σ e).2 b = some e := by subst h; exact aNew_s
theorem A_cs {cs' ss' : Nat} (h1 : cs = cs') (h2 : ss = ss') (k : AA G X cs' ss' pc lv st σ) : AA G X cs ss pc lv st σ := by subst h1; subst h2; exact k
theorem A_eq {pc' : Nat} {lv' : List (Option Value)} {st' : List Value} {σ' : aS} (k : AA G X cs ss pc' lv' st' σ') (h1 : pc = pc') (h2 : lv = lv') (h3 : st = st') (h4 : σ = σ') : AA G X cs ss pc lv st σ := by subst h1; subst h2; subst h3; subst h4; exact k
end rows
