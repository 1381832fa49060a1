/-! THE WORLD AS A MAP: which cell holds what (gW), what a heap holds of it (gR), a walking judgement V over it, contracts Ct over it; a row an instruction. -/
abbrev gEn : Type := (Nat × vp_A) ⊕ (Nat × List Value)
abbrev gW : Type := (Nat → Option gEn) × Nat
def gset (w : gW) (a : Nat) (e : gEn) : gW := (va_up w.1 a (some e), w.2)
def gnew (w : gW) (e : gEn) : gW := (va_up w.1 w.2 (some e), w.2 + 1)
theorem gset_self (w : gW) (a : Nat) (e : gEn) : (gset w a e).1 a = some e := va_up_self _ _ _
theorem gset_ne (w : gW) {a b : Nat} (e : gEn) (h : b ≠ a) : (gset w a e).1 b = w.1 b := va_up_ne _ _ h
theorem gset_sz (w : gW) (a : Nat) (e : gEn) : (gset w a e).2 = w.2 := rfl
theorem gnew_self (w : gW) (e : gEn) : (gnew w e).1 w.2 = some e := va_up_self _ _ _
theorem gnew_ne (w : gW) {b : Nat} (e : gEn) (h : b ≠ w.2) : (gnew w e).1 b = w.1 b := va_up_ne _ _ h
theorem gnew_sz (w : gW) (e : gEn) : (gnew w e).2 = w.2 + 1 := rfl
/-- what is fixed over the whole law: the launch, the classes' numbers and slots, the heap at the law's start, the array classes' numbers -/
abbrev gN : Type := Launch × va_G × Heap × (Nat → ClassId)
def gA (N : gN) : Nat → Prop := fun q => N.2.2.1.size ≤ q
def gTys (N : gN) : List (ClassId × FieldType) := [(N.2.2.2 0, .int), (N.2.2.2 1, .byte), (N.2.2.2 2, .boolean), (N.2.2.2 3, .object RRow), (N.2.2.2 4, .object "java/lang/Object")]
def gAt : List FieldType := [.int, .byte, .boolean, .object RRow, .object "java/lang/Object"]
theorem gTys_at {N : gN} {kd : Nat} {ty : FieldType} (h : gAt[kd]? = some ty) : (gTys N)[kd]? = some (N.2.2.2 kd, ty) := by
  have hk : kd < 5 := (List.getElem?_eq_some_iff.mp h).1
  rcases (show kd = 0 ∨ kd = 1 ∨ kd = 2 ∨ kd = 3 ∨ kd = 4 by omega) with rfl | rfl | rfl | rfl | rfl <;> cases h <;> rfl
/-- words that a call carries over though they are no words of a contract's list -/
def gnk : Cond → Bool
  | .fieldLinkNest _ _ _ _ _ _ => true
  | .methodLinkNest _ _ _ _ => true
  | .castable _ _ => true
  | .arrayOver (.object _) => true
  | _ => false
theorem gnk_moved : ∀ (w : Cond), gnk w = true → ∀ {s U : State}, s.WarmedH U.vm → va_Nw w s → va_Nw w U
  | .fieldLinkNest _ _ _ _ _ _, _, _, _, hW, h => va_Nw.warmF hW h
  | .methodLinkNest _ _ _ _, _, _, _, hW, h => va_Nw.warmM hW h
  | .castable _ _, _, _, _, hW, h => va_Nw.warmC hW h
  | .arrayOver (.object _), _, _, _, hW, h => va_AO.moved hW.alike h
theorem gnk_same : ∀ (w : Cond), gnk w = true → ∀ {s U : State}, s.vm = U.vm → va_Nw w s → va_Nw w U
  | .fieldLinkNest _ _ _ _ _ _, _, _, _, hW, h => va_Nw.same rfl hW h
  | .methodLinkNest _ _ _ _, _, _, _, hW, h => va_Nw.same rfl hW h
  | .castable _ _, _, _, _, hW, h => va_Nw.same rfl hW h
  | .arrayOver (.object _), _, _, _, hW, h => va_AO.moved (by rw [hW]; exact Vm.Alike.refl _) h
theorem gNw_ok : ∀ w ∈ gNw, gnk w = true := by decide +kernel
/-- ArrayList's own empty array (its cell is N.2.2.2 5), the mirror of Object[], getClass -/
def gZ (N : gN) (U : State) : Prop := va_Z "java/util/ArrayList" "DEFAULTCAPACITY_EMPTY_ELEMENTDATA" "[Ljava/lang/Object;" (.ref (N.2.2.2 5)) (gA N) U N.2.2.1 ∧ va_T (.object "java/lang/Object") (N.2.2.2 5) 0 (fun _ => .null) (gA N) U N.2.2.1 ∧ va_Mi "[Ljava/lang/Object;" (N.2.2.2 6) U ∧ va_Dc U
theorem gZ_moved {N : gN} {s U : State} (hvm : s.vm.Alike U.vm) (h : gZ N s) : gZ N U := ⟨h.1.moved hvm, h.2.1.moved hvm, h.2.2.1.moved hvm, h.2.2.2.moved hvm⟩
def gK (N : gN) (U : State) : Prop := va_K N.2.1 gCl (gTys N) U ∧ (∀ w ∈ gNw, va_Nw w U) ∧ gZ N U
theorem gK_moved {N : gN} {s U : State} (hW : s.WarmedH U.vm) (h : gK N s) : gK N U := ⟨va_K.moved hW.alike h.1, fun w hw => gnk_moved w (gNw_ok w hw) hW (h.2.1 w hw), gZ_moved hW.alike h.2.2⟩
theorem gK_same {N : gN} {s U : State} (hv : s.vm = U.vm) (h : gK N s) : gK N U := ⟨va_K.moved (by rw [hv]; exact Vm.Alike.refl _) h.1, fun w hw => gnk_same w (gNw_ok w hw) hv (h.2.1 w hw), gZ_moved (by rw [hv]; exact Vm.Alike.refl _) h.2.2⟩
def gcv (N : gN) (e : gEn) : va_E := match e with
  | .inl a => .inl (N.2.2.2 a.1, a.2)
  | .inr o => .inr o
def gat (N : gN) (a : Nat) (e : gEn) (H : Heap) : Prop := va_at N.2.1 gCl (a, gcv N e) H
def gR (N : gN) (w : gW) (H : Heap) : Prop := H.size = w.2 ∧ N.2.2.1.size ≤ w.2 ∧ (∀ q : Nat, q < N.2.2.1.size → H[q]? = N.2.2.1[q]?) ∧ ∀ (q : Nat) (e : gEn), w.1 q = some e → N.2.2.1.size ≤ q ∧ gat N q e H
theorem gat.kept {N : gN} {a : Nat} {e : gEn} {H H1 : Heap} (h : gat N a e H) (hq : H1[a]? = H[a]?) : gat N a e H1 := va_at.kept (q := (a, gcv N e)) h hq
theorem gat.lt {N : gN} {a : Nat} {e : gEn} {H : Heap} (h : gat N a e H) : a < H.size := va_at.lt (q := (a, gcv N e)) h
theorem gR.put {N : gN} {w : gW} {H H1 : Heap} {a : Nat} {e e0 : gEn} (h : gR N w H) (h0 : w.1 a = some e0) (z : H1.size = H.size) (oq : ∀ q : Nat, q ≠ a → H1[q]? = H[q]?) (he : gat N a e H1) : gR N (gset w a e) H1 := by
  obtain ⟨h1, h2, h3, h4⟩ := h
  have hA := (h4 a e0 h0).1
  refine ⟨by rw [z, h1]; rfl, h2, fun q hq => ?_, fun q x hx => ?_⟩
  · rw [oq q (by omega)]; exact h3 q hq
  · by_cases hqa : q = a
    · subst hqa
      rw [gset_self] at hx
      cases hx
      exact ⟨hA, he⟩
    · rw [gset_ne _ _ hqa] at hx
      exact ⟨(h4 q x hx).1, (h4 q x hx).2.kept (oq q hqa)⟩
theorem gR.new {N : gN} {w : gW} {H H1 : Heap} {e : gEn} (h : gR N w H) (z : H1.size = H.size + 1) (oq : ∀ q : Nat, q < H.size → H1[q]? = H[q]?) (he : gat N w.2 e H1) : gR N (gnew w e) H1 := by
  obtain ⟨h1, h2, h3, h4⟩ := h
  refine ⟨by rw [z, h1]; rfl, Nat.le_succ_of_le h2, fun q hq => ?_, fun q x hx => ?_⟩
  · rw [oq q (by omega)]; exact h3 q hq
  · by_cases hqa : q = w.2
    · subst hqa
      rw [gnew_self] at hx
      cases hx
      exact ⟨h2, he⟩
    · rw [gnew_ne _ _ hqa] at hx
      have h5 := h4 q x hx
      exact ⟨h5.1, h5.2.kept (oq q h5.2.lt)⟩
/-! locals by place -/
def lvh (ls : Array Slot) (lv : List (Option Value)) : Prop := ls.size = lv.length ∧ lv_wf ls ∧ ∀ (i : Nat) (v : Value), lv[i]? = some (some v) → v.category = 1 ∧ ls[i]? = some (.val v)
def lva (lv : List (Option Value)) : List (Nat × Value) := (List.range lv.length).filterMap fun i => (lv[i]?.join).map fun v => (i, v)
theorem lva_mem {lv : List (Option Value)} {i : Nat} {v : Value} (h : lv[i]? = some (some v)) : (i, v) ∈ lva lv :=
  List.mem_filterMap.mpr ⟨i, List.mem_range.mpr (List.getElem?_eq_some_iff.mp h).1, by rw [h]; rfl⟩
theorem lva_of {lv : List (Option Value)} {q : Nat × Value} (h : q ∈ lva lv) : lv[q.1]? = some (some q.2) := by
  obtain ⟨i, -, hi⟩ := List.mem_filterMap.mp h
  cases hl : lv[i]? with
  | none => rw [hl] at hi; cases hi
  | some o =>
    cases o with
    | none => rw [hl] at hi; cases hi
    | some v =>
      rw [hl] at hi
      cases hi
      exact hl
theorem lvh.has {ls : Array Slot} {lv : List (Option Value)} (h : lvh ls lv) : lv_has ls lv.length (lva lv) := ⟨h.1, h.2.1, fun q hq => (h.2.2 q.1 q.2 (lva_of hq)).2⟩
theorem lvh.store {ls ls' : Array Slot} {lv : List (Option Value)} {i : Nat} {v : Value} (h : lvh ls lv) (hi : i < lv.length) (hc : v.category = 1)
    (h' : lv_has ls' lv.length ((i, v) :: (lva lv).filter (fun q => !(q.1 == i) && !(q.1 + 1 == i && q.2.category == 2)))) : lvh ls' (lv.set i (some v)) := by
  refine ⟨by rw [h'.1, List.length_set], h'.2.1, fun j u hj => ?_⟩
  by_cases e : i = j
  · subst e
    rw [List.getElem?_set_self hi] at hj
    cases hj
    exact ⟨hc, h'.2.2 (i, v) List.mem_cons_self⟩
  · rw [List.getElem?_set_ne e] at hj
    obtain ⟨c1, -⟩ := h.2.2 j u hj
    refine ⟨c1, h'.2.2 (j, u) (List.mem_cons_of_mem _ (List.mem_filter.mpr ⟨lva_mem hj, ?_⟩))⟩
    simp [c1, Ne.symm e]
/-- fewer known locals -/
def lvle (lv lv' : List (Option Value)) : Prop := lv'.length = lv.length ∧ ∀ (i : Nat) (v : Value), lv'[i]? = some (some v) → lv[i]? = some (some v)
theorem lvle.nil : lvle [] [] := ⟨rfl, fun i v h => h⟩
theorem lvle.keep {x : Option Value} {lv lv' : List (Option Value)} (h : lvle lv lv') : lvle (x :: lv) (x :: lv') := ⟨by simp [h.1], fun i v hi => by
  cases i with
  | zero => exact hi
  | succ i => exact h.2 i v hi⟩
theorem lvle.drop {x : Option Value} {lv lv' : List (Option Value)} (h : lvle lv lv') : lvle (x :: lv) (none :: lv') := ⟨by simp [h.1], fun i v hi => by
  cases i with
  | zero => cases hi
  | succ i => exact h.2 i v hi⟩
theorem lvh.le {ls : Array Slot} {lv lv' : List (Option Value)} (h : lvh ls lv) (hl : lvle lv lv') : lvh ls lv' := ⟨by rw [h.1, hl.1], h.2.1, fun i v hi => h.2.2 i v (hl.2 i v hi)⟩
/-! the judgement -/
abbrev gX : Type := gN × Program × Env × Room × State × MethodId × Array Value × List Frame × Method × Code × (State → Prop)
def V (X : gX) (w : gW) (k n : Nat) (lv : List (Option Value)) (st : List Value) (pc : Nat) : Prop := match X with
  | (N, p, e, R, s, m, args, below, meth, c, Q) => ∀ (H : Heap) (locs : List Loc) (ls : Array Slot), gR N w H → (∀ q ∈ locs, gA N q.base) → lvh ls lv → W p N.1 e R s m args below meth c H locs k n Q (F0 m pc ls st)
/-- what a walk knows of its method: code cc of the class own, nL locals, room rm; the tables' words and numbers -/
def Fx (X : gX) (cc : ByteArray) (own : String) (nL : Nat) (rm : Room) : Prop := match X with
  | (N, p, e, R, s, m, args, below, meth, c, Q) => p.tables.exec = Jvm.exec ∧ c.code = cc ∧ c.maxLocals = nL ∧ s.vm.findClass own = some m.cls ∧ (∀ w ∈ gT, w.before args s = true) ∧ gK N s ∧ R = rm
/-- the end of a method: its answer and world meet post; mc, ms: how many cells, of how many slots, it may make -/
def Rt (X : gX) (post : Option Value → gW → Prop) (mc ms : Nat) (ret : Option FieldType) (nm : String) : Prop := match X with
  | (N, p, e, R, s, m, args, below, meth, c, Q) => Q = MQ below (fun _ _ oc t => ∃ (v : Option Value) (w' : gW), oc = .returned v ∧ post v w' ∧ gR N w' t.heap) args s mc ms (gA N) ∧ meth.sig.returnType = ret ∧ meth.locks = false ∧ meth.name = nm
/-- a contract: called with av over the world w, y returns, and its answer and world meet post -/
def CtN (N : gN) (y : MethodName) (cc : ByteArray) (maxL : Nat) (ret : Option FieldType) (rm : Room) (av : List Value) (w : gW) (post : Option Value → gW → Prop) (mc ms : Nat) : Prop :=
  Met N.1 y (.code y cc maxL ret :: gT) rm (va_Pc av (fun U => gK N U ∧ gR N w U.heap)) (fun _ _ oc t => ∃ (v : Option Value) (w' : gW), oc = .returned v ∧ post v w' ∧ gR N w' t.heap) mc ms (gA N)
def elv (maxL : Nat) (av : List Value) : List (Option Value) := av.map some ++ List.replicate (maxL - av.length) none
theorem lg_sl_1 (vs : List Value) (h : ∀ v ∈ vs, v.category = 1) : lg_sl vs = vs.map Slot.val := by
  induction vs with
  | nil => rfl
  | cons v t ih =>
    have h1 : v.category = 1 := h v List.mem_cons_self
    have h2 := ih (fun w hw => h w (List.mem_cons_of_mem _ hw))
    unfold lg_sl at h2 ⊢
    rw [List.flatMap_cons, h2]
    simp [h1]
theorem lv_args_1 (vs : List Value) (h : ∀ v ∈ vs, v.category = 1) : ∀ (k i : Nat) (v : Value), vs[i]? = some v → (k + i, v) ∈ lv_args k vs := by
  induction vs with
  | nil => intro k i v hv; simp at hv
  | cons u t ih =>
    intro k i v hv
    have h1 : ¬ u.category = 2 := by rw [h u List.mem_cons_self]; decide
    cases i with
    | zero =>
      rw [List.getElem?_cons_zero] at hv
      cases hv
      exact List.mem_cons_self
    | succ i =>
      rw [List.getElem?_cons_succ] at hv
      have h2 := ih (fun w hw => h w (List.mem_cons_of_mem _ hw)) (k + 1) i v hv
      simp only [lv_args, if_neg h1]
      rw [show k + (i + 1) = k + 1 + i by omega]
      exact List.mem_cons_of_mem _ h2
theorem ct_intro (N : gN) {y : MethodName} {cc : ByteArray} {maxL : Nat} {ret : Option FieldType} {rm : Room} {av : List Value} {w : gW} {post : Option Value → gW → Prop} {mc ms : Nat} (lv : List (Option Value))
    (hy : plainName y.cls = true) (hlv : elv maxL av = lv) (hlen : av.length ≤ maxL) (hcat : ∀ v ∈ av, v.category = 1)
    (body : ∀ X : gX, X.1 = N → Fx X cc y.cls maxL rm → Rt X post mc ms ret y.name → V X w 0 0 lv [] 0) : CtN N y cc maxL ret rm av w post mc ms := by
  refine Met.ofW (cc := cc) (maxL := maxL) (ret := ret) hy rfl ?_
  intro p e s m args below meth c s₁ B hml hv
  obtain ⟨rfl, hK, hR⟩ := hv
  have hts := atoms_spec (ws := .code y cc maxL ret :: gT) B.pre
  have hown : s.vm.findClass y.cls = some m.cls := findClass_of_methodNamed B.named
  have hnm : meth.name = y.name := (name_of_methodNamed B.named B.method).1
  have b := body (N, p, e, (headSpec (.code y cc maxL ret :: gT) rm).room, s, m, av.toArray, below, meth, c, MQ below (fun _ _ oc t => ∃ (v : Option Value) (w' : gW), oc = .returned v ∧ post v w' ∧ gR N w' t.heap) av.toArray s mc ms (gA N)) rfl
    ⟨B.exec, B.bytes, hml, hown, fun w hw => hts w (List.mem_cons_of_mem _ hw), hK, rfl⟩ ⟨rfl, B.returns, B.notSynchronized, hnm⟩
  rw [lg_entry_eq]
  refine b s.heap [] _ hR (fun q h => by cases h) ?_
  have hl := lv_entry av (n := maxL) (by rw [lg_sl_1 av hcat, List.length_map]; exact hlen)
  refine ⟨by rw [hl.1, ← hlv]; simp [elv]; omega, hl.2.1, fun i v hi => ?_⟩
  rw [← hlv] at hi
  have hi2 : av[i]? = some v := by
    unfold elv at hi
    by_cases hlt : i < (av.map some).length
    · rw [List.getElem?_append_left hlt, List.getElem?_map] at hi
      cases ha : av[i]? with
      | none => rw [ha] at hi; cases hi
      | some u => rw [ha] at hi; cases hi; rfl
    · rw [List.getElem?_append_right (by omega)] at hi
      have := List.eq_of_mem_replicate (List.mem_of_getElem? hi)
      cases this
  refine ⟨hcat v (List.mem_of_getElem? hi2), ?_⟩
  have := hl.2.2 _ (lv_args_1 av hcat 0 i v hi2)
  simpa using this
section VR
variable {X : gX} {cc : ByteArray} {own : String} {nL : Nat} {rm : Room} {w : gW} {k n pc : Nat} {lv : List (Option Value)} {st : List Value}
theorem V.le {lv' : List (Option Value)} (hl : lvle lv lv') (kk : V X w k n lv' st pc) : V X w k n lv st pc := by
  obtain ⟨N, p, e, R, s, m, args, below, meth, c, Q⟩ := X
  exact fun H locs ls hR hf hv => kk H locs ls hR hf (hv.le hl)
theorem V.wid {k' n' : Nat} (h1 : k ≤ k') (h2 : n ≤ n') (kk : V X w k' n' lv st pc) : V X w k n lv st pc := by
  obtain ⟨N, p, e, R, s, m, args, below, meth, c, Q⟩ := X
  exact fun H locs ls hR hf hv => W.widen h1 h2 (kk H locs ls hR hf hv)
theorem V.cong {w' : gW} {lv' : List (Option Value)} {st' : List Value} (h1 : w = w') (h2 : lv = lv') (h3 : st = st') (kk : V X w' k n lv' st' pc) : V X w k n lv st pc := by
  subst h1; subst h2; subst h3; exact kk
theorem g_iconst (C : Fx X cc own nL rm) {z : Int} {v : Int32} (d : decode cc pc = .ok (.iconst z, 1)) (hv : Int32.ofInt z = v) (kk : V X w k n lv (.int v :: st) (pc + 1)) : V X w k n lv st pc := by
  obtain ⟨N, p, e, R, s, m, args, below, meth, c, Q⟩ := X
  exact fun H locs ls hR hf hl => lv_iconst C.1 C.2.1 d hv (kk H locs ls hR hf hl)
theorem g_bipush (C : Fx X cc own nL rm) {z : Int} {v : Int32} (d : decode cc pc = .ok (.bipush z, 2)) (hv : (Int8.ofInt z).toInt32 = v) (kk : V X w k n lv (.int v :: st) (pc + 2)) : V X w k n lv st pc := by
  obtain ⟨N, p, e, R, s, m, args, below, meth, c, Q⟩ := X
  exact fun H locs ls hR hf hl => lv_bipush C.1 C.2.1 d hv (kk H locs ls hR hf hl)
theorem g_sipush (C : Fx X cc own nL rm) {z : Int} {v : Int32} (d : decode cc pc = .ok (.sipush z, 3)) (hv : (Int16.ofInt z).toInt32 = v) (kk : V X w k n lv (.int v :: st) (pc + 3)) : V X w k n lv st pc := by
  obtain ⟨N, p, e, R, s, m, args, below, meth, c, Q⟩ := X
  exact fun H locs ls hR hf hl => lv_sipush C.1 C.2.1 d hv (kk H locs ls hR hf hl)
theorem g_ldn (C : Fx X cc own nL rm) {i : Fin 4} {x : Int32} (d : decode cc pc = .ok (.iload_n i, 1)) (hi : lv[(i : Nat)]? = some (some (.int x))) (kk : V X w k n lv (.int x :: st) (pc + 1)) : V X w k n lv st pc := by
  obtain ⟨N, p, e, R, s, m, args, below, meth, c, Q⟩ := X
  exact fun H locs ls hR hf hl => lv_iload_n C.1 C.2.1 d rfl (hl.2.2 _ _ hi).2 (kk H locs ls hR hf hl)
theorem g_ld (C : Fx X cc own nL rm) {i : Nat} {x : Int32} (d : decode cc pc = .ok (.iload i, 2)) (hi : lv[i]? = some (some (.int x))) (kk : V X w k n lv (.int x :: st) (pc + 2)) : V X w k n lv st pc := by
  obtain ⟨N, p, e, R, s, m, args, below, meth, c, Q⟩ := X
  exact fun H locs ls hR hf hl => lv_iload C.1 C.2.1 d (hl.2.2 _ _ hi).2 (kk H locs ls hR hf hl)
theorem g_aldn (C : Fx X cc own nL rm) {i : Fin 4} {x : Nat} (d : decode cc pc = .ok (.aload_n i, 1)) (hi : lv[(i : Nat)]? = some (some (.ref x))) (kk : V X w k n lv (.ref x :: st) (pc + 1)) : V X w k n lv st pc := by
  obtain ⟨N, p, e, R, s, m, args, below, meth, c, Q⟩ := X
  exact fun H locs ls hR hf hl => lv_aload_n C.1 C.2.1 d rfl (hl.2.2 _ _ hi).2 (kk H locs ls hR hf hl)
theorem g_ald (C : Fx X cc own nL rm) {i : Nat} {x : Nat} (d : decode cc pc = .ok (.aload i, 2)) (hi : lv[i]? = some (some (.ref x))) (kk : V X w k n lv (.ref x :: st) (pc + 2)) : V X w k n lv st pc := by
  obtain ⟨N, p, e, R, s, m, args, below, meth, c, Q⟩ := X
  exact fun H locs ls hR hf hl => lv_aload C.1 C.2.1 d (hl.2.2 _ _ hi).2 (kk H locs ls hR hf hl)
theorem g_stn (C : Fx X cc own nL rm) {i : Fin 4} {x : Int32} (lv' : List (Option Value)) (d : decode cc pc = .ok (.istore_n i, 1)) (hi : (i : Nat) < lv.length) (hl' : lv.set (i : Nat) (some (.int x)) = lv') (kk : V X w k n lv' st (pc + 1)) : V X w k n lv (.int x :: st) pc := by
  obtain ⟨N, p, e, R, s, m, args, below, meth, c, Q⟩ := X
  subst hl'
  exact fun H locs ls hR hf hl => lv_istore_n C.1 C.2.1 d rfl hl.has hi rfl (fun ls' h' => kk H locs ls' hR hf (hl.store hi rfl h'))
theorem g_st (C : Fx X cc own nL rm) {i : Nat} {x : Int32} (lv' : List (Option Value)) (d : decode cc pc = .ok (.istore i, 2)) (hi : i < lv.length) (hl' : lv.set i (some (.int x)) = lv') (kk : V X w k n lv' st (pc + 2)) : V X w k n lv (.int x :: st) pc := by
  obtain ⟨N, p, e, R, s, m, args, below, meth, c, Q⟩ := X
  subst hl'
  exact fun H locs ls hR hf hl => lv_istore C.1 C.2.1 d hl.has hi rfl (fun ls' h' => kk H locs ls' hR hf (hl.store hi rfl h'))
theorem g_astn (C : Fx X cc own nL rm) {i : Fin 4} {x : Nat} (lv' : List (Option Value)) (d : decode cc pc = .ok (.astore_n i, 1)) (hi : (i : Nat) < lv.length) (hl' : lv.set (i : Nat) (some (.ref x)) = lv') (kk : V X w k n lv' st (pc + 1)) : V X w k n lv (.ref x :: st) pc := by
  obtain ⟨N, p, e, R, s, m, args, below, meth, c, Q⟩ := X
  subst hl'
  exact fun H locs ls hR hf hl => lv_astore_n C.1 C.2.1 d rfl hl.has hi rfl (fun ls' h' => kk H locs ls' hR hf (hl.store hi rfl h'))
theorem g_ast (C : Fx X cc own nL rm) {i : Nat} {x : Nat} (lv' : List (Option Value)) (d : decode cc pc = .ok (.astore i, 2)) (hi : i < lv.length) (hl' : lv.set i (some (.ref x)) = lv') (kk : V X w k n lv' st (pc + 2)) : V X w k n lv (.ref x :: st) pc := by
  obtain ⟨N, p, e, R, s, m, args, below, meth, c, Q⟩ := X
  subst hl'
  exact fun H locs ls hR hf hl => lv_astore C.1 C.2.1 d hl.has hi rfl (fun ls' h' => kk H locs ls' hR hf (hl.store hi rfl h'))
theorem g_iinc (C : Fx X cc own nL rm) {i : Nat} {z : Int} {x v : Int32} (lv' : List (Option Value)) (d : decode cc pc = .ok (.iinc i z, 3)) (hx : lv[i]? = some (some (.int x))) (hv : x + Int32.ofInt z = v) (hl' : lv.set i (some (.int v)) = lv') (kk : V X w k n lv' st (pc + 3)) : V X w k n lv st pc := by
  obtain ⟨N, p, e, R, s, m, args, below, meth, c, Q⟩ := X
  subst hl'
  have hi : i < lv.length := (List.getElem?_eq_some_iff.mp hx).1
  intro H locs ls hR hf hl
  obtain ⟨q, hq⟩ := List.getElem?_of_mem (lva_mem hx)
  exact lv_iinc C.1 C.2.1 d hl.has hq hv hi rfl (fun ls' h' => kk H locs ls' hR hf (hl.store hi rfl h'))
theorem g_add (C : Fx X cc own nL rm) {x y : Int32} (d : decode cc pc = .ok (.iadd, 1)) (kk : V X w k n lv (.int (x + y) :: st) (pc + 1)) : V X w k n lv (.int y :: .int x :: st) pc := by
  obtain ⟨N, p, e, R, s, m, args, below, meth, c, Q⟩ := X
  exact fun H locs ls hR hf hl => lv_iadd C.1 C.2.1 d (kk H locs ls hR hf hl)
theorem g_sub (C : Fx X cc own nL rm) {x y : Int32} (d : decode cc pc = .ok (.isub, 1)) (kk : V X w k n lv (.int (x - y) :: st) (pc + 1)) : V X w k n lv (.int y :: .int x :: st) pc := by
  obtain ⟨N, p, e, R, s, m, args, below, meth, c, Q⟩ := X
  exact fun H locs ls hR hf hl => lv_isub C.1 C.2.1 d (kk H locs ls hR hf hl)
theorem g_mul (C : Fx X cc own nL rm) {x y : Int32} (d : decode cc pc = .ok (.imul, 1)) (kk : V X w k n lv (.int (x * y) :: st) (pc + 1)) : V X w k n lv (.int y :: .int x :: st) pc := by
  obtain ⟨N, p, e, R, s, m, args, below, meth, c, Q⟩ := X
  exact fun H locs ls hR hf hl => lv_imul C.1 C.2.1 d (kk H locs ls hR hf hl)
theorem g_and (C : Fx X cc own nL rm) {x y : Int32} (d : decode cc pc = .ok (.iand, 1)) (kk : V X w k n lv (.int (x &&& y) :: st) (pc + 1)) : V X w k n lv (.int y :: .int x :: st) pc := by
  obtain ⟨N, p, e, R, s, m, args, below, meth, c, Q⟩ := X
  exact fun H locs ls hR hf hl => lv_iand C.1 C.2.1 d (kk H locs ls hR hf hl)
theorem g_shr (C : Fx X cc own nL rm) {x y v : Int32} (d : decode cc pc = .ok (.ishr, 1)) (hv : x >>> (y &&& 31) = v) (kk : V X w k n lv (.int v :: st) (pc + 1)) : V X w k n lv (.int y :: .int x :: st) pc := by
  obtain ⟨N, p, e, R, s, m, args, below, meth, c, Q⟩ := X
  subst hv
  exact fun H locs ls hR hf hl => lv_ishr C.1 C.2.1 d (kk H locs ls hR hf hl)
theorem g_div (C : Fx X cc own nL rm) {x y : Int32} (d : decode cc pc = .ok (.idiv, 1)) (hne : ¬ y = 0) (kk : V X w k n lv (.int (x / y) :: st) (pc + 1)) : V X w k n lv (.int y :: .int x :: st) pc := by
  obtain ⟨N, p, e, R, s, m, args, below, meth, c, Q⟩ := X
  exact fun H locs ls hR hf hl => lv_idiv C.1 C.2.1 d hne (kk H locs ls hR hf hl)
theorem g_addN (C : Fx X cc own nL rm) {x y : Nat} (d : decode cc pc = .ok (.iadd, 1)) (kk : V X w k n lv (.int (nI (x + y)) :: st) (pc + 1)) : V X w k n lv (.int (nI y) :: .int (nI x) :: st) pc :=
  g_add C d (by rw [nI_add]; exact kk)
theorem g_subN (C : Fx X cc own nL rm) {x y : Nat} (d : decode cc pc = .ok (.isub, 1)) (h : y ≤ x) (kk : V X w k n lv (.int (nI (x - y)) :: st) (pc + 1)) : V X w k n lv (.int (nI y) :: .int (nI x) :: st) pc :=
  g_sub C d (by rw [pk_sub h]; exact kk)
theorem g_mulN (C : Fx X cc own nL rm) {x y : Nat} (d : decode cc pc = .ok (.imul, 1)) (kk : V X w k n lv (.int (nI (x * y)) :: st) (pc + 1)) : V X w k n lv (.int (nI y) :: .int (nI x) :: st) pc :=
  g_mul C d (by rw [pk_mul]; exact kk)
theorem g_divN (C : Fx X cc own nL rm) {x y : Nat} (d : decode cc pc = .ok (.idiv, 1)) (hx : x < 2 ^ 31) (hy : 0 < y) (hy2 : y < 2 ^ 31) (kk : V X w k n lv (.int (nI (x / y)) :: st) (pc + 1)) : V X w k n lv (.int (nI y) :: .int (nI x) :: st) pc :=
  g_div C d (nI_ne0 hy hy2) (by rw [pk_div hx hy hy2]; exact kk)
theorem g_i2l (C : Fx X cc own nL rm) {x : Int32} (d : decode cc pc = .ok (.i2l, 1)) (kk : V X w k n lv (.long x.toInt64 :: st) (pc + 1)) : V X w k n lv (.int x :: st) pc := by
  obtain ⟨N, p, e, R, s, m, args, below, meth, c, Q⟩ := X
  exact fun H locs ls hR hf hl => lv_i2l C.1 C.2.1 d rfl (kk H locs ls hR hf hl)
theorem g_i2b (C : Fx X cc own nL rm) {x : Int32} (d : decode cc pc = .ok (.i2b, 1)) (kk : V X w k n lv (.int x.toInt8.toInt32 :: st) (pc + 1)) : V X w k n lv (.int x :: st) pc := by
  obtain ⟨N, p, e, R, s, m, args, below, meth, c, Q⟩ := X
  exact fun H locs ls hR hf hl => lv_i2b C.1 C.2.1 d rfl (kk H locs ls hR hf hl)
theorem g_lcmp (C : Fx X cc own nL rm) {x y : Int64} (d : decode cc pc = .ok (.lcmp, 1)) (kk : V X w k n lv (.int (lg_cmp x y) :: st) (pc + 1)) : V X w k n lv (.long y :: .long x :: st) pc := by
  obtain ⟨N, p, e, R, s, m, args, below, meth, c, Q⟩ := X
  exact fun H locs ls hR hf hl => W.lcmp C.1 C.2.1 d (kk H locs ls hR hf hl)
theorem g_dup (C : Fx X cc own nL rm) {v : Value} (d : decode cc pc = .ok (.dup, 1)) (hc : v.category = 1) (kk : V X w k n lv (v :: v :: st) (pc + 1)) : V X w k n lv (v :: st) pc := by
  obtain ⟨N, p, e, R, s, m, args, below, meth, c, Q⟩ := X
  exact fun H locs ls hR hf hl => lv_dup C.1 C.2.1 d hc (kk H locs ls hR hf hl)
theorem g_dupx1 (C : Fx X cc own nL rm) {v u : Value} (d : decode cc pc = .ok (.dup_x1, 1)) (hc : v.category = 1) (hu : u.category = 1) (kk : V X w k n lv (v :: u :: v :: st) (pc + 1)) : V X w k n lv (v :: u :: st) pc := by
  obtain ⟨N, p, e, R, s, m, args, below, meth, c, Q⟩ := X
  exact fun H locs ls hR hf hl => lv_dup_x1 C.1 C.2.1 d hc hu (kk H locs ls hR hf hl)
theorem g_dup2 (C : Fx X cc own nL rm) {v u : Value} (d : decode cc pc = .ok (.dup2, 1)) (hc : v.category = 1) (hu : u.category = 1) (kk : V X w k n lv (v :: u :: v :: u :: st) (pc + 1)) : V X w k n lv (v :: u :: st) pc := by
  obtain ⟨N, p, e, R, s, m, args, below, meth, c, Q⟩ := X
  exact fun H locs ls hR hf hl => lv_dup2_11 C.1 C.2.1 d hc hu (kk H locs ls hR hf hl)
theorem g_pop (C : Fx X cc own nL rm) {v : Value} (d : decode cc pc = .ok (.pop, 1)) (hc : v.category = 1) (kk : V X w k n lv st (pc + 1)) : V X w k n lv (v :: st) pc := by
  obtain ⟨N, p, e, R, s, m, args, below, meth, c, Q⟩ := X
  exact fun H locs ls hR hf hl => lv_pop C.1 C.2.1 d hc (kk H locs ls hR hf hl)
theorem g_goto (C : Fx X cc own nL rm) {z : Int} (tgt : Nat) (d : decode cc pc = .ok (.goto z, 3)) (ht : (pc : Int) + z = (tgt : Int)) (kk : V X w k n lv st tgt) : V X w k n lv st pc := by
  obtain ⟨N, p, e, R, s, m, args, below, meth, c, Q⟩ := X
  exact fun H locs ls hR hf hl => lv_goto C.1 C.2.1 d ht (kk H locs ls hR hf hl)
theorem i32_lt {x y : Int32} : x < y ↔ x.toInt < y.toInt := Int32.lt_iff_toInt_lt
theorem i32_le {x y : Int32} : x ≤ y ↔ x.toInt ≤ y.toInt := Int32.le_iff_toInt_le
theorem i32_eq {x y : Int32} : x = y ↔ x.toInt = y.toInt := Int32.toInt_inj.symm
theorem i32_0 : (0 : Int32).toInt = 0 := by decide
theorem g_icmp_eq (C : Fx X cc own nL rm) {x y : Int32} {a b z : Int} (tgt : Nat) (d : decode cc pc = .ok (.if_icmp .eq z, 3)) (ht : (pc : Int) + z = (tgt : Int)) (hx : x.toInt = a) (hy : y.toInt = b)
    (kt : a = b → V X w k n lv st tgt) (kf : ¬ a = b → V X w k n lv st (pc + 3)) : V X w k n lv (.int y :: .int x :: st) pc := by
  obtain ⟨N, p, e, R, s, m, args, below, meth, c, Q⟩ := X
  subst hx; subst hy
  exact fun H locs ls hR hf hl => lv_icmp_eq C.1 C.2.1 d ht (fun h => kt (i32_eq.mp h) H locs ls hR hf hl) (fun h => kf (fun q => h (i32_eq.mpr q)) H locs ls hR hf hl)
theorem g_if_eq (C : Fx X cc own nL rm) {x : Int32} {a z : Int} (tgt : Nat) (d : decode cc pc = .ok (.ifCond .eq z, 3)) (ht : (pc : Int) + z = (tgt : Int)) (hx : x.toInt = a)
    (kt : a = 0 → V X w k n lv st tgt) (kf : ¬ a = 0 → V X w k n lv st (pc + 3)) : V X w k n lv (.int x :: st) pc := by
  obtain ⟨N, p, e, R, s, m, args, below, meth, c, Q⟩ := X
  subst hx
  have z0 := i32_0
  exact fun H locs ls hR hf hl => lv_if_eq C.1 C.2.1 d ht (fun h => kt (by have h := i32_eq.mp h; rw [z0] at h; exact h) H locs ls hR hf hl) (fun h => kf (by have h := fun q => h (i32_eq.mpr q); rw [z0] at h; exact h) H locs ls hR hf hl)
theorem g_icmp_ne (C : Fx X cc own nL rm) {x y : Int32} {a b z : Int} (tgt : Nat) (d : decode cc pc = .ok (.if_icmp .ne z, 3)) (ht : (pc : Int) + z = (tgt : Int)) (hx : x.toInt = a) (hy : y.toInt = b)
    (kt : ¬ a = b → V X w k n lv st tgt) (kf : a = b → V X w k n lv st (pc + 3)) : V X w k n lv (.int y :: .int x :: st) pc := by
  obtain ⟨N, p, e, R, s, m, args, below, meth, c, Q⟩ := X
  subst hx; subst hy
  exact fun H locs ls hR hf hl => lv_icmp_ne C.1 C.2.1 d ht (fun h => kt (fun q => h (i32_eq.mpr q)) H locs ls hR hf hl) (fun h => kf (i32_eq.mp h) H locs ls hR hf hl)
theorem g_if_ne (C : Fx X cc own nL rm) {x : Int32} {a z : Int} (tgt : Nat) (d : decode cc pc = .ok (.ifCond .ne z, 3)) (ht : (pc : Int) + z = (tgt : Int)) (hx : x.toInt = a)
    (kt : ¬ a = 0 → V X w k n lv st tgt) (kf : a = 0 → V X w k n lv st (pc + 3)) : V X w k n lv (.int x :: st) pc := by
  obtain ⟨N, p, e, R, s, m, args, below, meth, c, Q⟩ := X
  subst hx
  have z0 := i32_0
  exact fun H locs ls hR hf hl => lv_if_ne C.1 C.2.1 d ht (fun h => kt (by have h := fun q => h (i32_eq.mpr q); rw [z0] at h; exact h) H locs ls hR hf hl) (fun h => kf (by have h := i32_eq.mp h; rw [z0] at h; exact h) H locs ls hR hf hl)
theorem g_icmp_lt (C : Fx X cc own nL rm) {x y : Int32} {a b z : Int} (tgt : Nat) (d : decode cc pc = .ok (.if_icmp .lt z, 3)) (ht : (pc : Int) + z = (tgt : Int)) (hx : x.toInt = a) (hy : y.toInt = b)
    (kt : a < b → V X w k n lv st tgt) (kf : b ≤ a → V X w k n lv st (pc + 3)) : V X w k n lv (.int y :: .int x :: st) pc := by
  obtain ⟨N, p, e, R, s, m, args, below, meth, c, Q⟩ := X
  subst hx; subst hy
  exact fun H locs ls hR hf hl => lv_icmp_lt C.1 C.2.1 d ht (fun h => kt (i32_lt.mp h) H locs ls hR hf hl) (fun h => kf (Int.not_lt.mp (fun q => h (i32_lt.mpr q))) H locs ls hR hf hl)
theorem g_if_lt (C : Fx X cc own nL rm) {x : Int32} {a z : Int} (tgt : Nat) (d : decode cc pc = .ok (.ifCond .lt z, 3)) (ht : (pc : Int) + z = (tgt : Int)) (hx : x.toInt = a)
    (kt : a < 0 → V X w k n lv st tgt) (kf : 0 ≤ a → V X w k n lv st (pc + 3)) : V X w k n lv (.int x :: st) pc := by
  obtain ⟨N, p, e, R, s, m, args, below, meth, c, Q⟩ := X
  subst hx
  have z0 := i32_0
  exact fun H locs ls hR hf hl => lv_if_lt C.1 C.2.1 d ht (fun h => kt (by have h := i32_lt.mp h; rw [z0] at h; exact h) H locs ls hR hf hl) (fun h => kf (by have h := Int.not_lt.mp (fun q => h (i32_lt.mpr q)); rw [z0] at h; exact h) H locs ls hR hf hl)
theorem g_icmp_ge (C : Fx X cc own nL rm) {x y : Int32} {a b z : Int} (tgt : Nat) (d : decode cc pc = .ok (.if_icmp .ge z, 3)) (ht : (pc : Int) + z = (tgt : Int)) (hx : x.toInt = a) (hy : y.toInt = b)
    (kt : b ≤ a → V X w k n lv st tgt) (kf : a < b → V X w k n lv st (pc + 3)) : V X w k n lv (.int y :: .int x :: st) pc := by
  obtain ⟨N, p, e, R, s, m, args, below, meth, c, Q⟩ := X
  subst hx; subst hy
  exact fun H locs ls hR hf hl => lv_icmp_ge C.1 C.2.1 d ht (fun h => kt (i32_le.mp h) H locs ls hR hf hl) (fun h => kf (Int.not_le.mp (fun q => h (i32_le.mpr q))) H locs ls hR hf hl)
theorem g_if_ge (C : Fx X cc own nL rm) {x : Int32} {a z : Int} (tgt : Nat) (d : decode cc pc = .ok (.ifCond .ge z, 3)) (ht : (pc : Int) + z = (tgt : Int)) (hx : x.toInt = a)
    (kt : 0 ≤ a → V X w k n lv st tgt) (kf : a < 0 → V X w k n lv st (pc + 3)) : V X w k n lv (.int x :: st) pc := by
  obtain ⟨N, p, e, R, s, m, args, below, meth, c, Q⟩ := X
  subst hx
  have z0 := i32_0
  exact fun H locs ls hR hf hl => lv_if_ge C.1 C.2.1 d ht (fun h => kt (by have h := i32_le.mp h; rw [z0] at h; exact h) H locs ls hR hf hl) (fun h => kf (by have h := Int.not_le.mp (fun q => h (i32_le.mpr q)); rw [z0] at h; exact h) H locs ls hR hf hl)
theorem g_icmp_gt (C : Fx X cc own nL rm) {x y : Int32} {a b z : Int} (tgt : Nat) (d : decode cc pc = .ok (.if_icmp .gt z, 3)) (ht : (pc : Int) + z = (tgt : Int)) (hx : x.toInt = a) (hy : y.toInt = b)
    (kt : b < a → V X w k n lv st tgt) (kf : a ≤ b → V X w k n lv st (pc + 3)) : V X w k n lv (.int y :: .int x :: st) pc := by
  obtain ⟨N, p, e, R, s, m, args, below, meth, c, Q⟩ := X
  subst hx; subst hy
  exact fun H locs ls hR hf hl => lv_icmp_gt C.1 C.2.1 d ht (fun h => kt (i32_lt.mp h) H locs ls hR hf hl) (fun h => kf (Int.not_lt.mp (fun q => h (i32_lt.mpr q))) H locs ls hR hf hl)
theorem g_if_gt (C : Fx X cc own nL rm) {x : Int32} {a z : Int} (tgt : Nat) (d : decode cc pc = .ok (.ifCond .gt z, 3)) (ht : (pc : Int) + z = (tgt : Int)) (hx : x.toInt = a)
    (kt : 0 < a → V X w k n lv st tgt) (kf : a ≤ 0 → V X w k n lv st (pc + 3)) : V X w k n lv (.int x :: st) pc := by
  obtain ⟨N, p, e, R, s, m, args, below, meth, c, Q⟩ := X
  subst hx
  have z0 := i32_0
  exact fun H locs ls hR hf hl => lv_if_gt C.1 C.2.1 d ht (fun h => kt (by have h := i32_lt.mp h; rw [z0] at h; exact h) H locs ls hR hf hl) (fun h => kf (by have h := Int.not_lt.mp (fun q => h (i32_lt.mpr q)); rw [z0] at h; exact h) H locs ls hR hf hl)
theorem g_icmp_le (C : Fx X cc own nL rm) {x y : Int32} {a b z : Int} (tgt : Nat) (d : decode cc pc = .ok (.if_icmp .le z, 3)) (ht : (pc : Int) + z = (tgt : Int)) (hx : x.toInt = a) (hy : y.toInt = b)
    (kt : a ≤ b → V X w k n lv st tgt) (kf : b < a → V X w k n lv st (pc + 3)) : V X w k n lv (.int y :: .int x :: st) pc := by
  obtain ⟨N, p, e, R, s, m, args, below, meth, c, Q⟩ := X
  subst hx; subst hy
  exact fun H locs ls hR hf hl => lv_icmp_le C.1 C.2.1 d ht (fun h => kt (i32_le.mp h) H locs ls hR hf hl) (fun h => kf (Int.not_le.mp (fun q => h (i32_le.mpr q))) H locs ls hR hf hl)
theorem g_if_le (C : Fx X cc own nL rm) {x : Int32} {a z : Int} (tgt : Nat) (d : decode cc pc = .ok (.ifCond .le z, 3)) (ht : (pc : Int) + z = (tgt : Int)) (hx : x.toInt = a)
    (kt : a ≤ 0 → V X w k n lv st tgt) (kf : 0 < a → V X w k n lv st (pc + 3)) : V X w k n lv (.int x :: st) pc := by
  obtain ⟨N, p, e, R, s, m, args, below, meth, c, Q⟩ := X
  subst hx
  have z0 := i32_0
  exact fun H locs ls hR hf hl => lv_if_le C.1 C.2.1 d ht (fun h => kt (by have h := i32_le.mp h; rw [z0] at h; exact h) H locs ls hR hf hl) (fun h => kf (by have h := Int.not_le.mp (fun q => h (i32_le.mpr q)); rw [z0] at h; exact h) H locs ls hR hf hl)
/-! the heap's rows -/
theorem gR.one {N : gN} {w : gW} {H : Heap} (h : gR N w H) {a : Nat} {e : gEn} (hw : w.1 a = some e) : va_P N.2.1 gCl [(a, gcv N e)] H := by
  intro q x hx
  have hq : q < 1 := (List.getElem?_eq_some_iff.mp hx).1
  rw [show q = 0 by omega] at hx
  cases hx
  exact (h.2.2.2 a e hw).2
theorem g_loc {N : gN} {locs : List Loc} {a i : Nat} (h : ∀ q ∈ locs, gA N q.base) (ha : gA N a) : ∀ q ∈ locs ++ [(⟨a, i⟩ : Loc)], gA N q.base := by
  intro q hq
  rcases List.mem_append.mp hq with h1 | h1
  · exact h q h1
  · rw [List.mem_singleton.mp h1]; exact ha
def FL (own : String) (index ci f : Nat) : Prop := ∃ (C : String) (T : u_T) (Nf : Nat), gCl[ci]? = some (C, T, Nf) ∧ f < Nf ∧ (∀ w ∈ u_ws C T Nf, w ∈ gT) ∧ (T f).1 = C ∧ Cond.fieldLink own index C (T f).2.1 (T f).2.2.1 ∈ gT
def FLN (own : String) (index ci f : Nat) : Prop := ∃ (C : String) (T : u_T) (Nf : Nat) (host : String), gCl[ci]? = some (C, T, Nf) ∧ f < Nf ∧ (∀ w ∈ u_ws C T Nf, w ∈ gT) ∧ (T f).1 = C ∧ Cond.fieldLinkNest own index C (T f).2.1 (T f).2.2.1 host ∈ gNw
/-- what a class's table says of storing in it: types, names apart -/
def FT (ci : Nat) : Prop := ∃ (C : String) (T : u_T) (Nf : Nat) (ty0 : Nat → FieldType), gCl[ci]? = some (C, T, Nf) ∧ (∀ k, k < Nf → parseFieldDescriptor (T k).2.2.1 = some (ty0 k)) ∧ ∀ a, a < Nf → ∀ b, b < Nf → a ≠ b → (T a).2.1 ≠ (T b).2.1
def FK (ci f : Nat) (fin : Bool) (ty : FieldType) : Prop := ∃ (C : String) (T : u_T) (Nf : Nat), gCl[ci]? = some (C, T, Nf) ∧ (T f).2.2.2 = fin ∧ parseFieldDescriptor (T f).2.2.1 = some ty
theorem g_get (C : Fx X cc own nL rm) {index a ci f : Nat} {fs : List Value} {v : Value} (d : decode cc pc = .ok (.getfield index, 3)) (hl : FL own index ci f) (hw : w.1 a = some (.inr (ci, fs))) (hv : fs[f]? = some v) (kk : V X w k n lv (v :: st) (pc + 3)) : V X w k n lv (.ref a :: st) pc := by
  obtain ⟨N, p, e, R, s, m, args, below, meth, c, Q⟩ := X
  obtain ⟨Cn, T, Nf, hc, hk, hin, hT, hlk⟩ := hl
  obtain ⟨hx, hb, hml, hown, hts, hK, hRm⟩ := C
  intro H locs ls hR hf hlv
  exact va_get hx hb (ws := [(a, gcv N (.inr (ci, fs)))]) (D := N.2.1) (cl := gCl) (tys := gTys N) hts hin hown hK.1 (hR.one hw) 0 rfl hc f hk (ref := Cn) (hts _ hlk) (fun x h => by rw [hT] at h; exact h) hv d (kk H locs ls hR hf hlv)
theorem g_getN (C : Fx X cc own nL rm) {index a ci f : Nat} {fs : List Value} {v : Value} (d : decode cc pc = .ok (.getfield index, 3)) (hl : FLN own index ci f) (hw : w.1 a = some (.inr (ci, fs))) (hv : fs[f]? = some v) (kk : V X w k n lv (v :: st) (pc + 3)) : V X w k n lv (.ref a :: st) pc := by
  obtain ⟨N, p, e, R, s, m, args, below, meth, c, Q⟩ := X
  obtain ⟨Cn, T, Nf, host, hc, hk, hin, hT, hlk⟩ := hl
  obtain ⟨hx, hb, hml, hown, hts, hK, hRm⟩ := C
  intro H locs ls hR hf hlv
  exact va_getN hx hb (ws := [(a, gcv N (.inr (ci, fs)))]) (D := N.2.1) (cl := gCl) (tys := gTys N) hts hin hown hK.1 (hR.one hw) 0 rfl hc f hk (ref := Cn) (va_Nw.use rfl (hK.2.1 _ hlk)) (fun x h => by rw [hT] at h; exact h) hv d (kk H locs ls hR hf hlv)
theorem g_put (C : Fx X cc own nL rm) {index a ci f : Nat} {fs fs' : List Value} {v : Value} {ty : FieldType} (d : decode cc pc = .ok (.putfield index, 3)) (hl : FL own index ci f) (hft : FT ci) (hfk : FK ci f false ty) (hw : w.1 a = some (.inr (ci, fs))) (hn : narrow ty v = v) (hfit : fits ty v = true) (hlen : f < fs.length) (hfs : fs.set f v = fs')
    (kk : V X (gset w a (.inr (ci, fs'))) k n lv st (pc + 3)) : V X w k n lv (v :: .ref a :: st) pc := by
  obtain ⟨N, p, e, R, s, m, args, below, meth, c, Q⟩ := X
  obtain ⟨Cn, T, Nf, hc, hk, hin, hT, hlk⟩ := hl
  obtain ⟨Cn1, T1, Nf1, ty0, hc1, hty, hnm⟩ := hft
  obtain ⟨Cn2, T2, Nf2, hc2, hfin, hd⟩ := hfk
  obtain ⟨hx, hb, hml, hown, hts, hK, hRm⟩ := C
  cases hc.symm.trans hc1
  cases hc.symm.trans hc2
  subst hfs
  intro H locs ls hR hf hlv
  have hap := va_apart (own := own) hts hin ty0 hty hnm hK.1 hc
  obtain ⟨hA, r, h1, cell, q1, q2, q3, q4⟩ := hR.2.2.2 a _ hw
  have hr : r = (Cn, T, Nf) := Option.some.inj (h1.symm.trans hc)
  subst hr
  obtain ⟨hS, hfc, kC, hkC, hkind⟩ := hK.1.1 ci _ hc
  obtain ⟨cf, kf, fi, fd, hi, hsl⟩ := hS f hk
  have hlay := hts _ (hin _ (u_in_lay hk))
  unfold u_lay at hlay
  rw [if_neg (by rw [hfin]; decide)] at hlay
  have hst := (u_facts hfc hkC (u_lays hts hin hk) hi).1
  have h6 := u_store hfc hkC hkind hlay hi hd hn hfit
  refine W.putK hx hb (f := fd) ⟨hown, hts _ hlk, ⟨_, _, _, by rw [hT] at hi; exact hi⟩, hst⟩ (by rw [q2]; exact h6) q1 q3 (by rw [hsl]; exact k2_hasslot (q4 f hk)) rfl rfl d fun H' e1 e2 e3 => ?_
  rw [hsl] at e1 ⊢
  exact kk H' _ ls (hR.put hw e2 e3 ⟨_, hc, t_OB.to (V := updV (vp_V fs) f v) ⟨_, e1, q2, q3, t_set q4 hap hk v⟩ (fun j _ => vp_updV_set hlen v j)⟩) (g_loc hf hA) hlv
theorem g_putN (C : Fx X cc own nL rm) {index a ci f : Nat} {fs fs' : List Value} {v : Value} {ty : FieldType} (d : decode cc pc = .ok (.putfield index, 3)) (hl : FLN own index ci f) (hft : FT ci) (hfk : FK ci f false ty) (hw : w.1 a = some (.inr (ci, fs))) (hn : narrow ty v = v) (hfit : fits ty v = true) (hlen : f < fs.length) (hfs : fs.set f v = fs')
    (kk : V X (gset w a (.inr (ci, fs'))) k n lv st (pc + 3)) : V X w k n lv (v :: .ref a :: st) pc := by
  obtain ⟨N, p, e, R, s, m, args, below, meth, c, Q⟩ := X
  obtain ⟨Cn, T, Nf, host, hc, hk, hin, hT, hlk⟩ := hl
  obtain ⟨Cn1, T1, Nf1, ty0, hc1, hty, hnm⟩ := hft
  obtain ⟨Cn2, T2, Nf2, hc2, hfin, hd⟩ := hfk
  obtain ⟨hx, hb, hml, hown, hts, hK, hRm⟩ := C
  cases hc.symm.trans hc1
  cases hc.symm.trans hc2
  subst hfs
  intro H locs ls hR hf hlv
  have hap := va_apart (own := own) hts hin ty0 hty hnm hK.1 hc
  obtain ⟨hA, r, h1, cell, q1, q2, q3, q4⟩ := hR.2.2.2 a _ hw
  have hr : r = (Cn, T, Nf) := Option.some.inj (h1.symm.trans hc)
  subst hr
  obtain ⟨hS, hfc, kC, hkC, hkind⟩ := hK.1.1 ci _ hc
  obtain ⟨cf, kf, fi, fd, hi, hsl⟩ := hS f hk
  have hlay := hts _ (hin _ (u_in_lay hk))
  unfold u_lay at hlay
  rw [if_neg (by rw [hfin]; decide)] at hlay
  have hst := (u_facts hfc hkC (u_lays hts hin hk) hi).1
  have h6 := u_store hfc hkC hkind hlay hi hd hn hfit
  refine va_WputK hx hb (f := fd) hown (va_Nw.use rfl (hK.2.1 _ hlk)) (by rw [hT] at hi; exact hi) hst (by rw [q2]; exact h6) q1 q3 (by rw [hsl]; exact k2_hasslot (q4 f hk)) rfl rfl d fun H' e1 e2 e3 => ?_
  rw [hsl] at e1 ⊢
  exact kk H' _ ls (hR.put hw e2 e3 ⟨_, hc, t_OB.to (V := updV (vp_V fs) f v) ⟨_, e1, q2, q3, t_set q4 hap hk v⟩ (fun j _ => vp_updV_set hlen v j)⟩) (g_loc hf hA) hlv
theorem g_putF (C : Fx X cc own nL rm) {post : Option Value → gW → Prop} {mc ms : Nat} {ret : Option FieldType} (Rr : Rt X post mc ms ret "<init>") {index a ci f : Nat} {fs fs' : List Value} {v : Value} {ty : FieldType} (d : decode cc pc = .ok (.putfield index, 3)) (hl : FL own index ci f) (hft : FT ci) (hfk : FK ci f true ty) (hfo : ∃ T Nf, gCl[ci]? = some (own, T, Nf)) (hw : w.1 a = some (.inr (ci, fs))) (hn : narrow ty v = v) (hfit : fits ty v = true) (hlen : f < fs.length) (hfs : fs.set f v = fs')
    (kk : V X (gset w a (.inr (ci, fs'))) k n lv st (pc + 3)) : V X w k n lv (v :: .ref a :: st) pc := by
  obtain ⟨N, p, e, R, s, m, args, below, meth, c, Q⟩ := X
  obtain ⟨Cn, T, Nf, hc, hk, hin, hT, hlk⟩ := hl
  obtain ⟨Cn1, T1, Nf1, ty0, hc1, hty, hnm⟩ := hft
  obtain ⟨Cn2, T2, Nf2, hc2, hfin, hd⟩ := hfk
  obtain ⟨T3, Nf3, hc3⟩ := hfo
  obtain ⟨hx, hb, hml, hown, hts, hK, hRm⟩ := C
  obtain ⟨-, -, -, hin2⟩ := Rr
  cases hc.symm.trans hc1
  cases hc.symm.trans hc2
  cases hc.symm.trans hc3
  subst hfs
  intro H locs ls hR hf hlv
  have hap := va_apart (own := own) hts hin ty0 hty hnm hK.1 hc
  obtain ⟨hA, r, h1, cell, q1, q2, q3, q4⟩ := hR.2.2.2 a _ hw
  have hr : r = (own, T, Nf) := Option.some.inj (h1.symm.trans hc)
  subst hr
  obtain ⟨hS, hfc, kC, hkC, hkind⟩ := hK.1.1 ci _ hc
  obtain ⟨cf, kf, fi, fd, hi, hsl⟩ := hS f hk
  have hlay := hts _ (hin _ (u_in_lay hk))
  unfold u_lay at hlay
  rw [if_pos hfin] at hlay
  have hst := (u_facts hfc hkC (u_lays hts hin hk) hi).1
  have hcf : m.cls = cf := by
    obtain ⟨_, _, c', _, _, _, -, -, hf', -, -, -, hown2, -⟩ := Cond.laysFinal_spec hlay
    have e1 : c' = cf := by have := hi.symm.trans hf'; simp at this; exact this.1.symm
    rw [hT] at hown2
    rw [← e1]; exact Option.some.inj (hown.symm.trans hown2)
  have h6 := u_fits hfc hkC hkind (Or.inr hlay) hi hd hn hfit
  refine W.putFinK hx hb hown (hts _ hlk) (by rw [hT] at hi; exact hi) hst hcf hin2 (by rw [q2]; exact h6) q1 q3 (by rw [hsl]; exact k2_hasslot (q4 f hk)) rfl rfl d fun H' e1 e2 e3 => ?_
  rw [hsl] at e1 ⊢
  exact kk H' _ ls (hR.put hw e2 e3 ⟨_, hc, t_OB.to (V := updV (vp_V fs) f v) ⟨_, e1, q2, q3, t_set q4 hap hk v⟩ (fun j _ => vp_updV_set hlen v j)⟩) (g_loc hf hA) hlv
theorem gin {j N0 : Nat} (hj : j < N0) (hN : N0 < 2 ^ 31) : vp_in (nI j) N0 ∧ (nI j).toNatClampNeg = j := ⟨vp_in_nI hj hN, nI_clamp (by omega)⟩
theorem g_iald (C : Fx X cc own nL rm) {a N0 j : Nat} {f : Nat → Int32} (d : decode cc pc = .ok (.iaload, 1)) (hw : w.1 a = some (.inl (0, N0, .inl f))) (hj : j < N0) (hN : N0 < 2 ^ 31) (kk : V X w k n lv (.int (f j) :: st) (pc + 1)) : V X w k n lv (.int (nI j) :: .ref a :: st) pc := by
  obtain ⟨N, p, e, R, s, m, args, below, meth, c, Q⟩ := X
  obtain ⟨hx, hb, hml, hown, hts, hK, hRm⟩ := C
  intro H locs ls hR hf hlv
  obtain ⟨g1, g2⟩ := gin hj hN
  refine va_iald hx hb (ws := [(a, gcv N (.inl (0, N0, .inl f)))]) hK.1 (hR.one hw) 0 0 rfl rfl g1 d ?_
  rw [g2]; exact kk H locs ls hR hf hlv
theorem g_bald (C : Fx X cc own nL rm) {a N0 j : Nat} {f : Nat → Int32} (d : decode cc pc = .ok (.baload, 1)) (hw : w.1 a = some (.inl (1, N0, .inl f))) (hj : j < N0) (hN : N0 < 2 ^ 31) (kk : V X w k n lv (.int (f j) :: st) (pc + 1)) : V X w k n lv (.int (nI j) :: .ref a :: st) pc := by
  obtain ⟨N, p, e, R, s, m, args, below, meth, c, Q⟩ := X
  obtain ⟨hx, hb, hml, hown, hts, hK, hRm⟩ := C
  intro H locs ls hR hf hlv
  obtain ⟨g1, g2⟩ := gin hj hN
  refine va_bald hx hb (ws := [(a, gcv N (.inl (1, N0, .inl f)))]) hK.1 (hR.one hw) 0 1 rfl rfl g1 d ?_
  rw [g2]; exact kk H locs ls hR hf hlv
theorem g_zald (C : Fx X cc own nL rm) {a N0 j : Nat} {f : Nat → Int32} (d : decode cc pc = .ok (.baload, 1)) (hw : w.1 a = some (.inl (2, N0, .inl f))) (hj : j < N0) (hN : N0 < 2 ^ 31) (kk : V X w k n lv (.int (f j) :: st) (pc + 1)) : V X w k n lv (.int (nI j) :: .ref a :: st) pc := by
  obtain ⟨N, p, e, R, s, m, args, below, meth, c, Q⟩ := X
  obtain ⟨hx, hb, hml, hown, hts, hK, hRm⟩ := C
  intro H locs ls hR hf hlv
  obtain ⟨g1, g2⟩ := gin hj hN
  refine va_zald hx hb (ws := [(a, gcv N (.inl (2, N0, .inl f)))]) hK.1 (hR.one hw) 0 2 rfl rfl g1 d ?_
  rw [g2]; exact kk H locs ls hR hf hlv
theorem g_aald3 (C : Fx X cc own nL rm) {a N0 j q : Nat} {f : Nat → Option Nat} (d : decode cc pc = .ok (.aaload, 1)) (hw : w.1 a = some (.inl (3, N0, .inr (.inr (.inr (.inr f)))))) (hj : j < N0) (hN : N0 < 2 ^ 31) (hq : f j = some q) (kk : V X w k n lv (.ref q :: st) (pc + 1)) : V X w k n lv (.int (nI j) :: .ref a :: st) pc := by
  obtain ⟨N, p, e, R, s, m, args, below, meth, c, Q⟩ := X
  obtain ⟨hx, hb, hml, hown, hts, hK, hRm⟩ := C
  intro H locs ls hR hf hlv
  obtain ⟨g1, g2⟩ := gin hj hN
  refine va_aldq hx hb (ws := [(a, gcv N (.inl (3, N0, .inr (.inr (.inr (.inr f))))))]) hK.1 (hR.one hw) 0 3 rfl rfl g1 d ?_
  rw [g2, hq]; exact kk H locs ls hR hf hlv
theorem g_aald4 (C : Fx X cc own nL rm) {a N0 j q : Nat} {f : Nat → Option Nat} (d : decode cc pc = .ok (.aaload, 1)) (hw : w.1 a = some (.inl (4, N0, .inr (.inr (.inr (.inr f)))))) (hj : j < N0) (hN : N0 < 2 ^ 31) (hq : f j = some q) (kk : V X w k n lv (.ref q :: st) (pc + 1)) : V X w k n lv (.int (nI j) :: .ref a :: st) pc := by
  obtain ⟨N, p, e, R, s, m, args, below, meth, c, Q⟩ := X
  obtain ⟨hx, hb, hml, hown, hts, hK, hRm⟩ := C
  intro H locs ls hR hf hlv
  obtain ⟨g1, g2⟩ := gin hj hN
  refine va_aldq hx hb (ws := [(a, gcv N (.inl (4, N0, .inr (.inr (.inr (.inr f))))))]) hK.1 (hR.one hw) 0 4 rfl rfl g1 d ?_
  rw [g2, hq]; exact kk H locs ls hR hf hlv
theorem g_alen (C : Fx X cc own nL rm) {a kd : Nat} {x : vp_A} (d : decode cc pc = .ok (.arraylength, 1)) (hw : w.1 a = some (.inl (kd, x))) (hk : kd < 5) (kk : V X w k n lv (.int (nI x.1) :: st) (pc + 1)) : V X w k n lv (.ref a :: st) pc := by
  obtain ⟨N, p, e, R, s, m, args, below, meth, c, Q⟩ := X
  obtain ⟨hx, hb, hml, hown, hts, hK, hRm⟩ := C
  intro H locs ls hR hf hlv
  have hty : ∃ ty, (gTys N)[kd]? = some (N.2.2.2 kd, ty) := by
    rcases (show kd = 0 ∨ kd = 1 ∨ kd = 2 ∨ kd = 3 ∨ kd = 4 by omega) with rfl | rfl | rfl | rfl | rfl <;> exact ⟨_, rfl⟩
  obtain ⟨ty, ht⟩ := hty
  exact va_alen hx hb (ws := [(a, gcv N (.inl (kd, x)))]) hK.1 (hR.one hw) 0 kd rfl ht rfl d (kk H locs ls hR hf hlv)
theorem g_iast (C : Fx X cc own nL rm) {a N0 j : Nat} {x : Int32} {f : Nat → Int32} (d : decode cc pc = .ok (.iastore, 1)) (hw : w.1 a = some (.inl (0, N0, .inl f))) (hj : j < N0) (hN : N0 < 2 ^ 31) (kk : V X (gset w a (.inl (0, N0, .inl (upd f j x)))) k n lv st (pc + 1)) : V X w k n lv (.int x :: .int (nI j) :: .ref a :: st) pc := by
  obtain ⟨N, p, e, R, s, m, args, below, meth, c, Q⟩ := X
  obtain ⟨hx, hb, hml, hown, hts, hK, hRm⟩ := C
  intro H locs ls hR hf hlv
  obtain ⟨g1, g2⟩ := gin hj hN
  have hA := hR.2.2.2 a _ hw
  refine W.iast hx hb hA.2 ((hK.1.2 0 _ rfl).1 N0 (fun j => .int (f j))) (fun q => by cases q) (by show ¬ (nI j < 0 ∨ (arrV _ _ _).slots.size ≤ _); rw [arrV_size]; exact g1) rfl rfl d fun H1 e1 z oq => ?_
  refine kk H1 _ ls (hR.put hw z oq ?_) (g_loc hf hA.1) hlv
  show H1[a]? = some (vp_cell _ _)
  rw [e1, g2, vp_cell_i, vp_cell_i, arrV_store]
  congr 2
  funext q
  by_cases hq : q = j
  · subst hq; simp [updV, upd]
  · simp [updV, upd, hq]
theorem g_bast (C : Fx X cc own nL rm) {a N0 j : Nat} {x : Int32} {f : Nat → Int32} (d : decode cc pc = .ok (.bastore, 1)) (hw : w.1 a = some (.inl (1, N0, .inl f))) (hj : j < N0) (hN : N0 < 2 ^ 31) (kk : V X (gset w a (.inl (1, N0, .inl (upd f j (vp_nar .byte x))))) k n lv st (pc + 1)) : V X w k n lv (.int x :: .int (nI j) :: .ref a :: st) pc := by
  obtain ⟨N, p, e, R, s, m, args, below, meth, c, Q⟩ := X
  obtain ⟨hx, hb, hml, hown, hts, hK, hRm⟩ := C
  intro H locs ls hR hf hlv
  obtain ⟨g1, g2⟩ := gin hj hN
  have hA := hR.2.2.2 a _ hw
  refine W.bast hx hb hA.2 ((hK.1.2 1 _ rfl).1 N0 (fun j => .int (f j))) (fun q => by cases q) (by show ¬ (nI j < 0 ∨ (arrV _ _ _).slots.size ≤ _); rw [arrV_size]; exact g1) rfl rfl d fun H1 e1 z oq => ?_
  refine kk H1 _ ls (hR.put hw z oq ?_) (g_loc hf hA.1) hlv
  show H1[a]? = some (vp_cell _ _)
  rw [e1, g2, vp_cell_i, vp_cell_i, arrV_store]
  congr 2
  funext q
  by_cases hq : q = j
  · subst hq
    simp [updV, upd, vp_nar]
    try rfl
  · simp [updV, upd, hq]
theorem g_zast (C : Fx X cc own nL rm) {a N0 j : Nat} {x : Int32} {f : Nat → Int32} (d : decode cc pc = .ok (.bastore, 1)) (hw : w.1 a = some (.inl (2, N0, .inl f))) (hj : j < N0) (hN : N0 < 2 ^ 31) (kk : V X (gset w a (.inl (2, N0, .inl (upd f j (vp_nar .boolean x))))) k n lv st (pc + 1)) : V X w k n lv (.int x :: .int (nI j) :: .ref a :: st) pc := by
  obtain ⟨N, p, e, R, s, m, args, below, meth, c, Q⟩ := X
  obtain ⟨hx, hb, hml, hown, hts, hK, hRm⟩ := C
  intro H locs ls hR hf hlv
  obtain ⟨g1, g2⟩ := gin hj hN
  have hA := hR.2.2.2 a _ hw
  refine W.zast hx hb hA.2 ((hK.1.2 2 _ rfl).1 N0 (fun j => .int (f j))) (fun q => by cases q) (by show ¬ (nI j < 0 ∨ (arrV _ _ _).slots.size ≤ _); rw [arrV_size]; exact g1) rfl rfl d fun H1 e1 z oq => ?_
  refine kk H1 _ ls (hR.put hw z oq ?_) (g_loc hf hA.1) hlv
  show H1[a]? = some (vp_cell _ _)
  rw [e1, g2, vp_cell_i, vp_cell_i, arrV_store]
  congr 2
  funext q
  by_cases hq : q = j
  · subst hq
    simp [updV, upd, vp_nar]
    try rfl
  · simp [updV, upd, hq]
theorem g_newa (C : Fx X cc own nL rm) {atype : ArrayType} {kd N0 : Nat} {ty : FieldType} (d : decode cc pc = .ok (.newarray atype, 2)) (hty : newarray.typeOf atype = ty) (hk : gAt[kd]? = some ty) (hp : defaultValue ty = .int 0 ∧ componentBytes ty ≤ 8 ∧ ∀ (U : State) (cA : ClassId), va_RA U cA ty → U.vm.findClass ("[" ++ ty.toString) = some cA) (hwd : Cond.arrayClass ty ∈ gT) (hN : N0 ≤ 65536) (hcells : k + 1 ≤ rm.cells) (hslots : n + N0 ≤ rm.slots)
    (kk : V X (gnew w (.inl (kd, N0, .inl (fun _ => 0)))) (k + 1) (n + N0) lv (.ref w.2 :: st) (pc + 2)) : V X w k n lv (.int (nI N0) :: st) pc := by
  obtain ⟨N, p, e, R, s, m, args, below, meth, c, Q⟩ := X
  obtain ⟨hx, hb, hml, hown, hts, hK, hRm⟩ := C
  subst hty
  subst hRm
  intro H locs ls hR hf hlv
  have hkd : (gTys N)[kd]? = some (N.2.2.2 kd, newarray.typeOf atype) := gTys_at hk
  refine va_newaK hx hb (hts _ hwd) rfl d rfl (nI_pos (by omega)) (nI_clamp (n := N0) (by omega)) (by have := Nat.mul_le_mul hN hp.2.1; omega) hcells hslots hR.1 fun H1 cA e1 z1 o1 hAr hNm => ?_
  have hcA : cA = N.2.2.2 kd := Option.some.inj (hNm.symm.trans (hp.2.2 s _ (hK.1.2 kd _ hkd).2))
  subst hcA
  refine kk H1 locs ls (hR.new (by rw [z1, hR.1]) (fun q hq => o1 q (by rw [← hR.1]; exact hq)) ?_) hf hlv
  show H1[w.2]? = some (vp_cell _ _)
  rw [e1, vp_cell_i, hp.1]
theorem g_new (C : Fx X cc own nL rm) {index ci Nf : Nat} {Cn : String} {T : u_T} {fs : List Value} (ty : Nat → FieldType) (d : decode cc pc = .ok (.new index, 3)) (hc : gCl[ci]? = some (Cn, T, Nf)) (hty : ∀ k, k < Nf → parseFieldDescriptor (T k).2.2.1 = some (ty k)) (hin : ∀ w ∈ u_ws Cn T Nf, w ∈ gT) (hcl : Cond.classLink own index Cn ∈ gT) (hins : Cond.instantiable Cn Nf ∈ gT) (hini : Cond.initialized Cn ∈ gT) (hfs : ∀ j, j < Nf → defaultValue (ty j) = vp_V fs j) (hcells : k + 1 ≤ rm.cells) (hslots : n + Nf ≤ rm.slots)
    (kk : V X (gnew w (.inr (ci, fs))) (k + 1) (n + Nf) lv (.ref w.2 :: st) (pc + 3)) : V X w k n lv st pc := by
  obtain ⟨N, p, e, R, s, m, args, below, meth, c, Q⟩ := X
  obtain ⟨hx, hb, hml, hown, hts, hK, hRm⟩ := C
  subst hRm
  intro H locs ls hR hf hlv
  have hKn := hK.1.1 ci _ hc
  refine W.newcK hx hb hown (hts _ hcl) (hts _ hins) (hts _ hini) rfl d hcells hslots hKn.2.1 hR.1 fun H1 kC hkC e1 z1 o1 => ?_
  exact kk H1 locs ls (hR.new (by rw [z1, hR.1]) (fun q hq => o1 q (by rw [← hR.1]; exact hq)) ⟨_, hc, (u_born ty hts hin hKn hkC e1 hty).to hfs⟩) hf hlv
theorem g_anew (C : Fx X cc own nL rm) {index kd N0 : Nat} {Cn : String} (d : decode cc pc = .ok (.anewarray index, 3)) (hk : gAt[kd]? = some (.object Cn)) (hcl : Cond.classLink own index Cn ∈ gT) (hao : Cond.arrayOver (.object Cn) ∈ gNw) (hN : N0 ≤ 65536) (hcells : k + 1 ≤ rm.cells) (hslots : n + N0 ≤ rm.slots)
    (kk : V X (gnew w (.inl (kd, N0, .inr (.inr (.inr (.inr (fun _ => none))))))) (k + 1) (n + N0) lv (.ref w.2 :: st) (pc + 3)) : V X w k n lv (.int (nI N0) :: st) pc := by
  obtain ⟨N, p, e, R, s, m, args, below, meth, c, Q⟩ := X
  obtain ⟨hx, hb, hml, hown, hts, hK, hRm⟩ := C
  subst hRm
  intro H locs ls hR hf hlv
  have hcl2 : (nI N0).toNatClampNeg = N0 := nI_clamp (by omega)
  have hkd : (gTys N)[kd]? = some (N.2.2.2 kd, .object Cn) := gTys_at hk
  obtain ⟨kA', comp', b1, b2, b3, b4⟩ := (hK.1.2 kd _ hkd).2
  refine W.anew hx hb hown (hts _ hcl) (va_AO.use (hK.2.1 _ hao)) rfl d rfl (nI_pos (by omega)) (by rw [hcl2]; omega) hcells (by rw [hcl2]; exact hslots) fun cA kA comp f1 f2 f3 f4 => ?_
  rw [hcl2]
  have hcA : cA = N.2.2.2 kd := Option.some.inj (f1.symm.trans b4)
  subst hcA
  rw [hR.1]
  refine kk _ locs ls (hR.new (by rw [Array.size_push]) (fun q hq => by rw [Array.getElem?_push, if_neg (Nat.ne_of_lt hq)]) ?_) hf hlv
  show (H.push _)[w.2]? = some (vp_cell _ _)
  rw [← hR.1, Array.getElem?_push_size, vp_cell_q]
  show _ = some (arrV _ _ (fun _ => Value.null))
  rw [← arrV_new]
theorem g_aast3 (C : Fx X cc own nL rm) {a N0 j q ci : Nat} {r : vw_C} {vs : List Value} {f : Nat → Option Nat} (d : decode cc pc = .ok (.aastore, 1)) (hw : w.1 a = some (.inl (3, N0, .inr (.inr (.inr (.inr f)))))) (hq : w.1 q = some (.inr (ci, vs))) (hc : gCl[ci]? = some r) (hr : gAt[3]? = some (.object r.1)) (hj : j < N0) (hN : N0 < 2 ^ 31)
    (kk : V X (gset w a (.inl (3, N0, .inr (.inr (.inr (.inr (va_up f j (some q)))))))) k n lv st (pc + 1)) : V X w k n lv (.ref q :: .int (nI j) :: .ref a :: st) pc := by
  obtain ⟨N, p, e, R, s, m, args, below, meth, c, Q⟩ := X
  obtain ⟨hx, hb, hml, hown, hts, hK, hRm⟩ := C
  intro H locs ls hR hf hlv
  obtain ⟨g1, g2⟩ := gin hj hN
  have hA := hR.2.2.2 a _ hw
  obtain ⟨-, r', hr', cellV, c1, c2, c3, -⟩ := hR.2.2.2 q _ hq
  have hcls := (hK.1.1 ci r hc).2
  obtain ⟨kA, comp, k1, k2, k3, -⟩ := (hK.1.2 3 _ (gTys_at hr)).2
  have hcomp : comp = N.2.1.1 ci := Option.some.inj (k3.symm.trans hcls.1)
  subst hcomp
  obtain ⟨kC, hkC, -⟩ := hcls.2
  refine W.aast hx hb hA.2 (fun q h => by cases h) (fun h => by cases h) k1 k2 rfl hkC ⟨fun z => g1 (Or.inl z), by show _ < (arrV _ _ _).slots.size; rw [arrV_size, g2]; exact hj⟩ c1 (fun q h => by rw [c3] at h; cases h) (by rw [c2]; exact hkC) (by rw [c2]; exact va_assign hcls) rfl rfl d fun H1 e1 z oq => ?_
  refine kk H1 _ ls (hR.put hw z oq ?_) (g_loc hf hA.1) hlv
  show H1[a]? = some (vp_cell _ _)
  rw [e1, g2, vp_cell_q, vp_cell_q, arrV_store]
  congr 2
  funext q
  by_cases hq : q = j
  · subst hq; simp [updV, va_up, va_rf]
  · simp [updV, va_up, hq]
theorem g_aast4 (C : Fx X cc own nL rm) {a N0 j q ci : Nat} {r : vw_C} {vs : List Value} {f : Nat → Option Nat} (d : decode cc pc = .ok (.aastore, 1)) (hw : w.1 a = some (.inl (4, N0, .inr (.inr (.inr (.inr f)))))) (hq : w.1 q = some (.inr (ci, vs))) (hc : gCl[ci]? = some r) (hr : Cond.castable r.1 "java/lang/Object" ∈ gNw) (hj : j < N0) (hN : N0 < 2 ^ 31)
    (kk : V X (gset w a (.inl (4, N0, .inr (.inr (.inr (.inr (va_up f j (some q)))))))) k n lv st (pc + 1)) : V X w k n lv (.ref q :: .int (nI j) :: .ref a :: st) pc := by
  obtain ⟨N, p, e, R, s, m, args, below, meth, c, Q⟩ := X
  obtain ⟨hx, hb, hml, hown, hts, hK, hRm⟩ := C
  intro H locs ls hR hf hlv
  obtain ⟨g1, g2⟩ := gin hj hN
  have hA := hR.2.2.2 a _ hw
  obtain ⟨-, r', hr', cellV, c1, c2, c3, -⟩ := hR.2.2.2 q _ hq
  have hcls := (hK.1.1 ci r hc).2
  obtain ⟨kA, comp, k1, k2, k3, -⟩ := (hK.1.2 4 _ rfl).2
  obtain ⟨c0, t0, f1, f2, f3⟩ := Cond.castable_spec (va_Nw.use (A := args) rfl (hK.2.1 _ hr))
  cases f2.symm.trans k3
  cases f1.symm.trans hcls.1
  obtain ⟨kC, hkC, -⟩ := hcls.2
  obtain ⟨kO, hkO, -⟩ := Vm.findClass_spec k3
  refine W.aast hx hb hA.2 (fun q h => by cases h) (fun h => by cases h) k1 k2 rfl hkO ⟨fun z => g1 (Or.inl z), by show _ < (arrV _ _ _).slots.size; rw [arrV_size, g2]; exact hj⟩ c1 (fun q h => by rw [c3] at h; cases h) (by rw [c2]; exact hkC) (by rw [c2]; exact f3) rfl rfl d fun H1 e1 z oq => ?_
  refine kk H1 _ ls (hR.put hw z oq ?_) (g_loc hf hA.1) hlv
  show H1[a]? = some (vp_cell _ _)
  rw [e1, g2, vp_cell_q, vp_cell_q, arrV_store]
  congr 2
  funext q
  by_cases hq : q = j
  · subst hq; simp [updV, va_up, va_rf]
  · simp [updV, va_up, hq]
/-! ends -/
theorem g_iret (C : Fx X cc own nL rm) {post : Option Value → gW → Prop} {mc ms : Nat} {ty : FieldType} {nm : String} {v : Int32} (Rr : Rt X post mc ms (some ty) nm) (d : decode cc pc = .ok (.ireturn, 1)) (hn : narrow ty (.int v) = .int v) (hk : k ≤ mc) (hs : n ≤ ms) (hp : post (some (.int v)) w) : V X w k n lv [.int v] pc := by
  obtain ⟨N, p, e, R, s, m, args, below, meth, c, Q⟩ := X
  obtain ⟨hQ, hr, hlocks, -⟩ := Rr
  subst hQ
  exact fun H locs ls hR hf hl => W.widen hk hs (W.zret C.1 C.2.1 hr hn (fun t ht hW => ⟨_, w, rfl, hp, by rw [ht]; exact hR⟩) hf d hlocks)
theorem g_lret (C : Fx X cc own nL rm) {post : Option Value → gW → Prop} {mc ms : Nat} {nm : String} {v : Int64} (Rr : Rt X post mc ms (some .long) nm) (d : decode cc pc = .ok (.lreturn, 1)) (hk : k ≤ mc) (hs : n ≤ ms) (hp : post (some (.long v)) w) : V X w k n lv [.long v] pc := by
  obtain ⟨N, p, e, R, s, m, args, below, meth, c, Q⟩ := X
  obtain ⟨hQ, hr, hlocks, -⟩ := Rr
  subst hQ
  exact fun H locs ls hR hf hl => W.widen hk hs (W.lret C.1 C.2.1 hr (fun t ht hW => ⟨_, w, rfl, hp, by rw [ht]; exact hR⟩) hf d hlocks)
theorem g_vret (C : Fx X cc own nL rm) {post : Option Value → gW → Prop} {mc ms : Nat} {nm : String} (Rr : Rt X post mc ms none nm) (d : decode cc pc = .ok (.return_, 1)) (hk : k ≤ mc) (hs : n ≤ ms) (hp : post none w) : V X w k n lv [] pc := by
  obtain ⟨N, p, e, R, s, m, args, below, meth, c, Q⟩ := X
  obtain ⟨hQ, hr, hlocks, -⟩ := Rr
  subst hQ
  exact fun H locs ls hR hf hl => W.widen hk hs (W.vret C.1 C.2.1 hr (fun t ht hW => ⟨_, w, rfl, hp, by rw [ht]; exact hR⟩) hf d hlocks)
theorem g_aret (C : Fx X cc own nL rm) {post : Option Value → gW → Prop} {mc ms : Nat} {rt : FieldType} {nm : String} {v : Value} (Rr : Rt X post mc ms (some rt) nm) (d : decode cc pc = .ok (.areturn, 1)) (hrt : (∃ n, rt = .object n) ∨ ∃ t, rt = .array t) (hv : v = .null ∨ ∃ a, v = .ref a) (hk : k ≤ mc) (hs : n ≤ ms) (hp : post (some v) w) : V X w k n lv [v] pc := by
  obtain ⟨N, p, e, R, s, m, args, below, meth, c, Q⟩ := X
  obtain ⟨hQ, hr, hlocks, -⟩ := Rr
  subst hQ
  exact fun H locs ls hR hf hl => W.widen hk hs (W.aret C.1 C.2.1 hr hrt hv (fun t ht hW => ⟨_, w, rfl, hp, by rw [ht]; exact hR⟩) hf d hlocks)
/-! calls -/
/-- the words of a call -/
def Cw (own : String) (index : Nat) (y : MethodName) (bytes : ByteArray) (maxL : Nat) (ret : Option FieldType) (nA : Nat) : Prop :=
  Cond.methodLink own index y ∈ gT ∧ Cond.initialized y.cls ∈ gT ∧ Cond.code y bytes maxL ret ∈ gT ∧ y.cls ≠ "java/lang/invoke/MethodHandle" ∧ y.cls ≠ "java/lang/invoke/VarHandle" ∧ (parseMethodDescriptor y.desc).map (fun d => d.parameters.length) = some nA
def Cwn (own : String) (index : Nat) (y : MethodName) (bytes : ByteArray) (maxL : Nat) (ret : Option FieldType) (nA : Nat) : Prop :=
  (∃ host, Cond.methodLinkNest own index y host ∈ gNw) ∧ Cond.initialized y.cls ∈ gT ∧ Cond.code y bytes maxL ret ∈ gT ∧ y.cls ≠ "java/lang/invoke/MethodHandle" ∧ y.cls ≠ "java/lang/invoke/VarHandle" ∧ (parseMethodDescriptor y.desc).map (fun d => d.parameters.length) = some nA
theorem g_good {y : MethodName} {bytes : ByteArray} {maxL : Nat} {ret : Option FieldType} (h : Cond.code y bytes maxL ret ∈ gT) : GoodIn gT (.code y bytes maxL ret :: gT) := by
  intro w hw
  rcases List.mem_cons.mp hw with rfl | hw
  · exact ⟨h, good_of_word (gT_good _ h)⟩
  · exact ⟨hw, good_of_word (gT_good _ hw)⟩
theorem g_pre {N : gN} {av : List Value} {w : gW} {H : Heap} {s : State} (hK : gK N s) (hR : gR N w H) : PreS s H (va_Pc av (fun U => gK N U ∧ gR N w U.heap)) av :=
  ⟨fun a U g mk q => ⟨q.1, gK_same (s := U) (U := U.calling g mk a) rfl q.2.1, q.2.2⟩, fun U hU hW => ⟨rfl, gK_moved hW hK, by rw [hU]; exact hR⟩⟩
/-- behind a call -/
theorem g_back {X : gX} {post : Option Value → gW → Prop} {mc ms : Nat} {rest st0 : List Value} {H : Heap} {locs : List Loc} {ls : Array Slot} {k n pc : Nat} {lv : List (Option Value)} (hf : ∀ q ∈ locs, gA X.1 q.base) (hl : lvh ls lv)
    (hr : va_Run X.2.1 X.1.1 X.2.2.1 X.2.2.2.1 X.2.2.2.2.1 X.2.2.2.2.2.1 X.2.2.2.2.2.2.1 X.2.2.2.2.2.2.2.1 X.2.2.2.2.2.2.2.2.1 X.2.2.2.2.2.2.2.2.2.1 H locs k n mc ms (F0 X.2.2.2.2.2.1 pc ls st0) rest (fun (_ : State) (oc : Outcome) (t : State) => ∃ (v : Option Value) (w' : gW), oc = .returned v ∧ post v w' ∧ gR X.1 w' t.heap) (gA X.1))
    (kk : ∀ (v : Option Value) (w' : gW), post v w' → V X w' (k + mc) (n + ms) lv (v.toList ++ rest) (pc + 3)) : W X.2.1 X.1.1 X.2.2.1 X.2.2.2.1 X.2.2.2.2.1 X.2.2.2.2.2.1 X.2.2.2.2.2.2.1 X.2.2.2.2.2.2.2.1 X.2.2.2.2.2.2.2.2.1 X.2.2.2.2.2.2.2.2.2.1 H locs k n X.2.2.2.2.2.2.2.2.2.2 (F0 X.2.2.2.2.2.1 pc ls st0) := by
  obtain ⟨N, p, e, R, s, m, args, below, meth, c, Q⟩ := X
  intro T hT S
  obtain ⟨v, st₀, t, T', L, h0, X', hL, e1, e2, ⟨v', w', hv, hp, hR'⟩, go⟩ := hr T hT S
  cases hv
  obtain ⟨t2, a1, b1⟩ := kk v w' hp T'.heap (locs ++ L) ls (by rw [e1]; exact hR') (fun q hq => by
    rcases List.mem_append.mp hq with h | h
    · exact hf q h
    · exact hL q h) hl T' rfl X'
  exact ⟨t2, go t2 a1, b1⟩
theorem g_callV (C : Fx X cc own nL rm) {y : MethodName} {bytes : ByteArray} {maxL mc ms index b ci nA : Nat} {ret : Option FieldType} {rm' : Room} {As rest fs : List Value} {T : u_T} {Nf : Nat} {post : Option Value → gW → Prop} (d : decode cc pc = .ok (.invokevirtual index, 3)) (cw : Cw own index y bytes maxL ret nA) (sel : Cond.instanceMethod y ∈ gT ∧ Cond.selects y.cls y y ∈ gT) (hM : CtN X.1 y bytes maxL ret rm' (.ref b :: As) w post mc ms) (hc : gCl[ci]? = some (y.cls, T, Nf)) (hb : w.1 b = some (.inr (ci, fs)))
    (hn : As.length = nA) (hst : st = As.reverse ++ .ref b :: rest) (hlen : lv.length = nL) (hcat : (rest.map fun v => v.category).sum ≤ 8) (hrm : rm'.cells = mc ∧ rm'.slots = ms ∧ rm'.frames + 1 ≤ rm.frames ∧ 8 + (maxL + 11) + rm'.locals ≤ rm.locals) (hroom : k + mc ≤ rm.cells ∧ n + ms ≤ rm.slots)
    (kk : ∀ (v : Option Value) (w' : gW), post v w' → V X w' (k + mc) (n + ms) lv (v.toList ++ rest) (pc + 3)) : V X w k n lv st pc := by
  obtain ⟨N, p, e, R, s, m, args, below, meth, c, Q⟩ := X
  have C0 := C
  obtain ⟨hx, hbt, hml, hown, hts, hK, hRm⟩ := C
  subst hRm
  obtain ⟨w1, w2, w3, w4, w5, w6⟩ := cw
  intro H locs ls hR hf hlv
  have hrecv := va_recv hK.1 (hR.one hb) hc (q0 := 0) rfl
  have hcb : CallB R s args own index y bytes maxL ret (.code y bytes maxL ret :: gT) rm' mc ms nA := callB_of nA hts (g_good w3) rfl hrm.1 hrm.2.1 (hts _ w2) (hts _ w1) ⟨w4, w5, w6⟩ hrm.2.2
  have hr := va_runV (p := p) (l := N.1) (e := e) (below := below) (meth := meth) (c := c) (locs := locs) (cells := k) (slots := n) (g := F0 m pc ls st) (rest := rest) (As := As) (nL := nL) (cc := cc) ⟨hx, hbt, hml, hown, hts⟩ hM ⟨hcb, hts _ sel.1, hts _ sel.2⟩ (H := H) (b := b) ⟨(g_pre (av := .ref b :: As) hK hR).1, hrecv, (g_pre (av := .ref b :: As) hK hR).2⟩ rfl hn (by rw [← hlen]; exact hlv.1) hst (lv_room hcat) d hroom
  exact g_back (X := (N, p, e, R, s, m, args, below, meth, c, Q)) hf hlv hr kk
theorem g_callVN (C : Fx X cc own nL rm) {y : MethodName} {bytes : ByteArray} {maxL mc ms index b ci nA : Nat} {ret : Option FieldType} {rm' : Room} {As rest fs : List Value} {T : u_T} {Nf : Nat} {post : Option Value → gW → Prop} (d : decode cc pc = .ok (.invokevirtual index, 3)) (cw : Cwn own index y bytes maxL ret nA) (sel : Cond.instanceMethod y ∈ gT ∧ Cond.selects y.cls y y ∈ gT) (hM : CtN X.1 y bytes maxL ret rm' (.ref b :: As) w post mc ms) (hc : gCl[ci]? = some (y.cls, T, Nf)) (hb : w.1 b = some (.inr (ci, fs)))
    (hn : As.length = nA) (hst : st = As.reverse ++ .ref b :: rest) (hlen : lv.length = nL) (hcat : (rest.map fun v => v.category).sum ≤ 8) (hrm : rm'.cells = mc ∧ rm'.slots = ms ∧ rm'.frames + 1 ≤ rm.frames ∧ 8 + (maxL + 11) + rm'.locals ≤ rm.locals) (hroom : k + mc ≤ rm.cells ∧ n + ms ≤ rm.slots)
    (kk : ∀ (v : Option Value) (w' : gW), post v w' → V X w' (k + mc) (n + ms) lv (v.toList ++ rest) (pc + 3)) : V X w k n lv st pc := by
  obtain ⟨N, p, e, R, s, m, args, below, meth, c, Q⟩ := X
  obtain ⟨hx, hbt, hml, hown, hts, hK, hRm⟩ := C
  subst hRm
  obtain ⟨⟨host, w1⟩, w2, w3, w4, w5, w6⟩ := cw
  intro H locs ls hR hf hlv
  have hrecv := va_recv hK.1 (hR.one hb) hc (q0 := 0) rfl
  have hcb := va_cnB (R := R) (host := host) (own := own) (index := index) (y := y) (bytes := bytes) (maxL := maxL) (ret := ret) (rm := rm') (mc := mc) (ms := ms) nA hts (g_good w3) rfl hrm.1 hrm.2.1 (hK.2.1 _ w1) (hts _ w2) ⟨w4, w5, w6⟩ hrm.2.2
  have hr := va_runVN (p := p) (l := N.1) (e := e) (below := below) (meth := meth) (c := c) (locs := locs) (cells := k) (slots := n) (g := F0 m pc ls st) (rest := rest) (As := As) (nL := nL) (cc := cc) ⟨hx, hbt, hml, hown, hts⟩ hM ⟨hcb, hts _ sel.1, hts _ sel.2⟩ (H := H) (b := b) ⟨(g_pre (av := .ref b :: As) hK hR).1, hrecv, (g_pre (av := .ref b :: As) hK hR).2⟩ rfl hn (by rw [← hlen]; exact hlv.1) hst (lv_room hcat) d hroom
  exact g_back (X := (N, p, e, R, s, m, args, below, meth, c, Q)) hf hlv hr kk
theorem g_callS (C : Fx X cc own nL rm) {y : MethodName} {bytes : ByteArray} {maxL mc ms index nA : Nat} {ret : Option FieldType} {rm' : Room} {As rest : List Value} {post : Option Value → gW → Prop} (d : decode cc pc = .ok (.invokestatic index, 3)) (cw : Cw own index y bytes maxL ret nA) (sel : Cond.static y ∈ gT) (hM : CtN X.1 y bytes maxL ret rm' As w post mc ms)
    (hn : As.length = nA) (hst : st = As.reverse ++ rest) (hlen : lv.length = nL) (hcat : (rest.map fun v => v.category).sum ≤ 8) (hrm : rm'.cells = mc ∧ rm'.slots = ms ∧ rm'.frames + 1 ≤ rm.frames ∧ 8 + (maxL + 11) + rm'.locals ≤ rm.locals) (hroom : k + mc ≤ rm.cells ∧ n + ms ≤ rm.slots)
    (kk : ∀ (v : Option Value) (w' : gW), post v w' → V X w' (k + mc) (n + ms) lv (v.toList ++ rest) (pc + 3)) : V X w k n lv st pc := by
  obtain ⟨N, p, e, R, s, m, args, below, meth, c, Q⟩ := X
  obtain ⟨hx, hbt, hml, hown, hts, hK, hRm⟩ := C
  subst hRm
  obtain ⟨w1, w2, w3, w4, w5, w6⟩ := cw
  intro H locs ls hR hf hlv
  have hcb : CallB R s args own index y bytes maxL ret (.code y bytes maxL ret :: gT) rm' mc ms nA := callB_of nA hts (g_good w3) rfl hrm.1 hrm.2.1 (hts _ w2) (hts _ w1) ⟨w4, w5, w6⟩ hrm.2.2
  have hr := va_runS (p := p) (l := N.1) (e := e) (below := below) (meth := meth) (c := c) (locs := locs) (cells := k) (slots := n) (g := F0 m pc ls st) (rest := rest) (As := As) (nL := nL) (cc := cc) ⟨hx, hbt, hml, hown, hts⟩ hM ⟨hcb, hts _ sel⟩ (H := H) (g_pre (av := As) hK hR) rfl hn (by rw [← hlen]; exact hlv.1) hst (lv_room hcat) d hroom
  exact g_back (X := (N, p, e, R, s, m, args, below, meth, c, Q)) hf hlv hr kk
theorem g_callI (C : Fx X cc own nL rm) {y : MethodName} {bytes : ByteArray} {maxL mc ms index b nA : Nat} {rm' : Room} {As rest : List Value} {post : Option Value → gW → Prop} (d : decode cc pc = .ok (.invokespecial index, 3)) (cw : Cw own index y bytes maxL none nA) (sel : y.name = "<init>" ∧ Cond.instanceMethod y ∈ gT) (hM : CtN X.1 y bytes maxL none rm' (.ref b :: As) w post mc ms)
    (hn : As.length = nA) (hst : st = As.reverse ++ .ref b :: rest) (hlen : lv.length = nL) (hcat : (rest.map fun v => v.category).sum ≤ 8) (hrm : rm'.cells = mc ∧ rm'.slots = ms ∧ rm'.frames + 1 ≤ rm.frames ∧ 8 + (maxL + 11) + rm'.locals ≤ rm.locals) (hroom : k + mc ≤ rm.cells ∧ n + ms ≤ rm.slots)
    (kk : ∀ (v : Option Value) (w' : gW), post v w' → V X w' (k + mc) (n + ms) lv (v.toList ++ rest) (pc + 3)) : V X w k n lv st pc := by
  obtain ⟨N, p, e, R, s, m, args, below, meth, c, Q⟩ := X
  obtain ⟨hx, hbt, hml, hown, hts, hK, hRm⟩ := C
  subst hRm
  obtain ⟨w1, w2, w3, w4, w5, w6⟩ := cw
  intro H locs ls hR hf hlv
  have hcb : CallB R s args own index y bytes maxL none (.code y bytes maxL none :: gT) rm' mc ms nA := callB_of nA hts (g_good w3) rfl hrm.1 hrm.2.1 (hts _ w2) (hts _ w1) ⟨w4, w5, w6⟩ hrm.2.2
  have hr := va_runI (p := p) (l := N.1) (e := e) (below := below) (meth := meth) (c := c) (locs := locs) (cells := k) (slots := n) (g := F0 m pc ls st) (rest := rest) (As := As) (nL := nL) (cc := cc) ⟨hx, hbt, hml, hown, hts⟩ hM ⟨hcb, sel.1, hts _ sel.2⟩ (H := H) (b := b) (g_pre (av := .ref b :: As) hK hR) rfl hn (by rw [← hlen]; exact hlv.1) hst (lv_room hcat) d hroom
  exact g_back (X := (N, p, e, R, s, m, args, below, meth, c, Q)) hf hlv hr kk
theorem g_objInit (C : Fx X cc own nL rm) {index a : Nat} {rest : List Value} (d : decode cc pc = .ok (.invokespecial index, 3)) (h1 : Cond.methodLink own index Lib.objectInit ∈ gT) (h2 : Cond.instanceMethod Lib.objectInit ∈ gT) (h3 : Cond.code Lib.objectInit ⟨#[0xb1]⟩ 1 none ∈ gT) (hlen : lv.length = nL) (hfr : 1 ≤ rm.frames) (hlo : (rest.map fun v => v.category).sum + 12 ≤ rm.locals) (kk : V X w k n lv rest (pc + 3)) : V X w k n lv (.ref a :: rest) pc := by
  obtain ⟨N, p, e, R, s, m, args, below, meth, c, Q⟩ := X
  obtain ⟨hx, hb, hml, hown, hts, hK, hRm⟩ := C
  subst hRm
  intro H locs ls hR hf hlv
  exact W.objInit hx hb hown (hts _ h1) (hts _ h2) (hts _ h3) rfl (by rw [hml, ← hlen]; exact hlv.1) rfl d hfr (by show 2 * 0 + _ + 12 ≤ _; omega) (kk H locs ls hR hf hlv)
def Mw (own : String) (index : Nat) (y : MethodName) (bytes : ByteArray) : Prop := Cond.methodLink own index y ∈ gT ∧ Cond.static y ∈ gT ∧ Cond.initialized "java/lang/Math" ∈ gT ∧ Cond.code y bytes 2 (some .int) ∈ gT
theorem g_max (C : Fx X cc own nL rm) {index : Nat} {x y z : Int32} {rest : List Value} (d : decode cc pc = .ok (.invokestatic index, 3)) (hw : Mw own index Lib.Math.max.name Lib.Math.max.code) (hlen : lv.length = nL) (hfr : 1 ≤ rm.frames) (hlo : (rest.map fun v => v.category).sum + 13 ≤ rm.locals) (hc : k ≤ rm.cells) (hs : n ≤ rm.slots) (hz : (if x < y then y else x) = z) (kk : V X w k n lv (.int z :: rest) (pc + 3)) : V X w k n lv (.int y :: .int x :: rest) pc := by
  obtain ⟨N, p, e, R, s, m, args, below, meth, c, Q⟩ := X
  obtain ⟨hx, hb, hml, hown, hts, hK, hRm⟩ := C
  subst hRm; subst hz
  intro H locs ls hR hf hlv
  exact va_mmax hx hb (by rw [hml, ← hlen]; exact hlv.1.symm) hown (hts _ hw.1) (hts _ hw.2.1) (hts _ hw.2.2.1) (hts _ hw.2.2.2) hfr hlo hc hs d (kk H locs ls hR hf hlv)
theorem g_min (C : Fx X cc own nL rm) {index : Nat} {x y z : Int32} {rest : List Value} (d : decode cc pc = .ok (.invokestatic index, 3)) (hw : Mw own index Lib.Math.min.name Lib.Math.min.code) (hlen : lv.length = nL) (hfr : 1 ≤ rm.frames) (hlo : (rest.map fun v => v.category).sum + 13 ≤ rm.locals) (hc : k ≤ rm.cells) (hs : n ≤ rm.slots) (hz : (if y < x then y else x) = z) (kk : V X w k n lv (.int z :: rest) (pc + 3)) : V X w k n lv (.int y :: .int x :: rest) pc := by
  obtain ⟨N, p, e, R, s, m, args, below, meth, c, Q⟩ := X
  obtain ⟨hx, hb, hml, hown, hts, hK, hRm⟩ := C
  subst hRm; subst hz
  intro H locs ls hR hf hlv
  exact va_mmin hx hb (by rw [hml, ← hlen]; exact hlv.1.symm) hown (hts _ hw.1) (hts _ hw.2.1) (hts _ hw.2.2.1) (hts _ hw.2.2.2) hfr hlo hc hs d (kk H locs ls hR hf hlv)
def Aw (own : String) (index : Nat) : Prop := Cond.methodLink own index arraycopyName ∈ gT ∧ Cond.native arraycopyName ∈ gT ∧ Cond.static arraycopyName ∈ gT ∧ Cond.initialized "java/lang/System" ∈ gT
theorem g_copyi (C : Fx X cc own nL rm) {index a a0 n0 n1 sp dp nn : Nat} {f g : Nat → Int32} {rest : List Value} (d : decode cc pc = .ok (.invokestatic index, 3)) (aw : Aw own index) (hw0 : w.1 a0 = some (.inl (0, n0, .inl f))) (hw1 : w.1 a = some (.inl (0, n1, .inl g))) (h4 : sp + nn ≤ n0) (h5 : dp + nn ≤ n1) (hn0 : n0 < 2 ^ 31) (hn1 : n1 < 2 ^ 31) (hlen : lv.length = nL) (hfr : 1 ≤ rm.frames) (hlo : (rest.map fun v => v.category).sum + (nativeFrameWords "java/lang/System" "arraycopy" 5 + 11) ≤ rm.locals)
    (kk : V X (gset w a (.inl (0, n1, .inl (va_cpy f g sp dp nn)))) k n lv rest (pc + 3)) : V X w k n lv (.int (nI nn) :: .int (nI dp) :: .ref a :: .int (nI sp) :: .ref a0 :: rest) pc := by
  obtain ⟨N, p, e, R, s, m, args, below, meth, c, Q⟩ := X
  obtain ⟨hx, hb, hml, hown, hts, hK, hRm⟩ := C
  subst hRm
  intro H locs ls hR hf hlv T hT X
  have c1 : (nI nn).toNatClampNeg = nn := nI_clamp (by omega)
  have c2 : (nI sp).toNatClampNeg = sp := nI_clamp (by omega)
  have c3 : (nI dp).toNatClampNeg = dp := nI_clamp (by omega)
  have t1 : (nI nn).toInt = nn := nI_toInt (by omega)
  have t2 : (nI sp).toInt = sp := nI_toInt (by omega)
  have t3 : (nI dp).toInt = dp := nI_toInt (by omega)
  have hA := hR.2.2.2 a _ hw1
  have hc0 : H[a0]? = some (vp_cell (N.2.2.2 0) (n0, .inl f)) := (hR.2.2.2 a0 _ hw0).2
  have hc1 : H[a]? = some (vp_cell (N.2.2.2 0) (n1, .inl g)) := hA.2
  obtain ⟨-, k0, hk0, cm0, hkk0⟩ := (hK.1.2 0 _ rfl).1 n0 (fun j => .int (f j))
  obtain ⟨-, k1, hk1, cm1, hkk1⟩ := (hK.1.2 0 _ rfl).1 n1 (fun j => .int (g j))
  obtain ⟨vm', X', step⟩ := X.arraycopy hx hown (hts _ aw.1) (hts _ aw.2.1) (hts _ aw.2.2.1) (hts _ aw.2.2.2) (src := a0) (dst := a) (cs := vp_cell (N.2.2.2 0) (n0, .inl f)) (cd := vp_cell (N.2.2.2 0) (n1, .inl g)) (srcPos := nI sp) (destPos := nI dp) (n := nI nn) (by rw [hT]; exact hc0) (by rw [hT]; exact hc1)
    (fun _ h => by cases h) (fun _ h => by cases h) (fun h => by cases h) (fun h => by cases h) hk0 hk1 hkk0 hkk1 (by simp [refKind]) (nI_pos (by omega)) (nI_pos (by omega)) (nI_pos (by omega))
    (by rw [t1, t2]; show ¬ _ > ((arrV (N.2.2.2 0) n0 (fun j => .int (f j))).slots.size : Int); rw [arrV_size]; omega)
    (by rw [t1, t3]; show ¬ _ > ((arrV (N.2.2.2 0) n1 (fun j => .int (g j))).slots.size : Int); rw [arrV_size]; omega)
    (fun vm₁ _ i hi => by
      rw [c1] at hi
      have e : (vp_cell (N.2.2.2 0) (n0, .inl f)).slots.getD ((nI sp).toNatClampNeg + i) .null = .int (f (sp + i)) := by
        show (arrV (N.2.2.2 0) n0 (fun j => .int (f j))).slots.getD _ _ = _
        rw [c2, Array.getD_eq_getD_getElem?, arrV_read _ _ (by omega)]
        rfl
      refine ⟨?_, ?_⟩
      · rw [e]
        rfl
      · rw [e]
        exact trivial)
    (g := F0 m pc ls (.int (nI nn) :: .int (nI dp) :: .ref a :: .int (nI sp) :: .ref a0 :: rest)) rfl (by rw [hml, ← hlen]; exact hlv.1) (rest := rest) rfl (by rw [hb]; exact d) hfr (by show 2 * 0 + _ + _ ≤ _; omega)
  have e1 : copied (vp_cell (N.2.2.2 0) (n0, .inl f)) (vp_cell (N.2.2.2 0) (n1, .inl g)) (nI sp) (nI dp) (nI nn) = vp_cell (N.2.2.2 0) (n1, .inl (va_cpy f g sp dp nn)) := by
    have e0 : copied (vp_cell (N.2.2.2 0) (n0, .inl f)) (vp_cell (N.2.2.2 0) (n1, .inl g)) (nI sp) (nI dp) (nI nn) = vp_cell (N.2.2.2 0) (n1, .inl (va_cpy f g (nI sp).toNatClampNeg (nI dp).toNatClampNeg (nI nn).toNatClampNeg)) := va_copied (fun z => Value.int z) (N.2.2.2 0) (N.2.2.2 0) f g (by rw [c1, c2]; exact h4)
    rw [c1, c2, c3] at e0
    exact e0
  rw [e1] at X' step
  have hl : a < H.size := (Array.getElem?_eq_some_iff.mp hc1).1
  have hheap : ((T.setVm vm').setCell a (vp_cell (N.2.2.2 0) (n1, .inl (va_cpy f g sp dp nn)))).heap = H.setIfInBounds a (vp_cell (N.2.2.2 0) (n1, .inl (va_cpy f g sp dp nn))) := by rw [← hT]; rfl
  obtain ⟨t, a1, b1⟩ := kk _ _ ls (hR.put hw1 (by simp) (fun q hq => by simp [Array.getElem?_setIfInBounds, Ne.symm hq]) (show (H.setIfInBounds a _)[a]? = some _ by simp [Array.getElem?_setIfInBounds, hl, gcv])) (fun q hq => by
      rcases List.mem_append.mp hq with h | h
      · exact hf q h
      · obtain ⟨z, -, hz⟩ := List.mem_map.mp h
        rw [← hz]
        exact hA.1) hlv _ hheap X'
  exact ⟨t, step t a1, b1⟩
/-! answers by kind -/
def pV (P : gW → Prop) : Option Value → gW → Prop := fun v w' => v = none ∧ P w'
def pI (P : Int32 → gW → Prop) : Option Value → gW → Prop := fun v w' => ∃ r : Int32, v = some (.int r) ∧ P r w'
def pL (P : Int64 → gW → Prop) : Option Value → gW → Prop := fun v w' => ∃ r : Int64, v = some (.long r) ∧ P r w'
def pR (P : Nat → gW → Prop) : Option Value → gW → Prop := fun v w' => ∃ a : Nat, v = some (.ref a) ∧ P a w'
theorem kV {P : gW → Prop} {rest : List Value} (kk : ∀ w', P w' → V X w' k n lv rest pc) : ∀ (v : Option Value) (w' : gW), pV P v w' → V X w' k n lv (v.toList ++ rest) pc := by
  rintro v w' ⟨rfl, h⟩; exact kk w' h
theorem kI {P : Int32 → gW → Prop} {rest : List Value} (kk : ∀ r w', P r w' → V X w' k n lv (.int r :: rest) pc) : ∀ (v : Option Value) (w' : gW), pI P v w' → V X w' k n lv (v.toList ++ rest) pc := by
  rintro v w' ⟨r, rfl, h⟩; exact kk r w' h
theorem kL {P : Int64 → gW → Prop} {rest : List Value} (kk : ∀ r w', P r w' → V X w' k n lv (.long r :: rest) pc) : ∀ (v : Option Value) (w' : gW), pL P v w' → V X w' k n lv (v.toList ++ rest) pc := by
  rintro v w' ⟨r, rfl, h⟩; exact kk r w' h
theorem kR {P : Nat → gW → Prop} {rest : List Value} (kk : ∀ r w', P r w' → V X w' k n lv (.ref r :: rest) pc) : ∀ (v : Option Value) (w' : gW), pR P v w' → V X w' k n lv (v.toList ++ rest) pc := by
  rintro v w' ⟨r, rfl, h⟩; exact kk r w' h
end VR
def rmm (f l c s : Nat) : Room := { frames := f, cells := c, slots := s, locals := l }
