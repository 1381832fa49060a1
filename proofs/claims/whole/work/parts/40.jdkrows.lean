/-! ROWS for the JDK's methods: statics, mirrors, casts, copying of references, inherited fields, constants. -/
section VJ
variable {X : gX} {cc : ByteArray} {own : String} {nL : Nat} {rm : Room} {w : gW} {k n pc : Nat} {lv : List (Option Value)} {st : List Value}
theorem g_null (C : Fx X cc own nL rm) (d : decode cc pc = .ok (.aconst_null, 1)) (kk : V X w k n lv (.null :: st) (pc + 1)) : V X w k n lv st pc := by
  obtain ⟨N, p, e, R, s, m, args, below, meth, c, Q⟩ := X
  exact fun H locs ls hR hf hl => lv_null C.1 C.2.1 d (kk H locs ls hR hf hl)
theorem g_ldc (C : Fx X cc own nL rm) {index : Nat} {v : Int32} (d : decode cc pc = .ok (.ldc index, 2)) (hw : Cond.constant own index v ∈ gT) (kk : V X w k n lv (.int v :: st) (pc + 2)) : V X w k n lv st pc := by
  obtain ⟨N, p, e, R, s, m, args, below, meth, c, Q⟩ := X
  obtain ⟨hx, hb, hml, hown, hts, hK, hRm⟩ := C
  exact fun H locs ls hR hf hl => lv_ldc hx hb hown (hts _ hw) d (kk H locs ls hR hf hl)
theorem g_ldc2 (C : Fx X cc own nL rm) {index : Nat} {v : Int64} (d : decode cc pc = .ok (.ldc2_w index, 3)) (hw : Cond.constantLong own index v ∈ gT) (kk : V X w k n lv (.long v :: st) (pc + 3)) : V X w k n lv st pc := by
  obtain ⟨N, p, e, R, s, m, args, below, meth, c, Q⟩ := X
  obtain ⟨hx, hb, hml, hown, hts, hK, hRm⟩ := C
  exact fun H locs ls hR hf hl => lv_ldc2 hx hb hown (hts _ hw) d (kk H locs ls hR hf hl)
theorem g_cast (C : Fx X cc own nL rm) {index a ci Nf : Nat} {fs : List Value} {Cn nm : String} {T : u_T} (d : decode cc pc = .ok (.checkcast index, 3)) (hlink : Cond.classLink own index nm ∈ gT) (hc : Cond.castable Cn nm ∈ gNw) (hci : gCl[ci]? = some (Cn, T, Nf)) (hw : w.1 a = some (.inr (ci, fs))) (kk : V X w k n lv (.ref a :: st) (pc + 3)) : V X w k n lv (.ref a :: st) pc := by
  obtain ⟨N, p, e, R, s, m, args, below, meth, c, Q⟩ := X
  obtain ⟨hx, hb, hml, hown, hts, hK, hRm⟩ := C
  intro H locs ls hR hf hl
  exact va_castY hx hb hown (hts _ hlink) (hK.2.1 _ hc) (va_recv hK.1 (hR.one hw) hci (q0 := 0) rfl) d (kk H locs ls hR hf hl)
theorem g_getsZ (C : Fx X cc own nL rm) {index : Nat} (d : decode cc pc = .ok (.getstatic index, 3)) (hl : Cond.fieldLink own index "java/util/ArrayList" "DEFAULTCAPACITY_EMPTY_ELEMENTDATA" "[Ljava/lang/Object;" ∈ gT) (kk : V X w k n lv (.ref (X.1.2.2.2 5) :: st) (pc + 3)) : V X w k n lv st pc := by
  obtain ⟨N, p, e, R, s, m, args, below, meth, c, Q⟩ := X
  obtain ⟨hx, hb, hml, hown, hts, hK, hRm⟩ := C
  intro H locs ls hR hf hlv
  obtain ⟨cf, kf, fi, f, a, cell, h1, h2, h3, h4, h5, h6, h7, h8⟩ := hK.2.2.1
  exact W.gets hx hb hown (hts _ hl) h1 h2 h3 h4 (by rw [hR.2.2.1 a (Array.getElem?_eq_some_iff.mp h5).1]; exact h5) (fun e => by rw [e] at h6; cases h6) h7 rfl d (kk H locs ls hR hf hlv)
theorem g_alenZ (C : Fx X cc own nL rm) (d : decode cc pc = .ok (.arraylength, 1)) (kk : V X w k n lv (.int (nI 0) :: st) (pc + 1)) : V X w k n lv (.ref (X.1.2.2.2 5) :: st) pc := by
  obtain ⟨N, p, e, R, s, m, args, below, meth, c, Q⟩ := X
  obtain ⟨hx, hb, hml, hown, hts, hK, hRm⟩ := C
  intro H locs ls hR hf hlv
  obtain ⟨cell, h1, h2, h3, h4, h5, h6, h7⟩ := hK.2.2.2.1
  exact W.alen (n := nI 0) hx hb (by rw [hR.2.2.1 _ (Array.getElem?_eq_some_iff.mp h1).1]; exact h1) h2 h5 rfl rfl d (kk H locs ls hR hf hlv)
theorem g_acmp_eq (C : Fx X cc own nL rm) {x y : Nat} {z : Int} (tgt : Nat) (d : decode cc pc = .ok (.if_acmp .eq z, 3)) (ht : (pc : Int) + z = (tgt : Int)) (kt : x = y → V X w k n lv st tgt) (kf : ¬ x = y → V X w k n lv st (pc + 3)) : V X w k n lv (.ref y :: .ref x :: st) pc := by
  obtain ⟨N, p, e, R, s, m, args, below, meth, c, Q⟩ := X
  exact fun H locs ls hR hf hl => lv_acmp_eq (rx := some x) (ry := some y) C.1 C.2.1 d ht (fun h => kt (Option.some.inj h) H locs ls hR hf hl) (fun h => kf (fun q => h (by rw [q])) H locs ls hR hf hl)
theorem g_acmp_ne (C : Fx X cc own nL rm) {x y : Nat} {z : Int} (tgt : Nat) (d : decode cc pc = .ok (.if_acmp .ne z, 3)) (ht : (pc : Int) + z = (tgt : Int)) (kt : ¬ x = y → V X w k n lv st tgt) (kf : x = y → V X w k n lv st (pc + 3)) : V X w k n lv (.ref y :: .ref x :: st) pc := by
  obtain ⟨N, p, e, R, s, m, args, below, meth, c, Q⟩ := X
  exact fun H locs ls hR hf hl => lv_acmp_ne (rx := some x) (ry := some y) C.1 C.2.1 d ht (fun h => kt (fun q => h (by rw [q])) H locs ls hR hf hl) (fun h => kf (Option.some.inj h) H locs ls hR hf hl)
/-! the mirror of Object[] (its cell is N.2.2.2 6), by ldc and by getClass -/
theorem g_ldcM (C : Fx X cc own nL rm) {index : Nat} (d : decode cc pc = .ok (.ldc index, 2)) (hlink : Cond.classLink own index "[Ljava/lang/Object;" ∈ gT) (kk : V X w k n lv (.ref (X.1.2.2.2 6) :: st) (pc + 2)) : V X w k n lv st pc := by
  obtain ⟨N, p, e, R, s, m, args, below, meth, c, Q⟩ := X
  obtain ⟨hx, hb, hml, hown, hts, hK, hRm⟩ := C
  exact fun H locs ls hR hf hl => va_ldcM hx hb hown (hts _ hlink) hK.2.2.2.2.1 d (kk H locs ls hR hf hl)
abbrev y_getClass : MethodName := ⟨"java/lang/Object", "getClass", "()Ljava/lang/Class;"⟩
theorem g_getC (C : Fx X cc own nL rm) {index a n0 : Nat} {f : Nat → Option Nat} {rest : List Value} (d : decode cc pc = .ok (.invokevirtual index, 3)) (w1 : Cond.methodLink own index y_getClass ∈ gT) (w2 : Cond.selects "[Ljava/lang/Object;" y_getClass y_getClass ∈ gT) (w3 : Cond.instanceMethod y_getClass ∈ gT) (w4 : Cond.native y_getClass ∈ gT) (hw : w.1 a = some (.inl (4, n0, .inr (.inr (.inr (.inr f)))))) (hlen : lv.length = nL) (hfr : 1 ≤ rm.frames) (hlo : (rest.map fun v => v.category).sum + 14 ≤ rm.locals) (kk : V X w k n lv (.ref (X.1.2.2.2 6) :: rest) (pc + 3)) : V X w k n lv (.ref a :: rest) pc := by
  obtain ⟨N, p, e, R, s, m, args, below, meth, c, Q⟩ := X
  obtain ⟨hx, hb, hml, hown, hts, hK, hRm⟩ := C
  subst hRm
  intro H locs ls hR hf hlv
  have hc0 : H[a]? = some (vp_cell (N.2.2.2 4) (n0, .inr (.inr (.inr (.inr f))))) := (hR.2.2.2 a _ hw).2
  refine va_getC hx hb (by rw [hml, ← hlen]; exact hlv.1.symm) hown (hts _ w1) (va_Dc.use hK.2.2.2.2.2) (hts _ w2) (hts _ w3) (hts _ w4) hK.2.2.2.2.1 ⟨_, hc0, rfl, ?_⟩ hfr hlo d (kk H locs ls hR hf hlv)
  exact va_nmO (hK.1.2 4 _ rfl).2 (by decide +kernel)
theorem g_copyq (C : Fx X cc own nL rm) {index a a0 n0 n1 sp dp nn : Nat} {f g : Nat → Option Nat} {rest : List Value} (d : decode cc pc = .ok (.invokestatic index, 3)) (aw : Aw own index) (hw0 : w.1 a0 = some (.inl (4, n0, .inr (.inr (.inr (.inr f)))))) (hw1 : w.1 a = some (.inl (4, n1, .inr (.inr (.inr (.inr g)))))) (hel : ∀ i, i < nn → ∀ y, f (sp + i) = some y → ∃ (ci : Nat) (vs : List Value) (r : vw_C), w.1 y = some (.inr (ci, vs)) ∧ gCl[ci]? = some r ∧ Cond.castable r.1 "java/lang/Object" ∈ gNw) (h4 : sp + nn ≤ n0) (h5 : dp + nn ≤ n1) (hn0 : n0 < 2 ^ 31) (hn1 : n1 < 2 ^ 31) (hlen : lv.length = nL) (hfr : 1 ≤ rm.frames) (hlo : (rest.map fun v => v.category).sum + (nativeFrameWords "java/lang/System" "arraycopy" 5 + 11) ≤ rm.locals)
    (kk : V X (gset w a (.inl (4, n1, .inr (.inr (.inr (.inr (va_cpy f g sp dp nn))))))) k n lv rest (pc + 3)) : V X w k n lv (.int (nI nn) :: .int (nI dp) :: .ref a :: .int (nI sp) :: .ref a0 :: rest) pc := by
  obtain ⟨N, p, e, R, s, m, args, below, meth, c, Q⟩ := X
  obtain ⟨hx, hb, hml, hown, hts, hK, hRm⟩ := C
  subst hRm
  intro H locs ls hR hf hlv T hT X
  have c1 : (nI nn).toNatClampNeg = nn := nI_clamp (by omega)
  have c2 : (nI sp).toNatClampNeg = sp := nI_clamp (by omega)
  have c3 : (nI dp).toNatClampNeg = dp := nI_clamp (by omega)
  have t1 : (nI nn).toInt = nn := nI_toInt (by omega)
  have t2 : (nI sp).toInt = sp := nI_toInt (by omega)
  have t3 : (nI dp).toInt = dp := nI_toInt (by omega)
  have hA := hR.2.2.2 a _ hw1
  have hc0 : H[a0]? = some (vp_cell (N.2.2.2 4) (n0, .inr (.inr (.inr (.inr f))))) := (hR.2.2.2 a0 _ hw0).2
  have hc1 : H[a]? = some (vp_cell (N.2.2.2 4) (n1, .inr (.inr (.inr (.inr g))))) := hA.2
  obtain ⟨-, k0, hk0, cm0, hkk0⟩ := (hK.1.2 4 _ rfl).1 n0 (fun j => va_rf (f j))
  obtain ⟨-, k1, hk1, cm1, hkk1⟩ := (hK.1.2 4 _ rfl).1 n1 (fun j => va_rf (g j))
  obtain ⟨vm', X', step⟩ := X.arraycopy hx hown (hts _ aw.1) (hts _ aw.2.1) (hts _ aw.2.2.1) (hts _ aw.2.2.2) (src := a0) (dst := a) (cs := vp_cell (N.2.2.2 4) (n0, .inr (.inr (.inr (.inr f))))) (cd := vp_cell (N.2.2.2 4) (n1, .inr (.inr (.inr (.inr g))))) (srcPos := nI sp) (destPos := nI dp) (n := nI nn) (by rw [hT]; exact hc0) (by rw [hT]; exact hc1)
    (fun _ h => by cases h) (fun _ h => by cases h) (fun h => by cases h) (fun h => by cases h) hk0 hk1 hkk0 hkk1 rfl (nI_pos (by omega)) (nI_pos (by omega)) (nI_pos (by omega))
    (by rw [t1, t2]; show ¬ _ > ((arrV (N.2.2.2 4) n0 (fun j => va_rf (f j))).slots.size : Int); rw [arrV_size]; omega)
    (by rw [t1, t3]; show ¬ _ > ((arrV (N.2.2.2 4) n1 (fun j => va_rf (g j))).slots.size : Int); rw [arrV_size]; omega)
    (fun vm₁ hal i hi => by
      rw [c1] at hi
      have e : (vp_cell (N.2.2.2 4) (n0, .inr (.inr (.inr (.inr f))))).slots.getD ((nI sp).toNatClampNeg + i) .null = va_rf (f (sp + i)) := by
        show (arrV (N.2.2.2 4) n0 (fun j => va_rf (f j))).slots.getD _ _ = _
        rw [c2, Array.getD_eq_getD_getElem?, arrV_read _ _ (by omega)]
        rfl
      rw [e]
      cases hy : f (sp + i) with
      | none => exact ⟨rfl, trivial⟩
      | some y =>
        obtain ⟨ci, vs, r, e1, e2, e3⟩ := hel i hi y hy
        obtain ⟨-, r', hr', cellV, g1, g2, g3, -⟩ := hR.2.2.2 y _ e1
        have hcls := (hK.1.1 ci r e2).2
        obtain ⟨kC, hkC, -⟩ := hcls.2
        obtain ⟨c0, t0, f1, f2, f3⟩ := Cond.castable_spec (va_Nw.use (A := args) rfl (hK.2.1 _ e3))
        obtain ⟨kA, comp, r1, r2, r3, -⟩ := (hK.1.2 4 _ rfl).2
        cases hk1.symm.trans r1
        cases hkk1.symm.trans r2
        cases f2.symm.trans r3
        cases f1.symm.trans hcls.1
        obtain ⟨kE, hkE, -⟩ := Vm.findClass_spec r3
        obtain ⟨kC', hkC', -⟩ := hal.2.2 _ _ hkC
        obtain ⟨kE', hkE', -⟩ := hal.2.2 _ _ hkE
        refine ⟨rfl, cellV, (show T.heap[y]? = some cellV by rw [hT]; exact g1), (fun q h => by rw [g3] at h; cases h), ⟨kC', by rw [g2]; exact hkC'⟩, ⟨kE', hkE'⟩, ?_⟩
        show vm₁.assignable _ _ = true
        rw [hal.assignable, g2]
        exact f3)
    (g := F0 m pc ls (.int (nI nn) :: .int (nI dp) :: .ref a :: .int (nI sp) :: .ref a0 :: rest)) rfl (by rw [hml, ← hlen]; exact hlv.1) (rest := rest) rfl (by rw [hb]; exact d) hfr (by show 2 * 0 + _ + _ ≤ _; omega)
  have e1 : copied (vp_cell (N.2.2.2 4) (n0, .inr (.inr (.inr (.inr f))))) (vp_cell (N.2.2.2 4) (n1, .inr (.inr (.inr (.inr g))))) (nI sp) (nI dp) (nI nn) = vp_cell (N.2.2.2 4) (n1, .inr (.inr (.inr (.inr (va_cpy f g sp dp nn))))) := by
    have e0 : copied (vp_cell (N.2.2.2 4) (n0, .inr (.inr (.inr (.inr f))))) (vp_cell (N.2.2.2 4) (n1, .inr (.inr (.inr (.inr g))))) (nI sp) (nI dp) (nI nn) = vp_cell (N.2.2.2 4) (n1, .inr (.inr (.inr (.inr (va_cpy f g (nI sp).toNatClampNeg (nI dp).toNatClampNeg (nI nn).toNatClampNeg))))) := va_copied (fun z => va_rf z) (N.2.2.2 4) (N.2.2.2 4) f g (by rw [c1, c2]; exact h4)
    rw [c1, c2, c3] at e0
    exact e0
  rw [e1] at X' step
  have hl : a < H.size := (Array.getElem?_eq_some_iff.mp hc1).1
  have hheap : ((T.setVm vm').setCell a (vp_cell (N.2.2.2 4) (n1, .inr (.inr (.inr (.inr (va_cpy f g sp dp nn))))))).heap = H.setIfInBounds a (vp_cell (N.2.2.2 4) (n1, .inr (.inr (.inr (.inr (va_cpy f g sp dp nn)))))) := by rw [← hT]; rfl
  obtain ⟨t, a1, b1⟩ := kk _ _ ls (hR.put hw1 (by simp) (fun q hq => by simp [Array.getElem?_setIfInBounds, Ne.symm hq]) (show (H.setIfInBounds a _)[a]? = some _ by simp [Array.getElem?_setIfInBounds, hl, gcv])) (fun q hq => by
      rcases List.mem_append.mp hq with h | h
      · exact hf q h
      · obtain ⟨z, -, hz⟩ := List.mem_map.mp h
        rw [← hz]
        exact hA.1) hlv _ hheap X'
  exact ⟨t, step t a1, b1⟩
/-- a field that a class inherits, under the name by which javac spells it -/
def FLX (own : String) (index ci f : Nat) : Prop := ∃ (C ref : String) (T : u_T) (Nf : Nat), gCl[ci]? = some (C, T, Nf) ∧ f < Nf ∧ (∀ w ∈ u_ws C T Nf, w ∈ gT) ∧ Cond.fieldLink own index ref (T f).2.1 (T f).2.2.1 ∈ gT ∧ ((T f).1 = ref ∨ Cond.sameField ref (T f).1 (T f).2.1 (T f).2.2.1 ∈ gT)
theorem g_getX (C : Fx X cc own nL rm) {index a ci f : Nat} {fs : List Value} {v : Value} (d : decode cc pc = .ok (.getfield index, 3)) (hl : FLX own index ci f) (hw : w.1 a = some (.inr (ci, fs))) (hv : fs[f]? = some v) (kk : V X w k n lv (v :: st) (pc + 3)) : V X w k n lv (.ref a :: st) pc := by
  obtain ⟨N, p, e, R, s, m, args, below, meth, c, Q⟩ := X
  obtain ⟨Cn, rf, T, Nf, hc, hk, hin, hlk, hT⟩ := hl
  obtain ⟨hx, hb, hml, hown, hts, hK, hRm⟩ := C
  intro H locs ls hR hf hlv
  refine va_get hx hb (ws := [(a, gcv N (.inr (ci, fs)))]) (D := N.2.1) (cl := gCl) (tys := gTys N) hts hin hown hK.1 (hR.one hw) 0 rfl hc f hk (ref := rf) (hts _ hlk) (fun x h => ?_) hv d (kk H locs ls hR hf hlv)
  rcases hT with hT | hT
  · rw [hT] at h; exact h
  · exact u_same (hts _ hT) x h
theorem g_putX (C : Fx X cc own nL rm) {index a ci f : Nat} {fs fs' : List Value} {v : Value} {ty : FieldType} (d : decode cc pc = .ok (.putfield index, 3)) (hl : FLX own index ci f) (hft : FT ci) (hfk : FK ci f false ty) (hw : w.1 a = some (.inr (ci, fs))) (hn : narrow ty v = v) (hfit : fits ty v = true) (hlen : f < fs.length) (hfs : fs.set f v = fs')
    (kk : V X (gset w a (.inr (ci, fs'))) k n lv st (pc + 3)) : V X w k n lv (v :: .ref a :: st) pc := by
  obtain ⟨N, p, e, R, s, m, args, below, meth, c, Q⟩ := X
  obtain ⟨Cn, rf, T, Nf, hc, hk, hin, hlk, hT⟩ := hl
  obtain ⟨Cn1, T1, Nf1, ty0, hc1, hty, hnm⟩ := hft
  obtain ⟨Cn2, T2, Nf2, hc2, hfin, hd⟩ := hfk
  obtain ⟨hx, hb, hml, hown, hts, hK, hRm⟩ := C
  cases hc.symm.trans hc1
  cases hc.symm.trans hc2
  subst hfs
  intro H locs ls hR hf hlv
  have hap := va_apart (own := own) hts hin ty0 hty hnm hK.1 hc
  obtain ⟨hA, r, h1, cell, q1, q2, q3, q4⟩ := hR.2.2.2 a _ hw
  have hr : r = (Cn, T, Nf) := Option.some.inj (h1.symm.trans hc)
  subst hr
  obtain ⟨hS, hfc, kC, hkC, hkind⟩ := hK.1.1 ci _ hc
  obtain ⟨cf, kf, fi, fd, hi, hsl⟩ := hS f hk
  have hlay := hts _ (hin _ (u_in_lay hk))
  unfold u_lay at hlay
  rw [if_neg (by rw [hfin]; decide)] at hlay
  have hst := (u_facts hfc hkC (u_lays hts hin hk) hi).1
  have h6 := u_store hfc hkC hkind hlay hi hd hn hfit
  have hi2 : s.fieldFound? rf (T f).2.1 (T f).2.2.1 = some (cf, kf, fi, fd) := by
    rcases hT with hT | hT
    · rw [hT] at hi; exact hi
    · exact u_same (hts _ hT) _ hi
  refine W.putK hx hb (f := fd) ⟨hown, hts _ hlk, ⟨_, _, _, hi2⟩, hst⟩ (by rw [q2]; exact h6) q1 q3 (by rw [hsl]; exact k2_hasslot (q4 f hk)) rfl rfl d fun H' e1 e2 e3 => ?_
  rw [hsl] at e1 ⊢
  exact kk H' _ ls (hR.put hw e2 e3 ⟨_, hc, t_OB.to (V := updV (vp_V fs) f v) ⟨_, e1, q2, q3, t_set q4 hap hk v⟩ (fun j _ => vp_updV_set hlen v j)⟩) (g_loc hf hA) hlv
end VJ
