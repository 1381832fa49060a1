/-! THE START: the classes' numbers, the arrays' numbers, ArrayList's empty array, the mirror. -/
theorem st_eqv {args : Array Value} {first s : State} {o : Option Outcome} {idx : List Nat} {t u : Term} {x : Int32} (h : (Cond.eq t u).holds args first o s idx = true) (hu : u.eval args first o idx s = some (.int x)) : t.eval args first o idx s = some (.int x) := by
  simp only [Cond.holds, Cond.value, hu] at h
  cases ht : t.eval args first o idx s with
  | none => simp [ht] at h
  | some v => cases v <;> simp [ht] at h <;> simp [h]
theorem st_arr {args : Array Value} {s : State} {ty : FieldType} (hp : ∀ cA : ClassId, s.vm.findClass ("[" ++ ty.toString) = some cA → va_RA s cA ty) (h : (Cond.arrayClass ty).before args s = true) : ∃ cA : ClassId, ArrOfT s cA ty ∧ va_RA s cA ty := by
  obtain ⟨c, k, comp, h1, h2, h3⟩ := Cond.arrayClass_spec h
  exact ⟨c, fun N z => ⟨(fun k h => by cases h), k, h2, comp, h3⟩, hp c h1⟩
theorem st_arrO {args : Array Value} {s : State} {C : String} (h : (Cond.arrayOver (.object C)).before args s = true) : ∃ cA : ClassId, ArrOfT s cA (.object C) ∧ va_RA s cA (.object C) := by
  obtain ⟨comp, c, k, h1, h2, h3, h4, h5⟩ := Cond.arrayOver_spec h
  exact ⟨c, fun N z => ⟨(fun k h => by cases h), k, h3, comp, h4⟩, ⟨k, comp, h3, h4, h1, h5⟩⟩
theorem gT_all {args : Array Value} {s : State} (hts : ∀ w ∈ lw_tbl, w.before args s = true) : ∀ w ∈ gT, w.before args s = true := fun w hw => hts w (List.mem_filter.mp hw).1
theorem gNw_tbl : ∀ w ∈ gNw, w ∈ lw_tbl := by decide +kernel
theorem gnk_of : ∀ (w : Cond), gnk w = true → ∀ {A : Array Value} {U : State}, w.before A U = true → va_Nw w U
  | .fieldLinkNest _ _ _ _ _ _, _, _, _, h => va_Nw.of rfl h
  | .methodLinkNest _ _ _ _, _, _, _, h => va_Nw.of rfl h
  | .castable _ _, _, _, _, h => va_Nw.of rfl h
  | .arrayOver (.object _), _, _, _, h => va_AO.of h
theorem gN_start {s : State} {args : Array Value} (l : Launch) (hts : ∀ w ∈ lw_tbl, w.before args s = true) (hg : (Jvm.Cond.and given_1 narrow_1).before args s = true) : ∃ N : gN, N.1 = l ∧ N.2.2.1 = s.heap ∧ gK N s := by
  have hT := gT_all hts
  have hs := flat_of_before _ hg
  obtain ⟨c0, i0, k0⟩ := u_known hT uw_Row (hT _ m_56)
  obtain ⟨c1, i1, k1⟩ := u_known hT uw_Tree (hT _ m_49)
  obtain ⟨c2, i2, k2⟩ := u_known hT uw_Cls (hT _ m_15)
  obtain ⟨c3, i3, k3⟩ := u_known hT uw_Mod (hT _ m_394)
  obtain ⟨c4, i4, k4⟩ := u_known hT uw_AL (hT _ m_23)
  obtain ⟨a0, p0⟩ := st_arr (ty := .int) (fun _ h => h) (hT _ m_69)
  obtain ⟨a1, p1⟩ := st_arr (ty := .byte) (fun _ h => h) (hT _ m_442)
  obtain ⟨a2, p2⟩ := st_arr (ty := .boolean) (fun _ h => h) (hT _ m_146)
  have hNw : ∀ w ∈ gNw, w.before args s = true := fun w hw => hts w (gNw_tbl w hw)
  obtain ⟨a3, p3⟩ := st_arrO (C := RRow) (hNw _ (by decide +kernel))
  obtain ⟨a4, p4⟩ := st_arrO (C := "java/lang/Object") (hNw _ (by decide +kernel))
  have hlen := st_eqv (hs (Cond.eq (.length (.static "java/util/ArrayList" "DEFAULTCAPACITY_EMPTY_ELEMENTDATA" "[Ljava/lang/Object;")) (.int 0)) (by decide +kernel)) (show (Term.int 0).eval args s none [] s = some (.int 0) from rfl)
  obtain ⟨t, ht, hT0⟩ := va_Tof (N := 0) (f := fun _ => .null) (A := fun q => s.heap.size ≤ q) (by decide) (hs (Cond.arrayOf (.static "java/util/ArrayList" "DEFAULTCAPACITY_EMPTY_ELEMENTDATA" "[Ljava/lang/Object;") (.object "java/lang/Object")) (by decide +kernel)) hlen (fun j hj => absurd hj (Nat.not_lt_zero _)) (fun a ha h => absurd ha (Nat.not_lt.mpr h))
  have hZ := va_Zref (A := fun q => s.heap.size ≤ q) (hts (Cond.laysStatic "java/util/ArrayList" "DEFAULTCAPACITY_EMPTY_ELEMENTDATA" "[Ljava/lang/Object;") (by decide +kernel)) (hT _ m_4) ht (fun a ha h => absurd ha (Nat.not_lt.mpr h))
  obtain ⟨mi, hM⟩ := va_Mi.of (hs (Cond.isRef (.mirror "[Ljava/lang/Object;")) (by decide +kernel))
  have hD := va_Dc.of (hts (Cond.declares ⟨"java/lang/Object", "getClass", "()Ljava/lang/Class;"⟩) (by decide +kernel))
  refine ⟨(l, (fun c => match c with | 0 => c0 | 1 => c1 | 2 => c2 | 3 => c3 | _ => c4, fun c => match c with | 0 => i0 | 1 => i1 | 2 => i2 | 3 => i3 | _ => i4), s.heap, fun k => match k with | 0 => a0 | 1 => a1 | 2 => a2 | 3 => a3 | 4 => a4 | 5 => t | _ => mi), rfl, rfl, ⟨fun c q hq => ?_, fun k q hq => ?_⟩, fun w hw => gnk_of w (gNw_ok w hw) (hNw w hw), hZ, hT0, hM, hD⟩
  · have hc : c < 5 := (List.getElem?_eq_some_iff.mp hq).1
    rcases (show c = 0 ∨ c = 1 ∨ c = 2 ∨ c = 3 ∨ c = 4 by omega) with rfl | rfl | rfl | rfl | rfl
    · cases hq; exact k0
    · cases hq; exact k1
    · cases hq; exact k2
    · cases hq; exact k3
    · cases hq; exact k4
  · have hk : k < 5 := (List.getElem?_eq_some_iff.mp hq).1
    rcases (show k = 0 ∨ k = 1 ∨ k = 2 ∨ k = 3 ∨ k = 4 by omega) with rfl | rfl | rfl | rfl | rfl
    · cases hq; exact p0
    · cases hq; exact p1
    · cases hq; exact p2
    · cases hq; exact p3
    · cases hq; exact p4
