/-! THE REFERENCE: its arrays as functions, its rows. -/
abbrev RA : Type := Nat → Nat → Int32
def rkd (k : Nat) : Nat := if k = 1 then 1 else if k = 5 then 2 else 0
def rln (k : Nat) : Nat := match k with
  | 0 => 3200
  | 1 => 12800
  | 2 => 40
  | 3 => 40
  | 4 => 200
  | 5 => 40
  | 6 => 240
  | 7 => 1440
  | 8 => 24
  | 9 => 3
  | 10 => 3
  | 11 => 80
  | 12 => 80
  | _ => 0
def rup (R : RA) (k j : Nat) (x : Int32) : RA := fun k' j' => if k' = k ∧ j' = j then x else R k' j'
theorem rups {R : RA} {k j : Nat} {x : Int32} : rup R k j x k j = x := by unfold rup; rw [if_pos ⟨rfl, rfl⟩]
theorem rupn {R : RA} {k j k' j' : Nat} {x : Int32} (h : ¬ (k' = k ∧ j' = j)) : rup R k j x k' j' = R k' j' := by unfold rup; rw [if_neg h]
theorem rup_k {R : RA} {k j : Nat} {x : Int32} : rup R k j x k = upd (R k) j x := by
  funext i; unfold rup upd
  by_cases e : i = j
  · rw [if_pos ⟨rfl, e⟩, if_pos e]
  · rw [if_neg (fun z => e z.2), if_neg e]
theorem rup_o {R : RA} {k j k' : Nat} {x : Int32} (h : k' ≠ k) : rup R k j x k' = R k' := by
  funext i; exact rupn (fun z => h z.1)
def RefW (w0 w : gW) (m : Nat) (R : RA) (md : Nat) : Prop := Sm w0 w m (m + 14) ∧ w.1 m = some (.inr (kMod, [.ref (m + 1), .ref (m + 2), .ref (m + 3), .ref (m + 4), .ref (m + 5), .ref (m + 6), .int (nI md), .ref (m + 7), .ref (m + 8), .ref (m + 9), .ref (m + 10), .ref (m + 11), .ref (m + 12), .ref (m + 13)])) ∧ ∀ k, k < 13 → w.1 (m + 1 + k) = some (.inl (rkd k, rln k, .inl (R k)))
theorem RefW.st {w0 w : gW} {m : Nat} {R : RA} {md : Nat} (h : RefW w0 w m R md) {k : Nat} (hk : k < 13) (j : Nat) (x : Int32) : RefW w0 (gset w (m + 1 + k) (.inl (rkd k, rln k, .inl (upd (R k) j x)))) m (rup R k j x) md := by
  refine ⟨h.1.trans (Sm.set (by omega) (by omega)), (gset_ne _ _ (by omega)).trans h.2.1, fun k' hk' => ?_⟩
  by_cases e : k' = k
  · subst e; rw [gset_self, rup_k]
  · rw [gset_ne _ _ (by omega), rup_o e]; exact h.2.2 k' hk'
theorem RefW.base {w0 w : gW} {m : Nat} {R : RA} {md : Nat} (h : RefW w0 w m R md) : RefW w w m R md := ⟨Sm.rf, h.2⟩
theorem RefW.join {w0 w1 w : gW} {m : Nat} {R R1 : RA} {md md1 : Nat} (h1 : RefW w0 w1 m R1 md1) (h : RefW w1 w m R md) : RefW w0 w m R md := ⟨h1.1.trans h.1, h.2⟩
section RW
variable {X : gX} {cc : ByteArray} {nL : Nat} {rm : Room} {w0 w : gW} {k n pc : Nat} {lv : List (Option Value)} {st : List Value} {m : Nat} {R : RA} {md : Nat}
theorem r_f0 (C : Fx X cc "RelaxedRadixVectorModel" nL rm) (d : decode cc pc = .ok (.getfield 7, 3)) (hR : RefW w0 w m R md) (kk : V X w k n lv (.ref (m + 1) :: st) (pc + 3)) : V X w k n lv (.ref m :: st) pc := g_get C d fl_Mod_7 hR.2.1 (by rfl) kk
theorem r_f1 (C : Fx X cc "RelaxedRadixVectorModel" nL rm) (d : decode cc pc = .ok (.getfield 13, 3)) (hR : RefW w0 w m R md) (kk : V X w k n lv (.ref (m + 2) :: st) (pc + 3)) : V X w k n lv (.ref m :: st) pc := g_get C d fl_Mod_13 hR.2.1 (by rfl) kk
theorem r_f2 (C : Fx X cc "RelaxedRadixVectorModel" nL rm) (d : decode cc pc = .ok (.getfield 17, 3)) (hR : RefW w0 w m R md) (kk : V X w k n lv (.ref (m + 3) :: st) (pc + 3)) : V X w k n lv (.ref m :: st) pc := g_get C d fl_Mod_17 hR.2.1 (by rfl) kk
theorem r_f3 (C : Fx X cc "RelaxedRadixVectorModel" nL rm) (d : decode cc pc = .ok (.getfield 20, 3)) (hR : RefW w0 w m R md) (kk : V X w k n lv (.ref (m + 4) :: st) (pc + 3)) : V X w k n lv (.ref m :: st) pc := g_get C d fl_Mod_20 hR.2.1 (by rfl) kk
theorem r_f4 (C : Fx X cc "RelaxedRadixVectorModel" nL rm) (d : decode cc pc = .ok (.getfield 23, 3)) (hR : RefW w0 w m R md) (kk : V X w k n lv (.ref (m + 5) :: st) (pc + 3)) : V X w k n lv (.ref m :: st) pc := g_get C d fl_Mod_23 hR.2.1 (by rfl) kk
theorem r_f5 (C : Fx X cc "RelaxedRadixVectorModel" nL rm) (d : decode cc pc = .ok (.getfield 26, 3)) (hR : RefW w0 w m R md) (kk : V X w k n lv (.ref (m + 6) :: st) (pc + 3)) : V X w k n lv (.ref m :: st) pc := g_get C d fl_Mod_26 hR.2.1 (by rfl) kk
theorem r_f6 (C : Fx X cc "RelaxedRadixVectorModel" nL rm) (d : decode cc pc = .ok (.getfield 30, 3)) (hR : RefW w0 w m R md) (kk : V X w k n lv (.int (nI md) :: st) (pc + 3)) : V X w k n lv (.ref m :: st) pc := g_get C d fl_Mod_30 hR.2.1 (by rfl) kk
theorem r_f7 (C : Fx X cc "RelaxedRadixVectorModel" nL rm) (d : decode cc pc = .ok (.getfield 34, 3)) (hR : RefW w0 w m R md) (kk : V X w k n lv (.ref (m + 7) :: st) (pc + 3)) : V X w k n lv (.ref m :: st) pc := g_get C d fl_Mod_34 hR.2.1 (by rfl) kk
theorem r_f8 (C : Fx X cc "RelaxedRadixVectorModel" nL rm) (d : decode cc pc = .ok (.getfield 37, 3)) (hR : RefW w0 w m R md) (kk : V X w k n lv (.ref (m + 8) :: st) (pc + 3)) : V X w k n lv (.ref m :: st) pc := g_get C d fl_Mod_37 hR.2.1 (by rfl) kk
theorem r_f9 (C : Fx X cc "RelaxedRadixVectorModel" nL rm) (d : decode cc pc = .ok (.getfield 40, 3)) (hR : RefW w0 w m R md) (kk : V X w k n lv (.ref (m + 9) :: st) (pc + 3)) : V X w k n lv (.ref m :: st) pc := g_get C d fl_Mod_40 hR.2.1 (by rfl) kk
theorem r_f10 (C : Fx X cc "RelaxedRadixVectorModel" nL rm) (d : decode cc pc = .ok (.getfield 43, 3)) (hR : RefW w0 w m R md) (kk : V X w k n lv (.ref (m + 10) :: st) (pc + 3)) : V X w k n lv (.ref m :: st) pc := g_get C d fl_Mod_43 hR.2.1 (by rfl) kk
theorem r_f11 (C : Fx X cc "RelaxedRadixVectorModel" nL rm) (d : decode cc pc = .ok (.getfield 46, 3)) (hR : RefW w0 w m R md) (kk : V X w k n lv (.ref (m + 11) :: st) (pc + 3)) : V X w k n lv (.ref m :: st) pc := g_get C d fl_Mod_46 hR.2.1 (by rfl) kk
theorem r_f12 (C : Fx X cc "RelaxedRadixVectorModel" nL rm) (d : decode cc pc = .ok (.getfield 49, 3)) (hR : RefW w0 w m R md) (kk : V X w k n lv (.ref (m + 12) :: st) (pc + 3)) : V X w k n lv (.ref m :: st) pc := g_get C d fl_Mod_49 hR.2.1 (by rfl) kk
theorem r_f13 (C : Fx X cc "RelaxedRadixVectorModel" nL rm) (d : decode cc pc = .ok (.getfield 52, 3)) (hR : RefW w0 w m R md) (kk : V X w k n lv (.ref (m + 13) :: st) (pc + 3)) : V X w k n lv (.ref m :: st) pc := g_get C d fl_Mod_52 hR.2.1 (by rfl) kk
theorem r_ld0 (C : Fx X cc "RelaxedRadixVectorModel" nL rm) {j : Nat} {v : Int32} (d : decode cc pc = .ok (.iaload, 1)) (hR : RefW w0 w m R md) (hj : j < 3200) (hv : R 0 j = v) (kk : V X w k n lv (.int v :: st) (pc + 1)) : V X w k n lv (.int (nI j) :: .ref (m + 1) :: st) pc := by
  subst hv; exact g_iald C d (N0 := 3200) (f := R 0) (hR.2.2 0 (by decide)) hj (by decide) kk
theorem r_st0 (C : Fx X cc "RelaxedRadixVectorModel" nL rm) {j : Nat} {x : Int32} (d : decode cc pc = .ok (.iastore, 1)) (hR : RefW w0 w m R md) (hj : j < 3200) (kk : ∀ w', RefW w0 w' m (rup R 0 j x) md → V X w' k n lv st (pc + 1)) : V X w k n lv (.int x :: .int (nI j) :: .ref (m + 1) :: st) pc :=
  g_iast C d (N0 := 3200) (f := R 0) (hR.2.2 0 (by decide)) hj (by decide) (kk _ (hR.st (k := 0) (by decide) j x))
theorem r_ld1 (C : Fx X cc "RelaxedRadixVectorModel" nL rm) {j : Nat} {v : Int32} (d : decode cc pc = .ok (.baload, 1)) (hR : RefW w0 w m R md) (hj : j < 12800) (hv : R 1 j = v) (kk : V X w k n lv (.int v :: st) (pc + 1)) : V X w k n lv (.int (nI j) :: .ref (m + 2) :: st) pc := by
  subst hv; exact g_bald C d (N0 := 12800) (f := R 1) (hR.2.2 1 (by decide)) hj (by decide) kk
theorem r_st1 (C : Fx X cc "RelaxedRadixVectorModel" nL rm) {j : Nat} {x : Int32} (d : decode cc pc = .ok (.bastore, 1)) (hR : RefW w0 w m R md) (hj : j < 12800) (kk : ∀ w', RefW w0 w' m (rup R 1 j (vp_nar .byte x)) md → V X w' k n lv st (pc + 1)) : V X w k n lv (.int x :: .int (nI j) :: .ref (m + 2) :: st) pc :=
  g_bast C d (N0 := 12800) (f := R 1) (hR.2.2 1 (by decide)) hj (by decide) (kk _ (hR.st (k := 1) (by decide) j (vp_nar .byte x)))
theorem r_ld2 (C : Fx X cc "RelaxedRadixVectorModel" nL rm) {j : Nat} {v : Int32} (d : decode cc pc = .ok (.iaload, 1)) (hR : RefW w0 w m R md) (hj : j < 40) (hv : R 2 j = v) (kk : V X w k n lv (.int v :: st) (pc + 1)) : V X w k n lv (.int (nI j) :: .ref (m + 3) :: st) pc := by
  subst hv; exact g_iald C d (N0 := 40) (f := R 2) (hR.2.2 2 (by decide)) hj (by decide) kk
theorem r_st2 (C : Fx X cc "RelaxedRadixVectorModel" nL rm) {j : Nat} {x : Int32} (d : decode cc pc = .ok (.iastore, 1)) (hR : RefW w0 w m R md) (hj : j < 40) (kk : ∀ w', RefW w0 w' m (rup R 2 j x) md → V X w' k n lv st (pc + 1)) : V X w k n lv (.int x :: .int (nI j) :: .ref (m + 3) :: st) pc :=
  g_iast C d (N0 := 40) (f := R 2) (hR.2.2 2 (by decide)) hj (by decide) (kk _ (hR.st (k := 2) (by decide) j x))
theorem r_ld3 (C : Fx X cc "RelaxedRadixVectorModel" nL rm) {j : Nat} {v : Int32} (d : decode cc pc = .ok (.iaload, 1)) (hR : RefW w0 w m R md) (hj : j < 40) (hv : R 3 j = v) (kk : V X w k n lv (.int v :: st) (pc + 1)) : V X w k n lv (.int (nI j) :: .ref (m + 4) :: st) pc := by
  subst hv; exact g_iald C d (N0 := 40) (f := R 3) (hR.2.2 3 (by decide)) hj (by decide) kk
theorem r_st3 (C : Fx X cc "RelaxedRadixVectorModel" nL rm) {j : Nat} {x : Int32} (d : decode cc pc = .ok (.iastore, 1)) (hR : RefW w0 w m R md) (hj : j < 40) (kk : ∀ w', RefW w0 w' m (rup R 3 j x) md → V X w' k n lv st (pc + 1)) : V X w k n lv (.int x :: .int (nI j) :: .ref (m + 4) :: st) pc :=
  g_iast C d (N0 := 40) (f := R 3) (hR.2.2 3 (by decide)) hj (by decide) (kk _ (hR.st (k := 3) (by decide) j x))
theorem r_ld4 (C : Fx X cc "RelaxedRadixVectorModel" nL rm) {j : Nat} {v : Int32} (d : decode cc pc = .ok (.iaload, 1)) (hR : RefW w0 w m R md) (hj : j < 200) (hv : R 4 j = v) (kk : V X w k n lv (.int v :: st) (pc + 1)) : V X w k n lv (.int (nI j) :: .ref (m + 5) :: st) pc := by
  subst hv; exact g_iald C d (N0 := 200) (f := R 4) (hR.2.2 4 (by decide)) hj (by decide) kk
theorem r_st4 (C : Fx X cc "RelaxedRadixVectorModel" nL rm) {j : Nat} {x : Int32} (d : decode cc pc = .ok (.iastore, 1)) (hR : RefW w0 w m R md) (hj : j < 200) (kk : ∀ w', RefW w0 w' m (rup R 4 j x) md → V X w' k n lv st (pc + 1)) : V X w k n lv (.int x :: .int (nI j) :: .ref (m + 5) :: st) pc :=
  g_iast C d (N0 := 200) (f := R 4) (hR.2.2 4 (by decide)) hj (by decide) (kk _ (hR.st (k := 4) (by decide) j x))
theorem r_ld5 (C : Fx X cc "RelaxedRadixVectorModel" nL rm) {j : Nat} {v : Int32} (d : decode cc pc = .ok (.baload, 1)) (hR : RefW w0 w m R md) (hj : j < 40) (hv : R 5 j = v) (kk : V X w k n lv (.int v :: st) (pc + 1)) : V X w k n lv (.int (nI j) :: .ref (m + 6) :: st) pc := by
  subst hv; exact g_zald C d (N0 := 40) (f := R 5) (hR.2.2 5 (by decide)) hj (by decide) kk
theorem r_st5 (C : Fx X cc "RelaxedRadixVectorModel" nL rm) {j : Nat} {x : Int32} (d : decode cc pc = .ok (.bastore, 1)) (hR : RefW w0 w m R md) (hj : j < 40) (kk : ∀ w', RefW w0 w' m (rup R 5 j (vp_nar .boolean x)) md → V X w' k n lv st (pc + 1)) : V X w k n lv (.int x :: .int (nI j) :: .ref (m + 6) :: st) pc :=
  g_zast C d (N0 := 40) (f := R 5) (hR.2.2 5 (by decide)) hj (by decide) (kk _ (hR.st (k := 5) (by decide) j (vp_nar .boolean x)))
theorem r_ld6 (C : Fx X cc "RelaxedRadixVectorModel" nL rm) {j : Nat} {v : Int32} (d : decode cc pc = .ok (.iaload, 1)) (hR : RefW w0 w m R md) (hj : j < 240) (hv : R 6 j = v) (kk : V X w k n lv (.int v :: st) (pc + 1)) : V X w k n lv (.int (nI j) :: .ref (m + 7) :: st) pc := by
  subst hv; exact g_iald C d (N0 := 240) (f := R 6) (hR.2.2 6 (by decide)) hj (by decide) kk
theorem r_st6 (C : Fx X cc "RelaxedRadixVectorModel" nL rm) {j : Nat} {x : Int32} (d : decode cc pc = .ok (.iastore, 1)) (hR : RefW w0 w m R md) (hj : j < 240) (kk : ∀ w', RefW w0 w' m (rup R 6 j x) md → V X w' k n lv st (pc + 1)) : V X w k n lv (.int x :: .int (nI j) :: .ref (m + 7) :: st) pc :=
  g_iast C d (N0 := 240) (f := R 6) (hR.2.2 6 (by decide)) hj (by decide) (kk _ (hR.st (k := 6) (by decide) j x))
theorem r_ld7 (C : Fx X cc "RelaxedRadixVectorModel" nL rm) {j : Nat} {v : Int32} (d : decode cc pc = .ok (.iaload, 1)) (hR : RefW w0 w m R md) (hj : j < 1440) (hv : R 7 j = v) (kk : V X w k n lv (.int v :: st) (pc + 1)) : V X w k n lv (.int (nI j) :: .ref (m + 8) :: st) pc := by
  subst hv; exact g_iald C d (N0 := 1440) (f := R 7) (hR.2.2 7 (by decide)) hj (by decide) kk
theorem r_st7 (C : Fx X cc "RelaxedRadixVectorModel" nL rm) {j : Nat} {x : Int32} (d : decode cc pc = .ok (.iastore, 1)) (hR : RefW w0 w m R md) (hj : j < 1440) (kk : ∀ w', RefW w0 w' m (rup R 7 j x) md → V X w' k n lv st (pc + 1)) : V X w k n lv (.int x :: .int (nI j) :: .ref (m + 8) :: st) pc :=
  g_iast C d (N0 := 1440) (f := R 7) (hR.2.2 7 (by decide)) hj (by decide) (kk _ (hR.st (k := 7) (by decide) j x))
theorem r_ld8 (C : Fx X cc "RelaxedRadixVectorModel" nL rm) {j : Nat} {v : Int32} (d : decode cc pc = .ok (.iaload, 1)) (hR : RefW w0 w m R md) (hj : j < 24) (hv : R 8 j = v) (kk : V X w k n lv (.int v :: st) (pc + 1)) : V X w k n lv (.int (nI j) :: .ref (m + 9) :: st) pc := by
  subst hv; exact g_iald C d (N0 := 24) (f := R 8) (hR.2.2 8 (by decide)) hj (by decide) kk
theorem r_st8 (C : Fx X cc "RelaxedRadixVectorModel" nL rm) {j : Nat} {x : Int32} (d : decode cc pc = .ok (.iastore, 1)) (hR : RefW w0 w m R md) (hj : j < 24) (kk : ∀ w', RefW w0 w' m (rup R 8 j x) md → V X w' k n lv st (pc + 1)) : V X w k n lv (.int x :: .int (nI j) :: .ref (m + 9) :: st) pc :=
  g_iast C d (N0 := 24) (f := R 8) (hR.2.2 8 (by decide)) hj (by decide) (kk _ (hR.st (k := 8) (by decide) j x))
theorem r_ld9 (C : Fx X cc "RelaxedRadixVectorModel" nL rm) {j : Nat} {v : Int32} (d : decode cc pc = .ok (.iaload, 1)) (hR : RefW w0 w m R md) (hj : j < 3) (hv : R 9 j = v) (kk : V X w k n lv (.int v :: st) (pc + 1)) : V X w k n lv (.int (nI j) :: .ref (m + 10) :: st) pc := by
  subst hv; exact g_iald C d (N0 := 3) (f := R 9) (hR.2.2 9 (by decide)) hj (by decide) kk
theorem r_st9 (C : Fx X cc "RelaxedRadixVectorModel" nL rm) {j : Nat} {x : Int32} (d : decode cc pc = .ok (.iastore, 1)) (hR : RefW w0 w m R md) (hj : j < 3) (kk : ∀ w', RefW w0 w' m (rup R 9 j x) md → V X w' k n lv st (pc + 1)) : V X w k n lv (.int x :: .int (nI j) :: .ref (m + 10) :: st) pc :=
  g_iast C d (N0 := 3) (f := R 9) (hR.2.2 9 (by decide)) hj (by decide) (kk _ (hR.st (k := 9) (by decide) j x))
theorem r_ld10 (C : Fx X cc "RelaxedRadixVectorModel" nL rm) {j : Nat} {v : Int32} (d : decode cc pc = .ok (.iaload, 1)) (hR : RefW w0 w m R md) (hj : j < 3) (hv : R 10 j = v) (kk : V X w k n lv (.int v :: st) (pc + 1)) : V X w k n lv (.int (nI j) :: .ref (m + 11) :: st) pc := by
  subst hv; exact g_iald C d (N0 := 3) (f := R 10) (hR.2.2 10 (by decide)) hj (by decide) kk
theorem r_st10 (C : Fx X cc "RelaxedRadixVectorModel" nL rm) {j : Nat} {x : Int32} (d : decode cc pc = .ok (.iastore, 1)) (hR : RefW w0 w m R md) (hj : j < 3) (kk : ∀ w', RefW w0 w' m (rup R 10 j x) md → V X w' k n lv st (pc + 1)) : V X w k n lv (.int x :: .int (nI j) :: .ref (m + 11) :: st) pc :=
  g_iast C d (N0 := 3) (f := R 10) (hR.2.2 10 (by decide)) hj (by decide) (kk _ (hR.st (k := 10) (by decide) j x))
theorem r_ld11 (C : Fx X cc "RelaxedRadixVectorModel" nL rm) {j : Nat} {v : Int32} (d : decode cc pc = .ok (.iaload, 1)) (hR : RefW w0 w m R md) (hj : j < 80) (hv : R 11 j = v) (kk : V X w k n lv (.int v :: st) (pc + 1)) : V X w k n lv (.int (nI j) :: .ref (m + 12) :: st) pc := by
  subst hv; exact g_iald C d (N0 := 80) (f := R 11) (hR.2.2 11 (by decide)) hj (by decide) kk
theorem r_st11 (C : Fx X cc "RelaxedRadixVectorModel" nL rm) {j : Nat} {x : Int32} (d : decode cc pc = .ok (.iastore, 1)) (hR : RefW w0 w m R md) (hj : j < 80) (kk : ∀ w', RefW w0 w' m (rup R 11 j x) md → V X w' k n lv st (pc + 1)) : V X w k n lv (.int x :: .int (nI j) :: .ref (m + 12) :: st) pc :=
  g_iast C d (N0 := 80) (f := R 11) (hR.2.2 11 (by decide)) hj (by decide) (kk _ (hR.st (k := 11) (by decide) j x))
theorem r_ld12 (C : Fx X cc "RelaxedRadixVectorModel" nL rm) {j : Nat} {v : Int32} (d : decode cc pc = .ok (.iaload, 1)) (hR : RefW w0 w m R md) (hj : j < 80) (hv : R 12 j = v) (kk : V X w k n lv (.int v :: st) (pc + 1)) : V X w k n lv (.int (nI j) :: .ref (m + 13) :: st) pc := by
  subst hv; exact g_iald C d (N0 := 80) (f := R 12) (hR.2.2 12 (by decide)) hj (by decide) kk
theorem r_st12 (C : Fx X cc "RelaxedRadixVectorModel" nL rm) {j : Nat} {x : Int32} (d : decode cc pc = .ok (.iastore, 1)) (hR : RefW w0 w m R md) (hj : j < 80) (kk : ∀ w', RefW w0 w' m (rup R 12 j x) md → V X w' k n lv st (pc + 1)) : V X w k n lv (.int x :: .int (nI j) :: .ref (m + 13) :: st) pc :=
  g_iast C d (N0 := 80) (f := R 12) (hR.2.2 12 (by decide)) hj (by decide) (kk _ (hR.st (k := 12) (by decide) j x))
end RW
set_option maxRecDepth 100000 in
set_option maxHeartbeats 4000000 in
theorem c_Mod_cell (N : gN) (w : gW) (a l j : Nat) (hl : 1 ≤ l) : CtN N y_Mod_cell b_Mod_cell 3 (some FieldType.int) (rmm 0 0 0 0) [.int (nI a), .int (nI l), .int (nI j)] w (pI (fun r w' => w' = w ∧ r = nI (480 * a + 80 * (l - 1) + j))) 0 0 := by
  refine ct_intro N [some (.int (nI a)), some (.int (nI l)), some (.int (nI j))] (by decide) rfl (Nat.le_of_ble_eq_true rfl) (by simp [Value.category]) ?_
  intro X hX C Rr
  refine g_sipush (v := nI 480) C d_Mod_cell_0 (by decide) ?_
  refine g_ldn C d_Mod_cell_3 rfl ?_
  first | refine g_mulN C d_Mod_cell_4 ?_ | refine g_mul C d_Mod_cell_4 ?_
  refine g_bipush (v := nI 80) C d_Mod_cell_5 (by decide) ?_
  refine g_ldn C d_Mod_cell_7 rfl ?_
  refine g_iconst (v := nI 1) C d_Mod_cell_8 rfl ?_
  first | refine g_subN C d_Mod_cell_9 (by omega) ?_ | refine g_sub C d_Mod_cell_9 ?_
  first | refine g_mulN C d_Mod_cell_10 ?_ | refine g_mul C d_Mod_cell_10 ?_
  first | refine g_addN C d_Mod_cell_11 ?_ | refine g_add C d_Mod_cell_11 ?_
  refine g_ldn C d_Mod_cell_12 rfl ?_
  first | refine g_addN C d_Mod_cell_13 ?_ | refine g_add C d_Mod_cell_13 ?_
  exact g_iret C Rr d_Mod_cell_14 rfl (by decide) (by decide) ⟨_, rfl, rfl, rfl⟩
theorem r_cell {X : gX} {cc : ByteArray} {nL : Nat} {rm : Room} {w : gW} {k n pc : Nat} {lv : List (Option Value)} {st : List Value} (C : Fx X cc "RelaxedRadixVectorModel" nL rm) {a l j : Nat} (d0 : decode cc pc = .ok (.invokestatic 59, 3)) (hl : 1 ≤ l) (hlen : lv.length = nL) (hcat : (st.map fun v => v.category).sum ≤ 8) (r1 : 0 + 1 ≤ rm.frames) (r2 : 8 + (3 + 11) + 0 ≤ rm.locals) (r3 : k + 0 ≤ rm.cells) (r4 : n + 0 ≤ rm.slots) (kk : V X w k n lv (.int (nI (480 * a + 80 * (l - 1) + j)) :: st) (pc + 3)) : V X w k n lv (.int (nI j) :: .int (nI l) :: .int (nI a) :: st) pc := by
  refine g_callS C d0 cw_Mod_59 ss_Mod_cell (c_Mod_cell X.1 w a l j hl) (As := [.int (nI a), .int (nI l), .int (nI j)]) rfl rfl hlen hcat ⟨rfl, rfl, r1, r2⟩ ⟨r3, r4⟩ (kI (fun b w2 h2 => ?_))
  rw [h2.1, h2.2]
  exact kk
/-! what the arrays hold -/
def WE (R : RA) (a : Nat) (L : List Int32) : Prop := R 9 a = nI L.length ∧ L.length ≤ 80 ∧ ∀ i, i < L.length → R 6 (80 * a + i) = gd 0 L i
def WRow (R : RA) (a l : Nat) (Q : List Nat) : Prop := R 8 (8 * a + l) = nI Q.length ∧ Q.length ≤ 80 ∧ ∀ j, j < Q.length → R 7 (480 * a + 80 * (l - 1) + j) = nI (gd 0 Q j)
def WkR (R : RA) (a : Nat) (T : Tr) : Prop := WE R a T.1 ∧ R 10 a = nI T.2.2 ∧ ∀ l, 1 ≤ l → l ≤ 6 → WRow R a l (T.2.1 l)
def VRow (R : RA) (v l : Nat) (Q : List Nat) : Prop := R 4 (5 * v + l) = nI Q.length ∧ ∀ j, j < Q.length → R 1 (320 * v + 80 * (l - 1) + j) = nI (gd 0 Q j)
def VerR (R : RA) (v : Nat) (T : Tr) : Prop := R 2 v = nI T.1.length ∧ (∀ i, i < T.1.length → R 0 (80 * v + i) = gd 0 T.1 i) ∧ R 3 v = nI T.2.2 ∧ ∀ l, 1 ≤ l → l ≤ 4 → VRow R v l (T.2.1 l)
/-- what a step may reach: a row of a working tree; a working tree -/
def LA (a l k j : Nat) : Prop := (k = 7 ∧ 480 * a + 80 * (l - 1) ≤ j ∧ j < 480 * a + 80 * (l - 1) + 80) ∨ (k = 8 ∧ j = 8 * a + l)
def WA (a k j : Nat) : Prop := k = 11 ∨ k = 12 ∨ (k = 6 ∧ 80 * a ≤ j ∧ j < 80 * a + 80) ∨ (k = 7 ∧ 480 * a ≤ j ∧ j < 480 * a + 480) ∨ (k = 8 ∧ 8 * a ≤ j ∧ j < 8 * a + 8) ∨ (k = 9 ∧ j = a) ∨ (k = 10 ∧ j = a)
def FrL (a l : Nat) (R R' : RA) : Prop := ∀ k j, ¬ LA a l k j → R' k j = R k j
def FrW (a : Nat) (R R' : RA) : Prop := ∀ k j, ¬ WA a k j → R' k j = R k j
theorem FrL.rf {a l : Nat} {R : RA} : FrL a l R R := fun _ _ _ => rfl
theorem FrL.trans {a l : Nat} {R R1 R2 : RA} (h1 : FrL a l R R1) (h2 : FrL a l R1 R2) : FrL a l R R2 := fun k j h => (h2 k j h).trans (h1 k j h)
theorem FrL.up {a l k j : Nat} {R R1 : RA} {x : Int32} (h1 : FrL a l R R1) (h : LA a l k j) : FrL a l R (rup R1 k j x) := fun k' j' h' => (rupn (fun z => h' (by rw [z.1, z.2]; exact h))).trans (h1 k' j' h')
theorem FrW.rf {a : Nat} {R : RA} : FrW a R R := fun _ _ _ => rfl
theorem FrW.trans {a : Nat} {R R1 R2 : RA} (h1 : FrW a R R1) (h2 : FrW a R1 R2) : FrW a R R2 := fun k j h => (h2 k j h).trans (h1 k j h)
theorem FrW.up {a k j : Nat} {R R1 : RA} {x : Int32} (h1 : FrW a R R1) (h : WA a k j) : FrW a R (rup R1 k j x) := fun k' j' h' => (rupn (fun z => h' (by rw [z.1, z.2]; exact h))).trans (h1 k' j' h')
theorem FrL.w {a l : Nat} {R R' : RA} (h : FrL a l R R') (h1 : 1 ≤ l) (h2 : l ≤ 6) : FrW a R R' := fun k j hn => h k j (fun z => hn (by unfold LA at z; unfold WA; omega))
theorem WRow.fr {R R' : RA} {a l : Nat} {Q : List Nat} (h : WRow R a l Q) (h8 : R' 8 (8 * a + l) = R 8 (8 * a + l)) (h7 : ∀ j, j < 80 → R' 7 (480 * a + 80 * (l - 1) + j) = R 7 (480 * a + 80 * (l - 1) + j)) : WRow R' a l Q :=
  ⟨h8.trans h.1, h.2.1, fun j hj => (h7 j (by have := h.2.1; omega)).trans (h.2.2 j hj)⟩
theorem WRow.frL {R R' : RA} {a l a' l' : Nat} {Q : List Nat} (h : WRow R a l Q) (hF : FrL a' l' R R') (h1 : 1 ≤ l) (h2 : l ≤ 6) (h3 : 1 ≤ l') (h4 : l' ≤ 6) (hd : a ≠ a' ∨ l ≠ l') : WRow R' a l Q :=
  h.fr (hF _ _ (by unfold LA; omega)) (fun j hj => hF _ _ (by unfold LA; omega))
theorem WE.frL {R R' : RA} {a a' l' : Nat} {L : List Int32} (h : WE R a L) (hF : FrL a' l' R R') : WE R' a L :=
  ⟨(hF _ _ (by unfold LA; omega)).trans h.1, h.2.1, fun i hi => (hF _ _ (by unfold LA; omega)).trans (h.2.2 i hi)⟩
theorem WkR.frW {R R' : RA} {a a' : Nat} {T : Tr} (h : WkR R a T) (hF : FrW a' R R') (hd : a ≠ a') : WkR R' a T := by
  obtain ⟨⟨h1, h2, h3⟩, h4, h5⟩ := h
  exact ⟨⟨(hF _ _ (by unfold WA; omega)).trans h1, h2, fun i hi => (hF _ _ (by unfold WA; omega)).trans (h3 i hi)⟩, (hF _ _ (by unfold WA; omega)).trans h4, fun l l1 l6 => (h5 l l1 l6).fr (hF _ _ (by unfold WA; omega)) (fun j hj => hF _ _ (by unfold WA; omega))⟩
theorem VerR.fr {R R' : RA} {v : Nat} {T : Tr} (h : VerR R v T) (hF : ∀ k j, k < 5 → R' k j = R k j) : VerR R' v T := by
  obtain ⟨h1, h2, h3, h4⟩ := h
  exact ⟨(hF _ _ (by omega)).trans h1, fun i hi => (hF _ _ (by omega)).trans (h2 i hi), (hF _ _ (by omega)).trans h3, fun l l1 l4 => ⟨(hF _ _ (by omega)).trans (h4 l l1 l4).1, fun j hj => (hF _ _ (by omega)).trans ((h4 l l1 l4).2 j hj)⟩⟩
theorem FrW.ver {a : Nat} {R R' : RA} (h : FrW a R R') : ∀ k j, k < 6 → R' k j = R k j := fun k j hk => h k j (by unfold WA; omega)
def insL (Q : List Nat) (p y : Nat) : List Nat := Q.take p ++ y :: Q.drop p
theorem insL_len {Q : List Nat} {p y : Nat} (h : p ≤ Q.length) : (insL Q p y).length = Q.length + 1 := by unfold insL; simp; omega
theorem insL_gd {Q : List Nat} {p y i : Nat} (h : p ≤ Q.length) : gd 0 (insL Q p y) i = if i < p then gd 0 Q i else if i = p then y else gd 0 Q (i - 1) := by
  unfold insL
  by_cases h1 : i < p
  · rw [if_pos h1, gd_l (by simp; omega), gd_take h1]
  · rw [if_neg h1, gd_r (by simp; omega)]
    simp only [List.length_take, Nat.min_eq_left h]
    by_cases h2 : i = p
    · rw [if_pos h2, h2, Nat.sub_self, gd_0]
    · rw [if_neg h2, show i - p = (i - p - 1) + 1 by omega, gd_s, gd_drop]
      congr 1; omega
set_option maxRecDepth 100000 in
set_option maxHeartbeats 4000000 in
theorem c_Mod_enter (N : gN) (w0 w : gW) (m : Nat) (R : RA) (md : Nat) (a l p y : Nat) (Q : List Nat) (ha : a < 3) (hl : 1 ≤ l) (hl6 : l ≤ 6) (hp : p ≤ Q.length) (hQ : Q.length < 80) (hR : RefW w0 w m R md) (hW : WRow R a l Q) : CtN N y_Mod_enter b_Mod_enter 7 none (rmm 1 22 0 0) [.ref m, .int (nI a), .int (nI l), .int (nI p), .int (nI y)] w (pV (fun w' => ∃ R', RefW w0 w' m R' md ∧ WRow R' a l (insL Q p y) ∧ FrL a l R R')) 0 0 := by
  refine ct_intro N [some (.ref m), some (.int (nI a)), some (.int (nI l)), some (.int (nI p)), some (.int (nI y)), none, none] (by decide) rfl (Nat.le_of_ble_eq_true rfl) (by simp [Value.category]) ?_
  intro X hX C Rr
  have hQl := insL_len (y := y) hp
  have loop : ∀ e i w1 R1, i = p + e → i ≤ Q.length → RefW w0 w1 m R1 md → FrL a l R R1 → R1 8 (8 * a + l) = nI Q.length → (∀ j, j < Q.length + 1 → j ≠ i → R1 7 (480 * a + 80 * (l - 1) + j) = nI (gd 0 Q (if i < j then j - 1 else j))) → V X w1 0 0 [some (.ref m), some (.int (nI a)), some (.int (nI l)), some (.int (nI p)), some (.int (nI y)), some (.int (nI Q.length)), some (.int (nI i))] [] 17 := by
    intro e
    induction e with
    | zero =>
      intro i w R1 hi hiQ hR hF h8 h7
      refine g_ld C d_Mod_enter_17 rfl ?_
      refine g_ldn C d_Mod_enter_19 rfl ?_
      refine g_icmp_le C 55 d_Mod_enter_20 (by decide) (by first | exact nI_toInt (by omega) | rfl) (by first | exact nI_toInt (by omega) | rfl) (fun b20 => ?_) (fun b20 => ?_)
      · refine g_aldn C d_Mod_enter_55 rfl ?_
        refine r_f8 C d_Mod_enter_56 hR ?_
        refine g_ldn C d_Mod_enter_59 rfl ?_
        refine g_ldn C d_Mod_enter_60 rfl ?_
        refine g_ldn C d_Mod_enter_61 rfl ?_
        refine r_cell C d_Mod_enter_62 (by omega) rfl (Nat.le_of_ble_eq_true rfl) (by decide) (by decide) (by decide) (by decide) ?_
        refine g_ld C d_Mod_enter_65 rfl ?_
        refine r_st7 C d_Mod_enter_67 hR (by omega) (fun w hR => ?_)
        refine g_aldn C d_Mod_enter_68 rfl ?_
        refine r_f9 C d_Mod_enter_69 hR ?_
        refine g_bipush (v := nI 8) C d_Mod_enter_72 (by decide) ?_
        refine g_ldn C d_Mod_enter_74 rfl ?_
        first | refine g_mulN C d_Mod_enter_75 ?_ | refine g_mul C d_Mod_enter_75 ?_
        refine g_ldn C d_Mod_enter_76 rfl ?_
        first | refine g_addN C d_Mod_enter_77 ?_ | refine g_add C d_Mod_enter_77 ?_
        refine g_ld C d_Mod_enter_78 rfl ?_
        refine g_iconst (v := nI 1) C d_Mod_enter_80 rfl ?_
        first | refine g_addN C d_Mod_enter_81 ?_ | refine g_add C d_Mod_enter_81 ?_
        refine r_st8 C d_Mod_enter_82 hR (by omega) (fun w hR => ?_)
        refine g_vret C Rr d_Mod_enter_83 (by decide) (by decide) ⟨rfl, _, hR, ⟨?_, by omega, fun j hj => ?_⟩, (hF.up (by unfold LA; omega)).up (by unfold LA; omega)⟩
        · rw [rups, hQl]
        · rw [rupn (by omega), insL_gd hp]
          by_cases e1 : j = p
          · rw [e1, if_neg (by omega), if_pos rfl]; exact rups
          · rw [rupn (by omega), h7 j (by omega) (by omega)]
            by_cases e2 : j < p
            · rw [if_pos e2, if_neg (by omega)]
            · rw [if_neg e2, if_neg e1, if_pos (by omega)]
      · exfalso; omega
    | succ e ih =>
      intro i w R1 hi hiQ hR hF h8 h7
      refine g_ld C d_Mod_enter_17 rfl ?_
      refine g_ldn C d_Mod_enter_19 rfl ?_
      refine g_icmp_le C 55 d_Mod_enter_20 (by decide) (by first | exact nI_toInt (by omega) | rfl) (by first | exact nI_toInt (by omega) | rfl) (fun b20 => ?_) (fun b20 => ?_)
      · exfalso; omega
      · refine g_aldn C d_Mod_enter_23 rfl ?_
        refine r_f8 C d_Mod_enter_24 hR ?_
        refine g_ldn C d_Mod_enter_27 rfl ?_
        refine g_ldn C d_Mod_enter_28 rfl ?_
        refine g_ld C d_Mod_enter_29 rfl ?_
        refine r_cell C d_Mod_enter_31 (by omega) rfl (Nat.le_of_ble_eq_true rfl) (by decide) (by decide) (by decide) (by decide) ?_
        refine g_aldn C d_Mod_enter_34 rfl ?_
        refine r_f8 C d_Mod_enter_35 hR ?_
        refine g_ldn C d_Mod_enter_38 rfl ?_
        refine g_ldn C d_Mod_enter_39 rfl ?_
        refine g_ld C d_Mod_enter_40 rfl ?_
        refine g_iconst (v := nI 1) C d_Mod_enter_42 rfl ?_
        first | refine g_subN C d_Mod_enter_43 (by omega) ?_ | refine g_sub C d_Mod_enter_43 ?_
        refine r_cell C d_Mod_enter_44 (by omega) rfl (Nat.le_of_ble_eq_true rfl) (by decide) (by decide) (by decide) (by decide) ?_
        refine r_ld7 C d_Mod_enter_47 hR (by omega) (h7 (i - 1) (by omega) (by omega)) ?_
        refine r_st7 C d_Mod_enter_48 hR (by omega) (fun w hR => ?_)
        refine g_decN C [_, _, _, _, _, _, _] d_Mod_enter_49 rfl (by omega) rfl ?_
        refine g_goto C 17 d_Mod_enter_52 (by decide) ?_
        refine ih (i - 1) _ _ (by omega) (by omega) hR (hF.up (by unfold LA; omega)) ((rupn (by omega)).trans h8) (fun j hj hne => ?_)
        by_cases e1 : j = i
        · rw [e1, rups, if_neg (by omega), if_pos (by omega)]
        · rw [rupn (by omega), h7 j hj e1]
          by_cases e2 : i < j
          · rw [if_pos e2, if_pos (by omega)]
          · rw [if_neg e2, if_neg (by omega)]
  refine g_aldn C d_Mod_enter_0 rfl ?_
  refine r_f9 C d_Mod_enter_1 hR ?_
  refine g_bipush (v := nI 8) C d_Mod_enter_4 (by decide) ?_
  refine g_ldn C d_Mod_enter_6 rfl ?_
  first | refine g_mulN C d_Mod_enter_7 ?_ | refine g_mul C d_Mod_enter_7 ?_
  refine g_ldn C d_Mod_enter_8 rfl ?_
  first | refine g_addN C d_Mod_enter_9 ?_ | refine g_add C d_Mod_enter_9 ?_
  refine r_ld8 C d_Mod_enter_10 hR (by omega) hW.1 ?_
  refine g_st C [_, _, _, _, _, _, _] d_Mod_enter_11 (Nat.le_of_ble_eq_true rfl) rfl ?_
  refine g_ld C d_Mod_enter_13 rfl ?_
  refine g_st C [_, _, _, _, _, _, _] d_Mod_enter_15 (Nat.le_of_ble_eq_true rfl) rfl ?_
  exact loop (Q.length - p) Q.length w R (by omega) (by omega) hR FrL.rf hW.1 (fun j hj hne => by rw [if_neg (by omega)]; exact hW.2.2 j (by omega))
set_option maxRecDepth 100000 in
set_option maxHeartbeats 4000000 in
theorem c_Mod_leave (N : gN) (w0 w : gW) (m : Nat) (R : RA) (md : Nat) (a l p : Nat) (Q : List Nat) (ha : a < 3) (hl : 1 ≤ l) (hl6 : l ≤ 6) (hp : p < Q.length) (hR : RefW w0 w m R md) (hW : WRow R a l Q) : CtN N y_Mod_leave b_Mod_leave 6 none (rmm 1 22 0 0) [.ref m, .int (nI a), .int (nI l), .int (nI p)] w (pV (fun w' => ∃ R', RefW w0 w' m R' md ∧ WRow R' a l (Q.eraseIdx p) ∧ FrL a l R R')) 0 0 := by
  refine ct_intro N [some (.ref m), some (.int (nI a)), some (.int (nI l)), some (.int (nI p)), none, none] (by decide) rfl (Nat.le_of_ble_eq_true rfl) (by simp [Value.category]) ?_
  intro X hX C Rr
  have hQl := hW.2.1
  have loop : ∀ i, i ≤ Q.length - 1 → ∀ w1 R1, p ≤ i → RefW w0 w1 m R1 md → FrL a l R R1 → (∀ j, j < Q.length → R1 7 (480 * a + 80 * (l - 1) + j) = nI (gd 0 Q (if p ≤ j ∧ j < i then j + 1 else j))) → V X w1 0 0 [some (.ref m), some (.int (nI a)), some (.int (nI l)), some (.int (nI p)), some (.int (nI (Q.length - 1))), some (.int (nI i))] [] 18 := by
    refine upto _ (fun i hi ih w R1 hpi hR hF h7 => ?_)
    refine g_ld C d_Mod_leave_18 rfl ?_
    refine g_ld C d_Mod_leave_20 rfl ?_
    refine g_icmp_ge C 57 d_Mod_leave_22 (by decide) (by first | exact nI_toInt (by omega) | rfl) (by first | exact nI_toInt (by omega) | rfl) (fun b22 => ?_) (fun b22 => ?_)
    · refine g_aldn C d_Mod_leave_57 rfl ?_
      refine r_f9 C d_Mod_leave_58 hR ?_
      refine g_bipush (v := nI 8) C d_Mod_leave_61 (by decide) ?_
      refine g_ldn C d_Mod_leave_63 rfl ?_
      first | refine g_mulN C d_Mod_leave_64 ?_ | refine g_mul C d_Mod_leave_64 ?_
      refine g_ldn C d_Mod_leave_65 rfl ?_
      first | refine g_addN C d_Mod_leave_66 ?_ | refine g_add C d_Mod_leave_66 ?_
      refine g_ld C d_Mod_leave_67 rfl ?_
      refine r_st8 C d_Mod_leave_69 hR (by omega) (fun w hR => ?_)
      refine g_vret C Rr d_Mod_leave_70 (by decide) (by decide) ⟨rfl, _, hR, ⟨?_, ?_, fun j hj => ?_⟩, hF.up (by unfold LA; omega)⟩
      · rw [rups, List.length_eraseIdx, if_pos hp]
      · rw [List.length_eraseIdx, if_pos hp]; omega
      · rw [List.length_eraseIdx, if_pos hp] at hj
        rw [rupn (by omega), h7 j (by omega), gd_erase]
        by_cases e1 : j < p
        · rw [if_pos e1, if_neg (by omega)]
        · rw [if_neg e1, if_pos (by omega)]
    · refine g_aldn C d_Mod_leave_25 rfl ?_
      refine r_f8 C d_Mod_leave_26 hR ?_
      refine g_ldn C d_Mod_leave_29 rfl ?_
      refine g_ldn C d_Mod_leave_30 rfl ?_
      refine g_ld C d_Mod_leave_31 rfl ?_
      refine r_cell C d_Mod_leave_33 (by omega) rfl (Nat.le_of_ble_eq_true rfl) (by decide) (by decide) (by decide) (by decide) ?_
      refine g_aldn C d_Mod_leave_36 rfl ?_
      refine r_f8 C d_Mod_leave_37 hR ?_
      refine g_ldn C d_Mod_leave_40 rfl ?_
      refine g_ldn C d_Mod_leave_41 rfl ?_
      refine g_ld C d_Mod_leave_42 rfl ?_
      refine g_iconst (v := nI 1) C d_Mod_leave_44 rfl ?_
      first | refine g_addN C d_Mod_leave_45 ?_ | refine g_add C d_Mod_leave_45 ?_
      refine r_cell C d_Mod_leave_46 (by omega) rfl (Nat.le_of_ble_eq_true rfl) (by decide) (by decide) (by decide) (by decide) ?_
      refine r_ld7 C d_Mod_leave_49 hR (by omega) (h7 (i + 1) (by omega)) ?_
      refine r_st7 C d_Mod_leave_50 hR (by omega) (fun w hR => ?_)
      refine g_incN C [_, _, _, _, _, _] d_Mod_leave_51 rfl rfl ?_
      refine g_goto C 18 d_Mod_leave_54 (by decide) ?_
      refine ih (i + 1) (by omega) (by omega) _ _ (by omega) hR (hF.up (by unfold LA; omega)) (fun j hj => ?_)
      by_cases e1 : j = i
      · rw [e1, rups, if_neg (by omega), if_pos (by omega)]
      · rw [rupn (by omega), h7 j hj]
        by_cases e2 : p ≤ j ∧ j < i
        · rw [if_pos e2, if_pos (by omega)]
        · rw [if_neg e2, if_neg (by omega)]
  refine g_aldn C d_Mod_leave_0 rfl ?_
  refine r_f9 C d_Mod_leave_1 hR ?_
  refine g_bipush (v := nI 8) C d_Mod_leave_4 (by decide) ?_
  refine g_ldn C d_Mod_leave_6 rfl ?_
  first | refine g_mulN C d_Mod_leave_7 ?_ | refine g_mul C d_Mod_leave_7 ?_
  refine g_ldn C d_Mod_leave_8 rfl ?_
  first | refine g_addN C d_Mod_leave_9 ?_ | refine g_add C d_Mod_leave_9 ?_
  refine r_ld8 C d_Mod_leave_10 hR (by omega) hW.1 ?_
  refine g_iconst (v := nI 1) C d_Mod_leave_11 rfl ?_
  first | refine g_subN C d_Mod_leave_12 (by omega) ?_ | refine g_sub C d_Mod_leave_12 ?_
  refine g_st C [_, _, _, _, _, _] d_Mod_leave_13 (Nat.le_of_ble_eq_true rfl) rfl ?_
  refine g_ldn C d_Mod_leave_15 rfl ?_
  refine g_st C [_, _, _, _, _, _] d_Mod_leave_16 (Nat.le_of_ble_eq_true rfl) rfl ?_
  exact loop p (by omega) w R (by omega) hR FrL.rf (fun j hj => by rw [if_neg (by omega)]; exact hW.2.2 j hj)
