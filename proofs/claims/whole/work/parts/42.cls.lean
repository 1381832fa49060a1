/-! THE CLASS: its state, its private tests, keeping a result. -/
abbrev S_ (S : St) (i : Nat) : Tr × Bool := gd (T0, false) S i
def ClsV (w : gW) (x : Nat) (S : St) (ed : Nat) (ts : List Nat) (O : Nat → Int32) : Prop :=
  w.1 x = some (.inr (kCls, [.ref (x + 1), .ref (x + 19), .ref (x + 20), .ref (x + 36), .ref (x + 52)])) ∧ ALV w (x + 1) ed ts ∧ w.1 (x + 19) = some (.inl (2, 40, .inl O)) ∧
  ((∃ rs h, TreeV w (x + 20) rs h) ∧ (∃ rs h, TreeV w (x + 36) rs h) ∧ ∃ rs h, TreeV w (x + 52) rs h) ∧ (ts.length = S.length ∧ okS S) ∧
  (∀ i, i < S.length → TreeV w (gd 0 ts i) (trs (S_ S i).1) (S_ S i).1.2.2) ∧
  ((∀ i, i < S.length → O i = if (S_ S i).2 = true then nI 1 else nI 0) ∧ ∀ i, S.length ≤ i → O i = nI 0) ∧
  (∀ i, i < S.length → x + 2 ≤ gd 0 ts i ∧ (gd 0 ts i + 16 ≤ x + 18 ∨ x + 82 ≤ gd 0 ts i) ∧ gd 0 ts i + 16 ≤ w.2) ∧
  (∀ i j, i < j → j < S.length → gd 0 ts i + 16 ≤ gd 0 ts j) ∧
  ((ed = x + 18 ∨ x + 82 ≤ ed) ∧ ed < w.2 ∧ (∀ i, i < S.length → ed < gd 0 ts i ∨ gd 0 ts i + 16 ≤ ed) ∧ x + 82 ≤ w.2)
theorem vOk_n {S : St} {v : Int32} (h : v.toInt < 0) : ¬ vOk S v := fun z => by have := z.1; omega
theorem vOk_N {S : St} {a : Nat} (h : a < 2 ^ 31) : vOk S (nI a) ↔ a < S.length := by
  have := nI_toInt h
  constructor
  · intro z; have := z.2; omega
  · intro z; exact ⟨by omega, by omega⟩
theorem vOk_ex {S : St} {v : Int32} (h : vOk S v) : ∃ a : Nat, a < S.length ∧ v = nI a := by
  rcases i32_sgn v with hv | ⟨a, ha, rfl⟩
  · exact absurd h (vOk_n hv)
  · exact ⟨a, (vOk_N ha).mp h, rfl⟩
theorem vO_N {S : St} {a : Nat} (h : a < 2 ^ 31) : vO S (nI a) = (S_ S a).2 := by unfold vO; rw [nI_toInt h]; rfl
theorem vT_N {S : St} {a : Nat} (h : a < 2 ^ 31) : vT S (nI a) = (S_ S a).1 := by unfold vT; rw [nI_toInt h]; rfl
theorem plc_ex {S : St} {v i : Int32} (h : plc S v i) : ∃ b : Nat, b < (vT S v).1.length ∧ i = nI b := by
  rcases i32_sgn i with hv | ⟨b, hb, rfl⟩
  · have := h.1; omega
  · have := h.2; rw [nI_toInt hb] at this; exact ⟨b, by omega, rfl⟩
theorem ClsV.wf {w : gW} {x : Nat} {S : St} {ed : Nat} {ts : List Nat} {O : Nat → Int32} (h : ClsV w x S ed ts O) {a : Nat} (ha : a < S.length) : wfT 4 (S_ S a).1 := by
  obtain ⟨c0, cA, cO, cs, ⟨cl, ck⟩, cT, cf, cg, cm, cd⟩ := h
  exact ck.2.2 _ (gd_mem ha)
theorem ClsV.tree {w : gW} {x : Nat} {S : St} {ed : Nat} {ts : List Nat} {O : Nat → Int32} (h : ClsV w x S ed ts O) {a : Nat} (ha : a < S.length) : TreeV w (gd 0 ts a) (trs (S_ S a).1) (S_ S a).1.2.2 := by
  obtain ⟨c0, cA, cO, cs, ⟨cl, ck⟩, cT, cf, cg, cm, cd⟩ := h
  exact cT a ha
theorem ClsV.geo {w : gW} {x : Nat} {S : St} {ed : Nat} {ts : List Nat} {O : Nat → Int32} (h : ClsV w x S ed ts O) {a : Nat} (ha : a < S.length) : x + 2 ≤ gd 0 ts a ∧ (gd 0 ts a + 16 ≤ x + 18 ∨ x + 82 ≤ gd 0 ts a) ∧ gd 0 ts a + 16 ≤ w.2 := by
  obtain ⟨c0, cA, cO, cs, ⟨cl, ck⟩, cT, cf, cg, cm, cd⟩ := h
  exact cg a ha
theorem ClsV.size {w : gW} {x : Nat} {S : St} {ed : Nat} {ts : List Nat} {O : Nat → Int32} (h : ClsV w x S ed ts O) : ts.length = S.length ∧ 1 ≤ S.length ∧ S.length ≤ 40 ∧ x + 82 ≤ w.2 := by
  obtain ⟨c0, cA, cO, cs, ⟨cl, ck⟩, cT, cf, cg, cm, cd⟩ := h
  exact ⟨cl, ck.1, ck.2.1, cd.2.2.2⟩
/-- a scratch tree changed -/
theorem ClsV.scr {w w' : gW} {x : Nat} {S : St} {ed : Nat} {ts : List Nat} {O : Nat → Int32} (hC : ClsV w x S ed ts O) {t h : Nat} {rs : Nat → List Int32} (ht : t = x + 20 ∨ t = x + 36 ∨ t = x + 52) (hS : Sm w w' t (t + 16)) (hT : TreeV w' t rs h) : ClsV w' x S ed ts O := by
  obtain ⟨c0, cA, cO, ⟨⟨rs1, h1, cs1⟩, ⟨rs2, h2, cs2⟩, ⟨rs3, h3, cs3⟩⟩, ⟨cl, ck⟩, cT, cf, cg, cm, ⟨cd, cz, ce, cx⟩⟩ := hC
  refine ⟨(hS.2 x (by omega)).trans c0, cA.fr (hS.2 _ (by omega)) (hS.2 _ (by omega)), (hS.2 _ (by omega)).trans cO, ?_, ⟨cl, ck⟩, fun i hi => (cT i hi).sm hS (by have := cg i hi; omega), cf, fun i hi => ?_, cm, ⟨cd, by rw [hS.1]; exact cz, ce, by rw [hS.1]; exact cx⟩⟩
  · rcases ht with rfl | rfl | rfl
    · exact ⟨⟨_, _, hT⟩, ⟨_, _, cs2.sm hS (by omega)⟩, ⟨_, _, cs3.sm hS (by omega)⟩⟩
    · exact ⟨⟨_, _, cs1.sm hS (by omega)⟩, ⟨_, _, hT⟩, ⟨_, _, cs3.sm hS (by omega)⟩⟩
    · exact ⟨⟨_, _, cs1.sm hS (by omega)⟩, ⟨_, _, cs2.sm hS (by omega)⟩, ⟨_, _, hT⟩⟩
  · rw [hS.1]; exact cg i hi
theorem gd_setS {S : St} {a i : Nat} {q : Tr × Bool} (ha : a < S.length) : S_ (S.set a q) i = if i = a then q else S_ S i := gd_set ha
theorem okS_set {S : St} {a : Nat} {T : Tr} {b : Bool} (h : okS S) (hT : wfT 4 T) : okS (S.set a (T, b)) := by
  refine ⟨by rw [List.length_set]; exact h.1, by rw [List.length_set]; exact h.2.1, fun q hq => ?_⟩
  rcases List.mem_or_eq_of_mem_set hq with h1 | h1
  · exact h.2.2 q h1
  · rw [h1]; exact hT
/-- a version's tree changed -/
theorem ClsV.ver {w w' : gW} {x : Nat} {S : St} {ed : Nat} {ts : List Nat} {O : Nat → Int32} (hC : ClsV w x S ed ts O) {a : Nat} (ha : a < S.length) {T : Tr} {b : Bool} (hb : b = (S_ S a).2) (hw : wfT 4 T) (hS : Sm w w' (gd 0 ts a) (gd 0 ts a + 16)) (hT : TreeV w' (gd 0 ts a) (trs T) T.2.2) : ClsV w' x (S.set a (T, b)) ed ts O := by
  obtain ⟨c0, cA, cO, ⟨⟨rs1, h1, cs1⟩, ⟨rs2, h2, cs2⟩, ⟨rs3, h3, cs3⟩⟩, ⟨cl, ck⟩, cT, cf, cg, cm, ⟨cd, cz, ce, cx⟩⟩ := hC
  have ga := cg a ha
  have ea := ce a ha
  refine ⟨(hS.2 x (by omega)).trans c0, cA.fr (hS.2 _ (by omega)) (hS.2 _ (by omega)), (hS.2 _ (by omega)).trans cO, ⟨⟨_, _, cs1.sm hS (by omega)⟩, ⟨_, _, cs2.sm hS (by omega)⟩, ⟨_, _, cs3.sm hS (by omega)⟩⟩, ⟨by rw [List.length_set]; exact cl, okS_set ck hw⟩, fun i hi => ?_, ⟨fun i hi => ?_, fun i hi => ?_⟩, fun i hi => ?_, fun i j hij hj => ?_, ⟨cd, by rw [hS.1]; exact cz, fun i hi => ?_, by rw [hS.1]; exact cx⟩⟩
  · rw [List.length_set] at hi
    rw [gd_setS ha]
    by_cases e : i = a
    · subst e; rw [if_pos rfl]; exact hT
    · rw [if_neg e]
      refine (cT i hi).sm hS ?_
      rcases Nat.lt_or_ge i a with l | l
      · have := cm i a l ha; omega
      · have := cm a i (by omega) hi; omega
  · rw [List.length_set] at hi
    rw [gd_setS ha]
    by_cases e : i = a
    · subst e; rw [if_pos rfl, cf.1 i hi, hb]
    · rw [if_neg e, cf.1 i hi]
  · rw [List.length_set] at hi; exact cf.2 i hi
  · rw [List.length_set] at hi; rw [hS.1]; exact cg i hi
  · rw [List.length_set] at hj; exact cm i j hij hj
  · rw [List.length_set] at hi; exact ce i hi
/-- a version's flag changed -/
theorem ClsV.flag {w : gW} {x : Nat} {S : St} {ed : Nat} {ts : List Nat} {O : Nat → Int32} (hC : ClsV w x S ed ts O) {a : Nat} (ha : a < S.length) {b : Bool} {y : Int32} (hy : y = if b = true then nI 1 else nI 0) : ClsV (gset w (x + 19) (.inl (2, 40, .inl (upd O a y)))) x (S.set a ((S_ S a).1, b)) ed ts (upd O a y) := by
  have hwf := hC.wf ha
  obtain ⟨c0, cA, cO, ⟨⟨rs1, h1, cs1⟩, ⟨rs2, h2, cs2⟩, ⟨rs3, h3, cs3⟩⟩, ⟨cl, ck⟩, cT, cf, cg, cm, ⟨cd, cz, ce, cx⟩⟩ := hC
  have hS : Sm w (gset w (x + 19) (.inl (2, 40, .inl (upd O a y)))) (x + 19) (x + 20) := Sm.set (by omega) (by omega)
  refine ⟨(hS.2 x (by omega)).trans c0, cA.fr (hS.2 _ (by omega)) (hS.2 _ (by omega)), gset_self _ _ _, ⟨⟨_, _, cs1.sm hS (by omega)⟩, ⟨_, _, cs2.sm hS (by omega)⟩, ⟨_, _, cs3.sm hS (by omega)⟩⟩, ⟨by rw [List.length_set]; exact cl, okS_set ck hwf⟩, fun i hi => ?_, ⟨fun i hi => ?_, fun i hi => ?_⟩, fun i hi => ?_, fun i j hij hj => ?_, ⟨cd, by rw [hS.1]; exact cz, fun i hi => ?_, by rw [hS.1]; exact cx⟩⟩
  · rw [List.length_set] at hi
    have gi := cg i hi
    rw [gd_setS ha]
    by_cases e : i = a
    · subst e; rw [if_pos rfl]; exact (cT i hi).sm hS (by omega)
    · rw [if_neg e]; exact (cT i hi).sm hS (by omega)
  · rw [List.length_set] at hi
    rw [gd_setS ha]
    unfold upd
    by_cases e : i = a
    · rw [if_pos e, if_pos e, hy]
    · rw [if_neg e, if_neg e, cf.1 i hi]
  · rw [List.length_set] at hi
    unfold upd
    rw [if_neg (by omega)]
    exact cf.2 i hi
  · rw [List.length_set] at hi; rw [hS.1]; exact cg i hi
  · rw [List.length_set] at hj; exact cm i j hij hj
  · rw [List.length_set] at hi; exact ce i hi
def Fr (w w' : gW) (x : Nat) : Prop := w.2 ≤ w'.2 ∧ ∀ p : Nat, p < x ∨ (x + 68 ≤ p ∧ p < x + 82) → w'.1 p = w.1 p
theorem Fr.rf {w : gW} {x : Nat} : Fr w w x := ⟨Nat.le_refl _, fun _ _ => rfl⟩
theorem Fr.trans {w w1 w2 : gW} {x : Nat} (h1 : Fr w w1 x) (h2 : Fr w1 w2 x) : Fr w w2 x := ⟨Nat.le_trans h1.1 h2.1, fun p hp => (h2.2 p hp).trans (h1.2 p hp)⟩
theorem Fr.sm {w w1 w2 : gW} {x lo hi : Nat} (h1 : Fr w w1 x) (h2 : Sm w1 w2 lo hi) (h : (x ≤ lo ∧ hi ≤ x + 68) ∨ x + 82 ≤ lo) : Fr w w2 x := ⟨by rw [h2.1]; exact h1.1, fun p hp => (h2.2 p (by omega)).trans (h1.2 p hp)⟩
def mkP (w : gW) (x : Nat) (q : Int32 × St) (r : Int32) (w' : gW) : Prop := r = q.1 ∧ (∃ ed ts O, ClsV w' x q.2 ed ts O) ∧ Fr w w' x
theorem mkP.of {w w1 w' : gW} {x : Nat} {q q' : Int32 × St} {r : Int32} (hq : q = q') (hf : Fr w w1 x) (h : mkP w1 x q' r w') : mkP w x q r w' := by
  subst hq
  exact ⟨h.1, h.2.1, hf.trans h.2.2⟩
theorem mkP.same {w : gW} {x : Nat} {S : St} {ed : Nat} {ts : List Nat} {O : Nat → Int32} (hC : ClsV w x S ed ts O) {q : Int32 × St} {r : Int32} (hq : q = (r, S)) : mkP w x q r w := by
  subst hq
  exact ⟨rfl, ⟨_, _, _, hC⟩, Fr.rf⟩
section QW
variable {X : gX} {cc : ByteArray} {nL : Nat} {rm : Room} {w : gW} {k n pc : Nat} {lv : List (Option Value)} {st : List Value} {x : Nat} {S : St} {ed : Nat} {ts : List Nat} {O : Nat → Int32}
theorem q_get (C : Fx X cc "RelaxedRadixVector" nL rm) {a : Nat} (d0 : decode cc pc = .ok (.invokevirtual 41, 3)) (d1 : decode cc (pc + 3) = .ok (.checkcast 16, 3)) (hC : ClsV w x S ed ts O) (ha : a < S.length) (hlen : lv.length = nL) (hcat : (st.map fun v => v.category).sum ≤ 8) (r1 : 2 + 1 ≤ rm.frames) (r2 : 8 + (2 + 11) + 43 ≤ rm.locals) (r3 : k + 0 ≤ rm.cells) (r4 : n + 0 ≤ rm.slots) (kk : V X w k n lv (.ref (gd 0 ts a) :: st) (pc + 3 + 3)) : V X w k n lv (.int (nI a) :: .ref (x + 1) :: st) pc := by
  obtain ⟨vs, hA⟩ := hC.2.1.cell
  have hs := hC.size
  refine g_callV (ci := kAL) C d0 cw_Cls_41 sl_AL_get (c_AL_get X.1 w (x + 1) ed ts a (by omega) hC.2.1) rfl hA (As := [.int (nI a)]) rfl rfl hlen hcat ⟨rfl, rfl, r1, r2⟩ ⟨r3, r4⟩ (kR (fun b w2 h2 => ?_))
  rw [h2.1, h2.2]
  exact g_cast (ci := kTree) C d1 m_48 (by decide +kernel) rfl (hC.tree ha).1 kk
theorem q_size (C : Fx X cc "RelaxedRadixVector" nL rm) (d0 : decode cc pc = .ok (.invokevirtual 94, 3)) (hC : ClsV w x S ed ts O) (hlen : lv.length = nL) (hcat : (st.map fun v => v.category).sum ≤ 8) (r1 : 0 + 1 ≤ rm.frames) (r2 : 8 + (1 + 11) + 0 ≤ rm.locals) (r3 : k + 0 ≤ rm.cells) (r4 : n + 0 ≤ rm.slots) (kk : V X w k n lv (.int (nI S.length) :: st) (pc + 3)) : V X w k n lv (.ref (x + 1) :: st) pc := by
  obtain ⟨vs, hA⟩ := hC.2.1.cell
  have hs := hC.size
  refine g_callV (ci := kAL) C d0 cw_Cls_94 sl_AL_size (c_AL_size X.1 w (x + 1) ed ts hC.2.1) rfl hA (As := []) rfl rfl hlen hcat ⟨rfl, rfl, r1, r2⟩ ⟨r3, r4⟩ (kI (fun b w2 h2 => ?_))
  rw [h2.1, h2.2, hs.1]
  exact kk
theorem q_len (C : Fx X cc "RelaxedRadixVector" nL rm) {t h : Nat} {T : Tr} (d0 : decode cc pc = .ok (.invokevirtual 76, 3)) (hT : TreeV w t (trs T) h) (hlen : lv.length = nL) (hcat : (st.map fun v => v.category).sum ≤ 8) (r1 : 0 + 1 ≤ rm.frames) (r2 : 8 + (1 + 11) + 0 ≤ rm.locals) (r3 : k + 0 ≤ rm.cells) (r4 : n + 0 ≤ rm.slots) (kk : V X w k n lv (.int (nI T.1.length) :: st) (pc + 3)) : V X w k n lv (.ref t :: st) pc := by
  refine g_callV (ci := kTree) C d0 cw_Cls_76 sl_Tree_length (c_Tree_length X.1 w t (trs T) h hT) rfl hT.1 (As := []) rfl rfl hlen hcat ⟨rfl, rfl, r1, r2⟩ ⟨r3, r4⟩ (kI (fun b w2 h2 => ?_))
  rw [h2.1, h2.2]
  exact kk
end QW
set_option maxRecDepth 100000 in
set_option maxHeartbeats 4000000 in
theorem c_Cls_isVersion (N : gN) (w : gW) (x : Nat) (S : St) (ed : Nat) (ts : List Nat) (O : Nat → Int32) (v : Int32) (hC : ClsV w x S ed ts O) : CtN N y_Cls_isVersion b_Cls_isVersion 2 (some FieldType.boolean) (rmm 1 20 0 0) [.ref x, .int v] w (pI (fun r w' => w' = w ∧ r = if vOk S v then nI 1 else nI 0)) 0 0 := by
  refine ct_intro N [some (.ref x), some (.int v)] (by decide) rfl (Nat.le_of_ble_eq_true rfl) (by simp [Value.category]) ?_
  intro X hX C Rr
  have hs := hC.size
  rcases i32_sgn v with hv | ⟨a, ha, rfl⟩
  · refine g_ldn C d_Cls_isVersion_0 rfl ?_
    refine g_if_lt C 25 d_Cls_isVersion_1 (by decide) (by first | exact nI_toInt (by omega) | rfl) (fun b1 => ?_) (fun b1 => ?_)
    · refine g_iconst (v := nI 0) C d_Cls_isVersion_25 rfl ?_
      exact g_iret C Rr d_Cls_isVersion_26 rfl (by decide) (by decide) ⟨_, rfl, rfl, (if_neg (vOk_n hv)).symm⟩
    · exfalso; omega
  · refine g_ldn C d_Cls_isVersion_0 rfl ?_
    refine g_if_lt C 25 d_Cls_isVersion_1 (by decide) (by first | exact nI_toInt (by omega) | rfl) (fun b1 => ?_) (fun b1 => ?_)
    · exfalso; omega
    · refine g_ldn C d_Cls_isVersion_4 rfl ?_
      refine g_aldn C d_Cls_isVersion_5 rfl ?_
      refine g_get C d_Cls_isVersion_6 fl_Cls_12 hC.1 (by rfl) ?_
      refine q_size C d_Cls_isVersion_9 hC rfl (Nat.le_of_ble_eq_true rfl) (by decide) (by decide) (by decide) (by decide) ?_
      refine g_icmp_ge C 25 d_Cls_isVersion_12 (by decide) (by first | exact nI_toInt (by omega) | rfl) (by first | exact nI_toInt (by omega) | rfl) (fun b12 => ?_) (fun b12 => ?_)
      · refine g_iconst (v := nI 0) C d_Cls_isVersion_25 rfl ?_
        exact g_iret C Rr d_Cls_isVersion_26 rfl (by decide) (by decide) ⟨_, rfl, rfl, (if_neg (fun z => by have := (vOk_N ha).mp z; omega)).symm⟩
      · refine g_ldn C d_Cls_isVersion_15 rfl ?_
        refine g_bipush (v := nI 40) C d_Cls_isVersion_16 (by decide) ?_
        refine g_icmp_ge C 25 d_Cls_isVersion_18 (by decide) (by first | exact nI_toInt (by omega) | rfl) (by first | exact nI_toInt (by omega) | rfl) (fun b18 => ?_) (fun b18 => ?_)
        · exfalso; omega
        · refine g_iconst (v := nI 1) C d_Cls_isVersion_21 rfl ?_
          refine g_goto C 26 d_Cls_isVersion_22 (by decide) ?_
          exact g_iret C Rr d_Cls_isVersion_26 rfl (by decide) (by decide) ⟨_, rfl, rfl, (if_pos ((vOk_N ha).mpr (by omega))).symm⟩
set_option maxRecDepth 100000 in
set_option maxHeartbeats 4000000 in
theorem c_Cls_isFull (N : gN) (w : gW) (x : Nat) (S : St) (ed : Nat) (ts : List Nat) (O : Nat → Int32) (hC : ClsV w x S ed ts O) : CtN N y_Cls_isFull b_Cls_isFull 1 (some FieldType.boolean) (rmm 1 20 0 0) [.ref x] w (pI (fun r w' => w' = w ∧ r = if 40 ≤ S.length then nI 1 else nI 0)) 0 0 := by
  refine ct_intro N [some (.ref x)] (by decide) rfl (Nat.le_of_ble_eq_true rfl) (by simp [Value.category]) ?_
  intro X hX C Rr
  have hs := hC.size
  refine g_aldn C d_Cls_isFull_0 rfl ?_
  refine g_get C d_Cls_isFull_1 fl_Cls_12 hC.1 (by rfl) ?_
  refine q_size C d_Cls_isFull_4 hC rfl (Nat.le_of_ble_eq_true rfl) (by decide) (by decide) (by decide) (by decide) ?_
  refine g_bipush (v := nI 40) C d_Cls_isFull_7 (by decide) ?_
  refine g_icmp_lt C 16 d_Cls_isFull_9 (by decide) (by first | exact nI_toInt (by omega) | rfl) (by first | exact nI_toInt (by omega) | rfl) (fun b9 => ?_) (fun b9 => ?_)
  · refine g_iconst (v := nI 0) C d_Cls_isFull_16 rfl ?_
    exact g_iret C Rr d_Cls_isFull_17 rfl (by decide) (by decide) ⟨_, rfl, rfl, (if_neg (by omega)).symm⟩
  · refine g_iconst (v := nI 1) C d_Cls_isFull_12 rfl ?_
    refine g_goto C 17 d_Cls_isFull_13 (by decide) ?_
    exact g_iret C Rr d_Cls_isFull_17 rfl (by decide) (by decide) ⟨_, rfl, rfl, (if_pos (by omega)).symm⟩
set_option maxRecDepth 100000 in
set_option maxHeartbeats 4000000 in
theorem c_Cls_isFrozen (N : gN) (w : gW) (x : Nat) (S : St) (ed : Nat) (ts : List Nat) (O : Nat → Int32) (v : Int32) (hC : ClsV w x S ed ts O) : CtN N y_Cls_isFrozen b_Cls_isFrozen 2 (some FieldType.boolean) (rmm 2 41 0 0) [.ref x, .int v] w (pI (fun r w' => w' = w ∧ r = if frz S v then nI 1 else nI 0)) 0 0 := by
  refine ct_intro N [some (.ref x), some (.int v)] (by decide) rfl (Nat.le_of_ble_eq_true rfl) (by simp [Value.category]) ?_
  intro X hX C Rr
  obtain ⟨c0, cA, cO, ⟨⟨rs1, h1, cs1⟩, ⟨rs2, h2, cs2⟩, ⟨rs3, h3, cs3⟩⟩, ⟨cl, ck⟩, cT, ⟨cf, cf0⟩, cg, cm, ⟨cd, cz, ce, cx⟩⟩ := id hC
  have ck40 := ck.2.1
  refine g_aldn C d_Cls_isFrozen_0 rfl ?_
  refine g_ldn C d_Cls_isFrozen_1 rfl ?_
  by_cases hv : vOk S v
  · refine g_callV (ci := kCls) C d_Cls_isFrozen_2 cw_Cls_97 sl_Cls_isVersion (c_Cls_isVersion X.1 w x S ed ts O (v) hC) rfl hC.1 (As := [.int (v)]) rfl rfl rfl (Nat.le_of_ble_eq_true rfl) ⟨rfl, rfl, by decide, by decide⟩ ⟨by decide, by decide⟩ (kI (fun r w2 h2 => ?_))
    rw [h2.1, h2.2, if_pos hv]
    refine g_if_eq C 21 d_Cls_isFrozen_5 (by decide) (by first | exact nI_toInt (by omega) | rfl) (fun b5 => ?_) (fun b5 => ?_)
    · exfalso; omega
    · obtain ⟨a, ha, rfl⟩ := vOk_ex hv
      have ha31 : a < 2 ^ 31 := by omega
      refine g_aldn C d_Cls_isFrozen_8 rfl ?_
      refine g_get C d_Cls_isFrozen_9 fl_Cls_23 hC.1 (by rfl) ?_
      refine g_ldn C d_Cls_isFrozen_12 rfl ?_
      refine g_zald C d_Cls_isFrozen_13 cO (by omega) (by decide) ?_
      rw [cf a ha]
      by_cases hb : (S_ S a).2 = true
      · rw [if_pos hb]
        refine g_if_ne C 21 d_Cls_isFrozen_14 (by decide) (by first | exact nI_toInt (by omega) | rfl) (fun b14 => ?_) (fun b14 => ?_)
        · refine g_iconst (v := nI 0) C d_Cls_isFrozen_21 rfl ?_
          exact g_iret C Rr d_Cls_isFrozen_22 rfl (by decide) (by decide) ⟨_, rfl, rfl, (if_neg (fun z => by have := z.2; rw [vO_N ha31, hb] at this; cases this)).symm⟩
        · exfalso; omega
      · rw [if_neg hb]
        have hb : (S_ S a).2 = false := by cases h : (S_ S a).2 <;> simp_all
        refine g_if_ne C 21 d_Cls_isFrozen_14 (by decide) (by first | exact nI_toInt (by omega) | rfl) (fun b14 => ?_) (fun b14 => ?_)
        · exfalso; omega
        · refine g_iconst (v := nI 1) C d_Cls_isFrozen_17 rfl ?_
          refine g_goto C 22 d_Cls_isFrozen_18 (by decide) ?_
          exact g_iret C Rr d_Cls_isFrozen_22 rfl (by decide) (by decide) ⟨_, rfl, rfl, (if_pos ⟨hv, (vO_N ha31).trans hb⟩).symm⟩
  · refine g_callV (ci := kCls) C d_Cls_isFrozen_2 cw_Cls_97 sl_Cls_isVersion (c_Cls_isVersion X.1 w x S ed ts O (v) hC) rfl hC.1 (As := [.int (v)]) rfl rfl rfl (Nat.le_of_ble_eq_true rfl) ⟨rfl, rfl, by decide, by decide⟩ ⟨by decide, by decide⟩ (kI (fun r w2 h2 => ?_))
    rw [h2.1, h2.2, if_neg hv]
    refine g_if_eq C 21 d_Cls_isFrozen_5 (by decide) (by first | exact nI_toInt (by omega) | rfl) (fun b5 => ?_) (fun b5 => ?_)
    · refine g_iconst (v := nI 0) C d_Cls_isFrozen_21 rfl ?_
      exact g_iret C Rr d_Cls_isFrozen_22 rfl (by decide) (by decide) ⟨_, rfl, rfl, (if_neg (fun z => hv z.1)).symm⟩
    · exfalso; omega
set_option maxRecDepth 100000 in
set_option maxHeartbeats 4000000 in
theorem c_Cls_isOpen (N : gN) (w : gW) (x : Nat) (S : St) (ed : Nat) (ts : List Nat) (O : Nat → Int32) (v : Int32) (hC : ClsV w x S ed ts O) : CtN N y_Cls_isOpen b_Cls_isOpen 2 (some FieldType.boolean) (rmm 2 41 0 0) [.ref x, .int v] w (pI (fun r w' => w' = w ∧ r = if opn S v then nI 1 else nI 0)) 0 0 := by
  refine ct_intro N [some (.ref x), some (.int v)] (by decide) rfl (Nat.le_of_ble_eq_true rfl) (by simp [Value.category]) ?_
  intro X hX C Rr
  obtain ⟨c0, cA, cO, ⟨⟨rs1, h1, cs1⟩, ⟨rs2, h2, cs2⟩, ⟨rs3, h3, cs3⟩⟩, ⟨cl, ck⟩, cT, ⟨cf, cf0⟩, cg, cm, ⟨cd, cz, ce, cx⟩⟩ := id hC
  have ck40 := ck.2.1
  refine g_aldn C d_Cls_isOpen_0 rfl ?_
  refine g_ldn C d_Cls_isOpen_1 rfl ?_
  by_cases hv : vOk S v
  · refine g_callV (ci := kCls) C d_Cls_isOpen_2 cw_Cls_97 sl_Cls_isVersion (c_Cls_isVersion X.1 w x S ed ts O (v) hC) rfl hC.1 (As := [.int (v)]) rfl rfl rfl (Nat.le_of_ble_eq_true rfl) ⟨rfl, rfl, by decide, by decide⟩ ⟨by decide, by decide⟩ (kI (fun r w2 h2 => ?_))
    rw [h2.1, h2.2, if_pos hv]
    refine g_if_eq C 21 d_Cls_isOpen_5 (by decide) (by first | exact nI_toInt (by omega) | rfl) (fun b5 => ?_) (fun b5 => ?_)
    · exfalso; omega
    · obtain ⟨a, ha, rfl⟩ := vOk_ex hv
      have ha31 : a < 2 ^ 31 := by omega
      refine g_aldn C d_Cls_isOpen_8 rfl ?_
      refine g_get C d_Cls_isOpen_9 fl_Cls_23 hC.1 (by rfl) ?_
      refine g_ldn C d_Cls_isOpen_12 rfl ?_
      refine g_zald C d_Cls_isOpen_13 cO (by omega) (by decide) ?_
      rw [cf a ha]
      by_cases hb : (S_ S a).2 = true
      · rw [if_pos hb]
        refine g_if_eq C 21 d_Cls_isOpen_14 (by decide) (by first | exact nI_toInt (by omega) | rfl) (fun b14 => ?_) (fun b14 => ?_)
        · exfalso; omega
        · refine g_iconst (v := nI 1) C d_Cls_isOpen_17 rfl ?_
          refine g_goto C 22 d_Cls_isOpen_18 (by decide) ?_
          exact g_iret C Rr d_Cls_isOpen_22 rfl (by decide) (by decide) ⟨_, rfl, rfl, (if_pos ⟨hv, (vO_N ha31).trans hb⟩).symm⟩
      · rw [if_neg hb]
        have hb : (S_ S a).2 = false := by cases h : (S_ S a).2 <;> simp_all
        refine g_if_eq C 21 d_Cls_isOpen_14 (by decide) (by first | exact nI_toInt (by omega) | rfl) (fun b14 => ?_) (fun b14 => ?_)
        · refine g_iconst (v := nI 0) C d_Cls_isOpen_21 rfl ?_
          exact g_iret C Rr d_Cls_isOpen_22 rfl (by decide) (by decide) ⟨_, rfl, rfl, (if_neg (fun z => by have := z.2; rw [vO_N ha31, hb] at this; cases this)).symm⟩
        · exfalso; omega
  · refine g_callV (ci := kCls) C d_Cls_isOpen_2 cw_Cls_97 sl_Cls_isVersion (c_Cls_isVersion X.1 w x S ed ts O (v) hC) rfl hC.1 (As := [.int (v)]) rfl rfl rfl (Nat.le_of_ble_eq_true rfl) ⟨rfl, rfl, by decide, by decide⟩ ⟨by decide, by decide⟩ (kI (fun r w2 h2 => ?_))
    rw [h2.1, h2.2, if_neg hv]
    refine g_if_eq C 21 d_Cls_isOpen_5 (by decide) (by first | exact nI_toInt (by omega) | rfl) (fun b5 => ?_) (fun b5 => ?_)
    · refine g_iconst (v := nI 0) C d_Cls_isOpen_21 rfl ?_
      exact g_iret C Rr d_Cls_isOpen_22 rfl (by decide) (by decide) ⟨_, rfl, rfl, (if_neg (fun z => hv z.1)).symm⟩
    · exfalso; omega
set_option maxRecDepth 100000 in
set_option maxHeartbeats 4000000 in
theorem c_Cls_isPlace (N : gN) (w : gW) (x : Nat) (S : St) (ed : Nat) (ts : List Nat) (O : Nat → Int32) (v i : Int32) (hC : ClsV w x S ed ts O) : CtN N y_Cls_isPlace b_Cls_isPlace 3 (some FieldType.boolean) (rmm 3 64 0 0) [.ref x, .int v, .int i] w (pI (fun r w' => w' = w ∧ r = if vOk S v ∧ plc S v i then nI 1 else nI 0)) 0 0 := by
  refine ct_intro N [some (.ref x), some (.int v), some (.int i)] (by decide) rfl (Nat.le_of_ble_eq_true rfl) (by simp [Value.category]) ?_
  intro X hX C Rr
  have hs := hC.size
  refine g_aldn C d_Cls_isPlace_0 rfl ?_
  refine g_ldn C d_Cls_isPlace_1 rfl ?_
  by_cases hv : vOk S v
  · refine g_callV (ci := kCls) C d_Cls_isPlace_2 cw_Cls_97 sl_Cls_isVersion (c_Cls_isVersion X.1 w x S ed ts O (v) hC) rfl hC.1 (As := [.int (v)]) rfl rfl rfl (Nat.le_of_ble_eq_true rfl) ⟨rfl, rfl, by decide, by decide⟩ ⟨by decide, by decide⟩ (kI (fun r w2 h2 => ?_))
    rw [h2.1, h2.2, if_pos hv]
    refine g_if_eq C 34 d_Cls_isPlace_5 (by decide) (by first | exact nI_toInt (by omega) | rfl) (fun b5 => ?_) (fun b5 => ?_)
    · exfalso; omega
    · obtain ⟨a, ha, rfl⟩ := vOk_ex hv
      have ha31 : a < 2 ^ 31 := by omega
      have hT := hC.tree ha
      have hl := (hC.wf ha).1
      rcases i32_sgn i with hi | ⟨b, hb, rfl⟩
      · refine g_ldn C d_Cls_isPlace_8 rfl ?_
        refine g_if_lt C 34 d_Cls_isPlace_9 (by decide) (by first | exact nI_toInt (by omega) | rfl) (fun b9 => ?_) (fun b9 => ?_)
        · refine g_iconst (v := nI 0) C d_Cls_isPlace_34 rfl ?_
          exact g_iret C Rr d_Cls_isPlace_35 rfl (by decide) (by decide) ⟨_, rfl, rfl, (if_neg (fun z => by have := z.2.1; omega)).symm⟩
        · exfalso; omega
      · have tb := nI_toInt hb
        refine g_ldn C d_Cls_isPlace_8 rfl ?_
        refine g_if_lt C 34 d_Cls_isPlace_9 (by decide) (by first | exact nI_toInt (by omega) | rfl) (fun b9 => ?_) (fun b9 => ?_)
        · exfalso; omega
        · refine g_ldn C d_Cls_isPlace_12 rfl ?_
          refine g_aldn C d_Cls_isPlace_13 rfl ?_
          refine g_get C d_Cls_isPlace_14 fl_Cls_12 hC.1 (by rfl) ?_
          refine g_ldn C d_Cls_isPlace_17 rfl ?_
          refine q_get C d_Cls_isPlace_18 d_Cls_isPlace_21 hC (by omega) rfl (Nat.le_of_ble_eq_true rfl) (by decide) (by decide) (by decide) (by decide) ?_
          refine q_len C d_Cls_isPlace_24 (by assumption) rfl (Nat.le_of_ble_eq_true rfl) (by decide) (by decide) (by decide) (by decide) ?_
          refine g_icmp_ge C 34 d_Cls_isPlace_27 (by decide) (by first | exact nI_toInt (by omega) | rfl) (by first | exact nI_toInt (by omega) | rfl) (fun b27 => ?_) (fun b27 => ?_)
          · refine g_iconst (v := nI 0) C d_Cls_isPlace_34 rfl ?_
            exact g_iret C Rr d_Cls_isPlace_35 rfl (by decide) (by decide) ⟨_, rfl, rfl, (if_neg (fun z => by have := z.2.2; rw [vT_N ha31] at this; omega)).symm⟩
          · refine g_iconst (v := nI 1) C d_Cls_isPlace_30 rfl ?_
            refine g_goto C 35 d_Cls_isPlace_31 (by decide) ?_
            exact g_iret C Rr d_Cls_isPlace_35 rfl (by decide) (by decide) ⟨_, rfl, rfl, (if_pos ⟨hv, by show 0 ≤ (nI b).toInt; omega, by rw [vT_N ha31]; omega⟩).symm⟩
  · refine g_callV (ci := kCls) C d_Cls_isPlace_2 cw_Cls_97 sl_Cls_isVersion (c_Cls_isVersion X.1 w x S ed ts O (v) hC) rfl hC.1 (As := [.int (v)]) rfl rfl rfl (Nat.le_of_ble_eq_true rfl) ⟨rfl, rfl, by decide, by decide⟩ ⟨by decide, by decide⟩ (kI (fun r w2 h2 => ?_))
    rw [h2.1, h2.2, if_neg hv]
    refine g_if_eq C 34 d_Cls_isPlace_5 (by decide) (by first | exact nI_toInt (by omega) | rfl) (fun b5 => ?_) (fun b5 => ?_)
    · refine g_iconst (v := nI 0) C d_Cls_isPlace_34 rfl ?_
      exact g_iret C Rr d_Cls_isPlace_35 rfl (by decide) (by decide) ⟨_, rfl, rfl, (if_neg (fun z => hv z.1)).symm⟩
    · exfalso; omega
def rfs (S : St) (v : Int32) (b : Nat) : Int32 := if ¬ frz S v then -1 else if 40 ≤ S.length then -2 else if 80 < (vT S v).1.length + b then -3 else nI 0
set_option maxRecDepth 100000 in
set_option maxHeartbeats 4000000 in
theorem c_Cls_refusalToGrow (N : gN) (w : gW) (x : Nat) (S : St) (ed : Nat) (ts : List Nat) (O : Nat → Int32) (v : Int32) (b : Nat) (hb : b ≤ 80) (hC : ClsV w x S ed ts O) : CtN N y_Cls_refusalToGrow b_Cls_refusalToGrow 3 (some FieldType.int) (rmm 3 64 0 0) [.ref x, .int v, .int (nI b)] w (pI (fun r w' => w' = w ∧ r = rfs S v b)) 0 0 := by
  refine ct_intro N [some (.ref x), some (.int v), some (.int (nI b))] (by decide) rfl (Nat.le_of_ble_eq_true rfl) (by simp [Value.category]) ?_
  intro X hX C Rr
  have hs := hC.size
  refine g_aldn C d_Cls_refusalToGrow_0 rfl ?_
  refine g_ldn C d_Cls_refusalToGrow_1 rfl ?_
  by_cases hv : frz S v
  · refine g_callV (ci := kCls) C d_Cls_refusalToGrow_2 cw_Cls_60 sl_Cls_isFrozen (c_Cls_isFrozen X.1 w x S ed ts O (v) hC) rfl hC.1 (As := [.int (v)]) rfl rfl rfl (Nat.le_of_ble_eq_true rfl) ⟨rfl, rfl, by decide, by decide⟩ ⟨by decide, by decide⟩ (kI (fun r w2 h2 => ?_))
    rw [h2.1, h2.2, if_pos hv]
    refine g_if_ne C 10 d_Cls_refusalToGrow_5 (by decide) (by first | exact nI_toInt (by omega) | rfl) (fun b5 => ?_) (fun b5 => ?_)
    · refine g_aldn C d_Cls_refusalToGrow_10 rfl ?_
      by_cases h40 : 40 ≤ S.length
      · refine g_callV (ci := kCls) C d_Cls_refusalToGrow_11 cw_Cls_68 sl_Cls_isFull (c_Cls_isFull X.1 w x S ed ts O  hC) rfl hC.1 (As := []) rfl rfl rfl (Nat.le_of_ble_eq_true rfl) ⟨rfl, rfl, by decide, by decide⟩ ⟨by decide, by decide⟩ (kI (fun r w2 h2 => ?_))
        rw [h2.1, h2.2, if_pos h40]
        refine g_if_eq C 20 d_Cls_refusalToGrow_14 (by decide) (by first | exact nI_toInt (by omega) | rfl) (fun b14 => ?_) (fun b14 => ?_)
        · exfalso; omega
        · refine g_bipush (v := (-2)) C d_Cls_refusalToGrow_17 (by decide) ?_
          exact g_iret C Rr d_Cls_refusalToGrow_19 rfl (by decide) (by decide) ⟨_, rfl, rfl, by unfold rfs; rw [if_neg (fun z => z hv), if_pos h40]⟩
      · refine g_callV (ci := kCls) C d_Cls_refusalToGrow_11 cw_Cls_68 sl_Cls_isFull (c_Cls_isFull X.1 w x S ed ts O  hC) rfl hC.1 (As := []) rfl rfl rfl (Nat.le_of_ble_eq_true rfl) ⟨rfl, rfl, by decide, by decide⟩ ⟨by decide, by decide⟩ (kI (fun r w2 h2 => ?_))
        rw [h2.1, h2.2, if_neg h40]
        refine g_if_eq C 20 d_Cls_refusalToGrow_14 (by decide) (by first | exact nI_toInt (by omega) | rfl) (fun b14 => ?_) (fun b14 => ?_)
        · obtain ⟨a, ha, rfl⟩ := vOk_ex hv.1
          have ha31 : a < 2 ^ 31 := by omega
          have hT := hC.tree ha
          have hl := (hC.wf ha).1
          refine g_aldn C d_Cls_refusalToGrow_20 rfl ?_
          refine g_get C d_Cls_refusalToGrow_21 fl_Cls_12 hC.1 (by rfl) ?_
          refine g_ldn C d_Cls_refusalToGrow_24 rfl ?_
          refine q_get C d_Cls_refusalToGrow_25 d_Cls_refusalToGrow_28 hC (by omega) rfl (Nat.le_of_ble_eq_true rfl) (by decide) (by decide) (by decide) (by decide) ?_
          refine q_len C d_Cls_refusalToGrow_31 (by assumption) rfl (Nat.le_of_ble_eq_true rfl) (by decide) (by decide) (by decide) (by decide) ?_
          refine g_ldn C d_Cls_refusalToGrow_34 rfl ?_
          first | refine g_addN C d_Cls_refusalToGrow_35 ?_ | refine g_add C d_Cls_refusalToGrow_35 ?_
          refine g_bipush (v := nI 80) C d_Cls_refusalToGrow_36 (by decide) ?_
          refine g_icmp_le C 46 d_Cls_refusalToGrow_38 (by decide) (by first | exact nI_toInt (by omega) | rfl) (by first | exact nI_toInt (by omega) | rfl) (fun b38 => ?_) (fun b38 => ?_)
          · refine g_iconst (v := nI 0) C d_Cls_refusalToGrow_46 rfl ?_
            exact g_iret C Rr d_Cls_refusalToGrow_47 rfl (by decide) (by decide) ⟨_, rfl, rfl, by unfold rfs; rw [if_neg (fun z => z hv), if_neg h40, vT_N ha31, if_neg (by omega)]⟩
          · refine g_bipush (v := (-3)) C d_Cls_refusalToGrow_41 (by decide) ?_
            refine g_goto C 47 d_Cls_refusalToGrow_43 (by decide) ?_
            exact g_iret C Rr d_Cls_refusalToGrow_47 rfl (by decide) (by decide) ⟨_, rfl, rfl, by unfold rfs; rw [if_neg (fun z => z hv), if_neg h40, vT_N ha31, if_pos (by omega)]⟩
        · exfalso; omega
    · exfalso; omega
  · refine g_callV (ci := kCls) C d_Cls_refusalToGrow_2 cw_Cls_60 sl_Cls_isFrozen (c_Cls_isFrozen X.1 w x S ed ts O (v) hC) rfl hC.1 (As := [.int (v)]) rfl rfl rfl (Nat.le_of_ble_eq_true rfl) ⟨rfl, rfl, by decide, by decide⟩ ⟨by decide, by decide⟩ (kI (fun r w2 h2 => ?_))
    rw [h2.1, h2.2, if_neg hv]
    refine g_if_ne C 10 d_Cls_refusalToGrow_5 (by decide) (by first | exact nI_toInt (by omega) | rfl) (fun b5 => ?_) (fun b5 => ?_)
    · exfalso; omega
    · refine g_iconst (v := -1) C d_Cls_refusalToGrow_8 rfl ?_
      exact g_iret C Rr d_Cls_refusalToGrow_9 rfl (by decide) (by decide) ⟨_, rfl, rfl, by unfold rfs; rw [if_pos hv]⟩
theorem wf_low {M m : Nat} {T : Tr} (h : wfT M T) (h2 : T.2.2 ≤ m) : wfT m T := ⟨h.1, h2, h.2.2⟩
set_option maxRecDepth 100000 in
set_option maxHeartbeats 4000000 in
theorem c_Cls_keepResult (N : gN) (w : gW) (x : Nat) (S : St) (ed : Nat) (ts : List Nat) (O : Nat → Int32) (T : Tr) (hw : wfT 6 T) (hn : S.length < 40) (hC : ClsV w x S ed ts O) (hR : TreeV w (x + 52) (trs T) T.2.2) : CtN N y_Cls_keepResult b_Cls_keepResult 2 (some FieldType.int) (rmm 7 169 17 663) [.ref x] w (pI (fun r w' => mkP w x (sKeep S T false) r w')) 17 663 := by
  refine ct_intro N [some (.ref x), none] (by decide) rfl (Nat.le_of_ble_eq_true rfl) (by simp [Value.category]) ?_
  intro X hX C Rr
  obtain ⟨c0, cA, cO, ⟨⟨rs1, h1, cs1⟩, ⟨rs2, h2, cs2⟩, _⟩, ⟨cl, ck⟩, cT, ⟨cf, cf0⟩, cg, cm, ⟨cd, cz, ce, cx⟩⟩ := id hC
  have ck40 := ck.2.1
  have hT6 := hw.2.1
  refine g_aldn C d_Cls_keepResult_0 rfl ?_
  refine g_get C d_Cls_keepResult_1 fl_Cls_34 hC.1 (by rfl) ?_
  refine t_heiN C d_Cls_keepResult_4 fn_Cls_90 (by assumption) ?_
  refine g_iconst (v := nI 4) C d_Cls_keepResult_7 rfl ?_
  refine g_icmp_le C 14 d_Cls_keepResult_8 (by decide) (by first | exact nI_toInt (by omega) | rfl) (by first | exact nI_toInt (by omega) | rfl) (fun b8 => ?_) (fun b8 => ?_)
  · have hw4 : wfT 4 T := wf_low hw (by omega)
    refine g_new (ci := kTree) (fs := [.null, .int (nI 0)]) C tyTree d_Cls_keepResult_14 rfl tyTree_ok uw_Tree m_48 m_49 m_5 (fun j hj => by rcases (show j = 0 ∨ j = 1 by omega) with rfl | rfl <;> rfl) (by decide) (by decide) ?_
    have q0 := gnew_self w (.inr (kTree, [.null, .int (nI 0)]))
    have qz := gnew_sz w (.inr (kTree, [.null, .int (nI 0)]))
    have qo : ∀ p, p < w.2 → (gnew w (.inr (kTree, [.null, .int (nI 0)]))).1 p = w.1 p := fun p hp => gnew_ne _ _ (by omega)
    refine g_dup C d_Cls_keepResult_17 rfl ?_
    refine g_callI C d_Cls_keepResult_18 cw_Cls_18 si_Tree_init (c_Tree_init X.1 (gnew w (.inr (kTree, [.null, .int (nI 0)]))) w.2 qz q0) (As := []) rfl rfl rfl (Nat.le_of_ble_eq_true rfl) ⟨rfl, rfl, by decide, by decide⟩ ⟨by decide, by decide⟩ (kV (fun w2 h2 => ?_))
    obtain ⟨⟨z2, o2⟩, t2⟩ := h2
    have old2 : ∀ p, p < w.2 → w2.1 p = w.1 p := fun p hp => (o2 p hp).trans (qo p hp)
    have hR2 := hR.fr (w' := w2) (fun p a b => old2 p (by omega))
    have c02 := (old2 x (by omega)).trans c0
    refine g_astn C [_, _] d_Cls_keepResult_21 (Nat.le_of_ble_eq_true rfl) rfl ?_
    refine g_aldn C d_Cls_keepResult_22 rfl ?_
    refine g_aldn C d_Cls_keepResult_23 rfl ?_
    refine g_get C d_Cls_keepResult_24 fl_Cls_34 c02 (by rfl) ?_
    refine g_callV (ci := kTree) C d_Cls_keepResult_27 cw_Cls_45 sl_Tree_become (c_Tree_become X.1 w2 w.2 (x + 52) _ _ _ _ (by omega) t2 hR2) rfl t2.1 (As := [.ref (x + 52)]) rfl rfl rfl (Nat.le_of_ble_eq_true rfl) ⟨rfl, rfl, by decide, by decide⟩ ⟨by decide, by decide⟩ (kV (fun w3 h3 => ?_))
    have old3 : ∀ p, p < w.2 → w3.1 p = w.1 p := fun p hp => (h3.1.2 p (by omega)).trans (old2 p hp)
    have z3 : w3.2 = w.2 + 16 := by rw [h3.1.1, z2, qz]
    have c03 := (old3 x (by omega)).trans c0
    have cA3 := cA.fr (w' := w3) (old3 _ (by omega)) (old3 _ cz)
    obtain ⟨avs, hav⟩ := cA3.cell
    refine g_aldn C d_Cls_keepResult_30 rfl ?_
    refine g_get C d_Cls_keepResult_31 fl_Cls_12 c03 (by rfl) ?_
    refine g_aldn C d_Cls_keepResult_34 rfl ?_
    refine g_callV (ci := kAL) C d_Cls_keepResult_35 cw_Cls_19 sl_AL_add (c_AL_add X.1 w3 (x + 1) ed ts w.2 _ h3.2.1 (by omega) (by omega) (by omega) (fun i hi => ⟨by have := cg i (by omega); omega, _, (old3 _ (by have := cg i (by omega); omega)).trans (cT i (by omega)).1⟩) (by omega) (by omega) (by omega) (by omega) cA3) rfl hav (As := [.ref w.2]) rfl rfl rfl (Nat.le_of_ble_eq_true rfl) ⟨rfl, rfl, by decide, by decide⟩ ⟨by decide, by decide⟩ (kI (fun r w4 h4 => ?_))
    obtain ⟨ed', a4, e4, z4, l4, o4⟩ := h4
    have old4 : ∀ p, p < w.2 → p ≠ x + 1 → p ≠ ed → w4.1 p = w.1 p := fun p hp h1 h2 => (o4 p (by omega) h1 h2).trans (old3 p hp)
    have len1 : (S ++ [(T, false)]).length = S.length + 1 := by simp
    have hC4 : ClsV w4 x (S ++ [(T, false)]) ed' (ts ++ [w.2]) O := by
      refine ⟨(old4 x (by omega) (by omega) (by omega)).trans c0, a4, (old4 _ (by omega) (by omega) (by omega)).trans cO, ⟨⟨_, _, cs1.fr (fun p a b => old4 p (by omega) (by omega) (by omega))⟩, ⟨_, _, cs2.fr (fun p a b => old4 p (by omega) (by omega) (by omega))⟩, ⟨_, _, hR.fr (fun p a b => old4 p (by omega) (by omega) (by omega))⟩⟩, ⟨by simp [cl], ⟨by omega, by omega, fun q hq => ?_⟩⟩, fun i hi => ?_, ⟨fun i hi => ?_, fun i hi => cf0 i (by omega)⟩, fun i hi => ?_, fun i j hij hj => ?_, ⟨by omega, by omega, fun i hi => ?_, by omega⟩⟩
      · rcases List.mem_append.mp hq with h | h
        · exact ck.2.2 q h
        · rw [List.mem_singleton.mp h]; exact hw4
      · rw [gd_snoc (by simp; omega), cl]
        by_cases e : i = S.length
        · rw [if_pos e, e, show S_ (S ++ [(T, false)]) S.length = (T, false) by rw [S_, gd_r (Nat.le_refl _), Nat.sub_self, gd_0]]
          exact h3.2.fr (fun p a b => o4 p (by omega) (by omega) (by omega))
        · rw [if_neg e, S_, gd_l (by omega)]
          have gi := cg i (by omega)
          have ei := ce i (by omega)
          exact (cT i (by omega)).fr (fun p a b => old4 p (by omega) (by omega) (by omega))
      · by_cases e : i = S.length
        · rw [cf0 i (by omega), e, show S_ (S ++ [(T, false)]) S.length = (T, false) by rw [S_, gd_r (Nat.le_refl _), Nat.sub_self, gd_0]]; rfl
        · rw [S_, gd_l (by omega)]; exact cf i (by omega)
      · rw [gd_snoc (by simp; omega), cl]
        by_cases e : i = S.length
        · rw [if_pos e]; omega
        · rw [if_neg e]
          have gi := cg i (by omega)
          omega
      · rw [gd_snoc (by simp; omega), gd_snoc (by simp; omega), cl, if_neg (by omega)]
        have gi := cg i (by omega)
        by_cases e : j = S.length
        · rw [if_pos e]; omega
        · rw [if_neg e]; exact cm i j hij (by omega)
      · rw [gd_snoc (by simp; omega), cl]
        by_cases e : i = S.length
        · rw [if_pos e]; omega
        · rw [if_neg e]
          have gi := cg i (by omega)
          have ei := ce i (by omega)
          omega
    refine g_pop C d_Cls_keepResult_38 rfl ?_
    refine g_aldn C d_Cls_keepResult_39 rfl ?_
    refine g_get C d_Cls_keepResult_40 fl_Cls_12 hC4.1 (by rfl) ?_
    refine q_size C d_Cls_keepResult_43 hC4 rfl (Nat.le_of_ble_eq_true rfl) (by decide) (by decide) (by decide) (by decide) ?_
    rw [len1]
    refine g_iconst (v := nI 1) C d_Cls_keepResult_46 rfl ?_
    first | refine g_subN C d_Cls_keepResult_47 (by omega) ?_ | refine g_sub C d_Cls_keepResult_47 ?_
    exact g_iret C Rr d_Cls_keepResult_48 rfl (by decide) (by decide) ⟨_, rfl, by unfold sKeep; rw [if_neg (by omega)]; rfl, by unfold sKeep; rw [if_neg (by omega)]; exact ⟨_, _, _, hC4⟩, by omega, fun p hp => old4 p (by omega) (by omega) (by omega)⟩
  · refine g_bipush (v := (-4)) C d_Cls_keepResult_11 (by decide) ?_
    exact g_iret C Rr d_Cls_keepResult_13 rfl (by decide) (by decide) ⟨_, rfl, mkP.same hC (by unfold sKeep; rw [if_pos (by omega)])⟩
