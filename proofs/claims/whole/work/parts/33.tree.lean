/-! TREE: rows of walks over a tree; the small contracts. -/
theorem RowV.cell {w : gW} {q : Nat} {L : List Int32} (h : RowV w q L) : w.1 q = some (.inr (kRow, [.ref (q + 1), .int (nI L.length)])) := by obtain ⟨f, h0, h1, h2, h3⟩ := h; exact h0
theorem TreeV.up {w w' : gW} {t h k : Nat} {rs : Nat → List Int32} {L : List Int32} (hT : TreeV w t rs h) (hk : k < 7) (hS : Sm w w' (t + 2 + 2 * k) (t + 2 + 2 * k + 2)) (hr : RowV w' (t + 2 + 2 * k) L) : TreeV w' t (va_up rs k L) h :=
  hT.row hk hS (by rw [va_up_self]; exact hr) (fun j _ hj => va_up_ne _ _ hj)
theorem TreeV.congr {w : gW} {t h h' : Nat} {rs rs' : Nat → List Int32} (hT : TreeV w t rs h) (he : ∀ k, k < 7 → rs' k = rs k) (hh : h' = h) : TreeV w t rs' h' := by
  subst hh
  exact ⟨hT.1, hT.2.1, fun k hk => by rw [he k hk]; exact hT.2.2 k hk⟩
theorem Sm.tree {w w' : gW} {t k : Nat} (hk : k < 7) (hS : Sm w w' (t + 2 + 2 * k) (t + 2 + 2 * k + 2)) : Sm w w' t (t + 16) := hS.wide (by omega) (by omega)
section TW0
variable {X : gX} {cc : ByteArray} {own : String} {nL : Nat} {rm : Room} {w : gW} {k n pc : Nat} {lv : List (Option Value)} {st : List Value} {t h : Nat} {rs : Nat → List Int32}
theorem t_rows (C : Fx X cc own nL rm) {index : Nat} (d : decode cc pc = .ok (.getfield index, 3)) (hl : FL own index kTree 0) (hT : TreeV w t rs h) (kk : V X w k n lv (.ref (t + 1) :: st) (pc + 3)) : V X w k n lv (.ref t :: st) pc := g_get C d hl hT.1 rfl kk
theorem t_hei (C : Fx X cc own nL rm) {index : Nat} (d : decode cc pc = .ok (.getfield index, 3)) (hl : FL own index kTree 1) (hT : TreeV w t rs h) (kk : V X w k n lv (.int (nI h) :: st) (pc + 3)) : V X w k n lv (.ref t :: st) pc := g_get C d hl hT.1 rfl kk
theorem t_heiN (C : Fx X cc own nL rm) {index : Nat} (d : decode cc pc = .ok (.getfield index, 3)) (hl : FLN own index kTree 1) (hT : TreeV w t rs h) (kk : V X w k n lv (.int (nI h) :: st) (pc + 3)) : V X w k n lv (.ref t :: st) pc := g_getN C d hl hT.1 rfl kk
theorem t_aald (C : Fx X cc own nL rm) {j : Nat} (d : decode cc pc = .ok (.aaload, 1)) (hT : TreeV w t rs h) (hj : j < 7) (kk : V X w k n lv (.ref (t + 2 + 2 * j) :: st) (pc + 1)) : V X w k n lv (.int (nI j) :: .ref (t + 1) :: st) pc := by
  obtain ⟨h0, ⟨g, h1, h2⟩, h3⟩ := hT
  exact g_aald3 C d h1 hj (by decide) (h2 j hj) kk
theorem t_cnt (C : Fx X cc own nL rm) {index j : Nat} (d : decode cc pc = .ok (.getfield index, 3)) (hl : FLN own index kRow 1) (hT : TreeV w t rs h) (hj : j < 7) (kk : V X w k n lv (.int (nI (rs j).length) :: st) (pc + 3)) : V X w k n lv (.ref (t + 2 + 2 * j) :: st) pc := g_getN C d hl (hT.2.2 j hj).cell rfl kk
theorem t_alen (C : Fx X cc own nL rm) (d : decode cc pc = .ok (.arraylength, 1)) (hT : TreeV w t rs h) (kk : V X w k n lv (.int (nI 7) :: st) (pc + 1)) : V X w k n lv (.ref (t + 1) :: st) pc := by
  obtain ⟨h0, ⟨g, h1, h2⟩, h3⟩ := hT
  exact g_alen C d h1 (by decide) kk
end TW0
set_option maxRecDepth 100000 in
set_option maxHeartbeats 4000000 in
theorem c_Tree_length (N : gN) (w : gW) (t : Nat) (rs : Nat → List Int32) (h : Nat) (hT : TreeV w t rs h) : CtN N y_Tree_length b_Tree_length 1 (some FieldType.int) (rmm 0 0 0 0) [.ref t] w (pI (fun r w' => w' = w ∧ r = nI (rs 0).length)) 0 0 := by
  refine ct_intro N [some (.ref t)] (by decide) rfl (Nat.le_of_ble_eq_true rfl) (by simp [Value.category]) ?_
  intro X hX C Rr
  refine g_aldn C d_Tree_length_0 rfl ?_
  refine t_rows C d_Tree_length_1 fl_Tree_11 (by assumption) ?_
  refine g_iconst (v := nI 0) C d_Tree_length_4 rfl ?_
  refine t_aald C d_Tree_length_5 (by assumption) (by omega) ?_
  refine t_cnt C d_Tree_length_6 fn_Tree_22 (by assumption) (by omega) ?_
  exact g_iret C Rr d_Tree_length_9 rfl (by decide) (by decide) ⟨_, rfl, rfl, rfl⟩
set_option maxRecDepth 100000 in
set_option maxHeartbeats 4000000 in
theorem c_Tree_element (N : gN) (w : gW) (t : Nat) (rs : Nat → List Int32) (h i : Nat) (hi : i < 2 ^ 31) (hT : TreeV w t rs h) : CtN N y_Tree_element b_Tree_element 2 (some FieldType.int) (rmm 1 21 0 0) [.ref t, .int (nI i)] w (pI (fun r w' => w' = w ∧ r = gd 0 (rs 0) i)) 0 0 := by
  refine ct_intro N [some (.ref t), some (.int (nI i))] (by decide) rfl (Nat.le_of_ble_eq_true rfl) (by simp [Value.category]) ?_
  intro X hX C Rr
  refine g_aldn C d_Tree_element_0 rfl ?_
  refine t_rows C d_Tree_element_1 fl_Tree_11 (by assumption) ?_
  refine g_iconst (v := nI 0) C d_Tree_element_4 rfl ?_
  refine t_aald C d_Tree_element_5 (by assumption) (by omega) ?_
  refine g_ldn C d_Tree_element_6 rfl ?_
  refine g_callV (ci := kRow) C d_Tree_element_7 cw_Tree_25 sl_Row_cell (c_Row_cell X.1 w (t + 2 + 2 * 0) _ (nI i) (hT.2.2 0 (by omega))) rfl (hT.2.2 0 (by omega)).cell (As := [.int (nI i)]) rfl rfl rfl (Nat.le_of_ble_eq_true rfl) ⟨rfl, rfl, by decide, by decide⟩ ⟨by decide, by decide⟩ (kI (fun r w2 h2 => ?_))
  obtain ⟨rfl, rfl⟩ := h2
  rw [cellR_N hi]
  exact g_iret C Rr d_Tree_element_10 rfl (by decide) (by decide) ⟨_, rfl, rfl, rfl⟩
set_option maxRecDepth 100000 in
set_option maxHeartbeats 4000000 in
theorem c_Tree_replace (N : gN) (w : gW) (t : Nat) (rs : Nat → List Int32) (h i : Nat) (x : Int32) (hi : i < 2 ^ 31) (hT : TreeV w t rs h) : CtN N y_Tree_replace b_Tree_replace 3 none (rmm 1 22 0 0) [.ref t, .int (nI i), .int x] w (pV (fun w' => Sm w w' t (t + 16) ∧ TreeV w' t (va_up rs 0 ((rs 0).set i x)) h)) 0 0 := by
  refine ct_intro N [some (.ref t), some (.int (nI i)), some (.int x)] (by decide) rfl (Nat.le_of_ble_eq_true rfl) (by simp [Value.category]) ?_
  intro X hX C Rr
  refine g_aldn C d_Tree_replace_0 rfl ?_
  refine t_rows C d_Tree_replace_1 fl_Tree_11 (by assumption) ?_
  refine g_iconst (v := nI 0) C d_Tree_replace_4 rfl ?_
  refine t_aald C d_Tree_replace_5 (by assumption) (by omega) ?_
  refine g_ldn C d_Tree_replace_6 rfl ?_
  refine g_ldn C d_Tree_replace_7 rfl ?_
  refine g_callV (ci := kRow) C d_Tree_replace_8 cw_Tree_29 sl_Row_write (c_Row_write X.1 w (t + 2 + 2 * 0) _ i x hi (hT.2.2 0 (by omega))) rfl (hT.2.2 0 (by omega)).cell (As := [.int (nI i), .int x]) rfl rfl rfl (Nat.le_of_ble_eq_true rfl) ⟨rfl, rfl, by decide, by decide⟩ ⟨by decide, by decide⟩ (kV (fun w2 h2 => ?_))
  exact g_vret C Rr d_Tree_replace_11 (by decide) (by decide) ⟨rfl, Sm.tree (k := 0) (by omega) h2.1, hT.up (by omega) h2.1 h2.2⟩
def ndU (rs : Nat → List Int32) : Nat → Nat
  | 0 => 0
  | k + 1 => ndU rs k + (rs (k + 1)).length
theorem ndU_le {w : gW} {t h : Nat} {rs : Nat → List Int32} (hT : TreeV w t rs h) : ∀ k, k < 7 → ndU rs k ≤ 80 * k := by
  intro k
  induction k with
  | zero => intro _; exact Nat.le_refl _
  | succ k ih =>
    intro hk
    have h1 := ih (by omega)
    have h2 := (hT.2.2 (k + 1) hk).len
    simp only [ndU]
    omega
set_option maxRecDepth 100000 in
set_option maxHeartbeats 4000000 in
theorem c_Tree_countNodes (N : gN) (w : gW) (t : Nat) (rs : Nat → List Int32) (h : Nat) (hh : h ≤ 6) (hT : TreeV w t rs h) : CtN N y_Tree_countNodes b_Tree_countNodes 3 (some FieldType.int) (rmm 0 0 0 0) [.ref t] w (pI (fun r w' => w' = w ∧ r = nI (ndU rs h))) 0 0 := by
  refine ct_intro N [some (.ref t), none, none] (by decide) rfl (Nat.le_of_ble_eq_true rfl) (by simp [Value.category]) ?_
  intro X hX C Rr
  refine g_iconst (v := nI 0) C d_Tree_countNodes_0 rfl ?_
  refine g_stn C [_, _, _] d_Tree_countNodes_1 (Nat.le_of_ble_eq_true rfl) rfl ?_
  refine g_iconst (v := nI 1) C d_Tree_countNodes_2 rfl ?_
  refine g_stn C [_, _, _] d_Tree_countNodes_3 (Nat.le_of_ble_eq_true rfl) rfl ?_
  have loop : ∀ i, i ≤ h → V X w 0 0 [some (.ref t), some (.int (nI (ndU rs i))), some (.int (nI (i + 1)))] [] 4 := by
    refine upto _ (fun i hi ih => ?_)
    have hnd := ndU_le hT i (by omega)
    refine g_ldn C d_Tree_countNodes_4 rfl ?_
    refine g_aldn C d_Tree_countNodes_5 rfl ?_
    refine t_hei C d_Tree_countNodes_6 fl_Tree_18 (by assumption) ?_
    refine g_icmp_gt C 30 d_Tree_countNodes_9 (by decide) (by first | exact nI_toInt (by omega) | rfl) (by first | exact nI_toInt (by omega) | rfl) (fun b9 => ?_) (fun b9 => ?_)
    · rw [show i = h by omega]
      refine g_ldn C d_Tree_countNodes_30 rfl ?_
      exact g_iret C Rr d_Tree_countNodes_31 rfl (by decide) (by decide) ⟨_, rfl, rfl, rfl⟩
    · have hnd2 := (hT.2.2 (i + 1) (by omega)).len
      refine g_ldn C d_Tree_countNodes_12 rfl ?_
      refine g_aldn C d_Tree_countNodes_13 rfl ?_
      refine t_rows C d_Tree_countNodes_14 fl_Tree_11 (by assumption) ?_
      refine g_ldn C d_Tree_countNodes_17 rfl ?_
      refine t_aald C d_Tree_countNodes_18 (by assumption) (by omega) ?_
      refine t_cnt C d_Tree_countNodes_19 fn_Tree_22 (by assumption) (by omega) ?_
      first | refine g_addN C d_Tree_countNodes_22 ?_ | refine g_add C d_Tree_countNodes_22 ?_
      refine g_stn C [_, _, _] d_Tree_countNodes_23 (Nat.le_of_ble_eq_true rfl) rfl ?_
      refine g_incN C [_, _, _] d_Tree_countNodes_24 rfl rfl ?_
      refine g_goto C 4 d_Tree_countNodes_27 (by decide) ?_
      exact ih (i + 1) (by omega) (by omega)
  exact loop 0 (by omega)
def bec (rs ru : Nat → List Int32) (i : Nat) : Nat → List Int32 := fun k => if k < i then ru k else rs k
set_option maxRecDepth 100000 in
set_option maxHeartbeats 4000000 in
theorem c_Tree_become (N : gN) (w : gW) (t u : Nat) (rs ru : Nat → List Int32) (h hu : Nat) (hd : t + 16 ≤ u ∨ u + 16 ≤ t) (hT : TreeV w t rs h) (hU : TreeV w u ru hu) : CtN N y_Tree_become b_Tree_become 3 none (rmm 2 45 0 0) [.ref t, .ref u] w (pV (fun w' => Sm w w' t (t + 16) ∧ TreeV w' t ru hu)) 0 0 := by
  refine ct_intro N [some (.ref t), some (.ref u), none] (by decide) rfl (Nat.le_of_ble_eq_true rfl) (by simp [Value.category]) ?_
  intro X hX C Rr
  refine g_iconst (v := nI 0) C d_Tree_become_0 rfl ?_
  refine g_stn C [_, _, _] d_Tree_become_1 (Nat.le_of_ble_eq_true rfl) rfl ?_
  have loop : ∀ i, i ≤ 7 → ∀ w1, Sm w w1 t (t + 16) → TreeV w1 t (bec rs ru i) h → V X w1 0 0 [some (.ref t), some (.ref u), some (.int (nI i))] [] 2 := by
    refine upto _ (fun i hi ih w1 hS hT1 => ?_)
    have hU1 := hU.sm hS (by omega)
    refine g_ldn C d_Tree_become_2 rfl ?_
    refine g_aldn C d_Tree_become_3 rfl ?_
    refine t_rows C d_Tree_become_4 fl_Tree_11 (by assumption) ?_
    refine t_alen C d_Tree_become_7 hT1 ?_
    refine g_icmp_ge C 51 d_Tree_become_8 (by decide) (by first | exact nI_toInt (by omega) | rfl) (by first | exact nI_toInt (by omega) | rfl) (fun b8 => ?_) (fun b8 => ?_)
    · have e : i = 7 := by omega
      subst e
      have hT2 := hT1.hei (h' := hu)
      refine g_aldn C d_Tree_become_51 rfl ?_
      refine g_aldn C d_Tree_become_52 rfl ?_
      refine t_hei C d_Tree_become_53 fl_Tree_18 (by assumption) ?_
      refine g_put C d_Tree_become_56 fl_Tree_18 ft_Tree (ty := .int) ⟨_, _, _, rfl, rfl, by decide +kernel⟩ hT1.1 rfl rfl (Nat.le_of_ble_eq_true rfl) rfl ?_
      exact g_vret C Rr d_Tree_become_59 (by decide) (by decide) ⟨rfl, hS.trans (Sm.set (by omega) (by omega)), hT2.congr (fun k hk => by unfold bec; rw [if_pos hk]) rfl⟩
    · refine g_aldn C d_Tree_become_11 rfl ?_
      refine t_rows C d_Tree_become_12 fl_Tree_11 (by assumption) ?_
      refine g_ldn C d_Tree_become_15 rfl ?_
      refine t_aald C d_Tree_become_16 (by assumption) (by omega) ?_
      refine g_callV (ci := kRow) C d_Tree_become_17 cw_Tree_33 sl_Row_clear (c_Row_clear X.1 w1 (t + 2 + 2 * i) _ (hT1.2.2 i (by omega))) rfl (hT1.2.2 i (by omega)).cell (As := []) rfl rfl rfl (Nat.le_of_ble_eq_true rfl) ⟨rfl, rfl, by decide, by decide⟩ ⟨by decide, by decide⟩ (kV (fun w2 h2 => ?_))
      have hT2 := hT1.up (by omega) h2.1 h2.2
      have hU2 := hU1.sm (Sm.tree (k := i) (by omega) h2.1) (by omega)
      have hr2 := hT2.2.2 i (by omega)
      rw [va_up_self] at hr2
      have hru := hU2.2.2 i (by omega)
      have hlu := hru.len
      refine g_aldn C d_Tree_become_20 rfl ?_
      refine t_rows C d_Tree_become_21 fl_Tree_11 (by assumption) ?_
      refine g_ldn C d_Tree_become_24 rfl ?_
      refine t_aald C d_Tree_become_25 (by assumption) (by omega) ?_
      refine g_aldn C d_Tree_become_26 rfl ?_
      refine t_rows C d_Tree_become_27 fl_Tree_11 (by assumption) ?_
      refine g_ldn C d_Tree_become_30 rfl ?_
      refine t_aald C d_Tree_become_31 (by assumption) (by omega) ?_
      refine g_iconst (v := nI 0) C d_Tree_become_32 rfl ?_
      refine g_aldn C d_Tree_become_33 rfl ?_
      refine t_rows C d_Tree_become_34 fl_Tree_11 (by assumption) ?_
      refine g_ldn C d_Tree_become_37 rfl ?_
      refine t_aald C d_Tree_become_38 (by assumption) (by omega) ?_
      refine t_cnt C d_Tree_become_39 fn_Tree_22 (by assumption) (by omega) ?_
      refine g_callV (ci := kRow) C d_Tree_become_42 cw_Tree_36 sl_Row_addRange (c_Row_addRange X.1 w2 (t + 2 + 2 * i) (u + 2 + 2 * i) [] (ru i) 0 (ru i).length (by omega) (by omega) (by omega) (by simp; omega) hr2 hru) rfl hr2.cell (As := [.ref (u + 2 + 2 * i), .int (nI 0), .int (nI (ru i).length)]) rfl rfl rfl (Nat.le_of_ble_eq_true rfl) ⟨rfl, rfl, by decide, by decide⟩ ⟨by decide, by decide⟩ (kV (fun w3 h3 => ?_))
      have hT3 := hT2.up (by omega) h3.1 h3.2
      refine g_incN C [_, _, _] d_Tree_become_45 rfl rfl ?_
      refine g_goto C 2 d_Tree_become_48 (by decide) ?_
      refine ih (i + 1) (by omega) (by omega) w3 ((hS.trans (Sm.tree (k := i) (by omega) h2.1)).trans (Sm.tree (k := i) (by omega) h3.1)) (hT3.congr (fun k hk => ?_) rfl)
      unfold bec
      by_cases e : k = i
      · subst e
        rw [va_up_self, if_pos (by omega)]
        simp
      · rw [va_up_ne _ _ e, va_up_ne _ _ e]
        by_cases e2 : k < i
        · rw [if_pos (by omega), if_pos e2]
        · rw [if_neg (by omega), if_neg e2]
  exact loop 0 (by omega) w Sm.rf (hT.congr (fun k hk => by unfold bec; rw [if_neg (by omega)]) rfl)
set_option maxRecDepth 100000 in
set_option maxHeartbeats 4000000 in
theorem c_Tree_setRootOnTop (N : gN) (w : gW) (t : Nat) (rs : Nat → List Int32) (h : Nat) (hh : h < 6) (hl : (rs (h + 1)).length < 80) (hT : TreeV w t rs h) : CtN N y_Tree_setRootOnTop b_Tree_setRootOnTop 1 none (rmm 1 21 0 0) [.ref t] w (pV (fun w' => Sm w w' t (t + 16) ∧ TreeV w' t (va_up rs (h + 1) (rs (h + 1) ++ [nI (rs h).length])) (h + 1))) 0 0 := by
  refine ct_intro N [some (.ref t)] (by decide) rfl (Nat.le_of_ble_eq_true rfl) (by simp [Value.category]) ?_
  intro X hX C Rr
  refine g_aldn C d_Tree_setRootOnTop_0 rfl ?_
  refine t_hei C d_Tree_setRootOnTop_1 fl_Tree_18 (by assumption) ?_
  refine g_bipush (v := nI 6) C d_Tree_setRootOnTop_4 (by decide) ?_
  refine g_icmp_ge C 45 d_Tree_setRootOnTop_6 (by decide) (by first | exact nI_toInt (by omega) | rfl) (by first | exact nI_toInt (by omega) | rfl) (fun b6 => ?_) (fun b6 => ?_)
  · exfalso; omega
  · refine g_aldn C d_Tree_setRootOnTop_9 rfl ?_
    refine t_rows C d_Tree_setRootOnTop_10 fl_Tree_11 (by assumption) ?_
    refine g_aldn C d_Tree_setRootOnTop_13 rfl ?_
    refine t_hei C d_Tree_setRootOnTop_14 fl_Tree_18 (by assumption) ?_
    refine g_iconst (v := nI 1) C d_Tree_setRootOnTop_17 rfl ?_
    first | refine g_addN C d_Tree_setRootOnTop_18 ?_ | refine g_add C d_Tree_setRootOnTop_18 ?_
    refine t_aald C d_Tree_setRootOnTop_19 (by assumption) (by omega) ?_
    refine g_aldn C d_Tree_setRootOnTop_20 rfl ?_
    refine t_rows C d_Tree_setRootOnTop_21 fl_Tree_11 (by assumption) ?_
    refine g_aldn C d_Tree_setRootOnTop_24 rfl ?_
    refine t_hei C d_Tree_setRootOnTop_25 fl_Tree_18 (by assumption) ?_
    refine t_aald C d_Tree_setRootOnTop_28 (by assumption) (by omega) ?_
    refine t_cnt C d_Tree_setRootOnTop_29 fn_Tree_22 (by assumption) (by omega) ?_
    refine g_callV (ci := kRow) C d_Tree_setRootOnTop_32 cw_Tree_40 sl_Row_addLast (c_Row_addLast X.1 w (t + 2 + 2 * (h + 1)) _ (nI (rs h).length) hl (hT.2.2 (h + 1) (by omega))) rfl (hT.2.2 (h + 1) (by omega)).cell (As := [.int (nI (rs h).length)]) rfl rfl rfl (Nat.le_of_ble_eq_true rfl) ⟨rfl, rfl, by decide, by decide⟩ ⟨by decide, by decide⟩ (kV (fun w2 h2 => ?_))
    have hT2 := hT.up (by omega) h2.1 h2.2
    have hT3 := hT2.hei (h' := h + 1)
    refine g_aldn C d_Tree_setRootOnTop_35 rfl ?_
    refine g_dup C d_Tree_setRootOnTop_36 rfl ?_
    refine t_hei C d_Tree_setRootOnTop_37 fl_Tree_18 (by assumption) ?_
    refine g_iconst (v := nI 1) C d_Tree_setRootOnTop_40 rfl ?_
    first | refine g_addN C d_Tree_setRootOnTop_41 ?_ | refine g_add C d_Tree_setRootOnTop_41 ?_
    refine g_put C d_Tree_setRootOnTop_42 fl_Tree_18 ft_Tree (ty := .int) ⟨_, _, _, rfl, rfl, by decide +kernel⟩ hT2.1 rfl rfl (Nat.le_of_ble_eq_true rfl) rfl ?_
    exact g_vret C Rr d_Tree_setRootOnTop_45 (by decide) (by decide) ⟨rfl, (Sm.tree (k := h + 1) (by omega) h2.1).trans (Sm.set (by omega) (by omega)), hT3⟩
